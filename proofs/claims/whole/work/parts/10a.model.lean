/-! the reference: its state in memory -/
def ztl (M : zz_M) (S : Nat → Option Nat) : Prop := ∀ i, i < 24 → M 101 i = zo (S i)
def zmf (ks : List Nat) (M M1 : zz_M) : Prop := zfr (100 :: ks) M M1 ∧ M1 100 0 = M 100 0
theorem zmf_rf (ks : List Nat) (M : zz_M) : zmf ks M M := ⟨zfr_rf _ _, rfl⟩
theorem zmf_fr {ks : List Nat} {M M1 : zz_M} (h : zfr ks M M1) (h1 : 100 ∉ ks) : zmf ks M M1 := ⟨zfr_mono h (fun _ q => List.mem_cons_of_mem _ q), by rw [h 100 h1]⟩
theorem zmf_ct {ks k1 k2 : List Nat} {M M1 M2 : zz_M} (h1 : zmf k1 M M1) (h2 : zmf k2 M1 M2) (s1 : ∀ j ∈ k1, j ∈ ks) (s2 : ∀ j ∈ k2, j ∈ ks) : zmf ks M M2 := ⟨zfr_ct h1.1 h2.1 (fun j hj => by rcases List.mem_cons.mp hj with rfl | h; exact List.mem_cons_self; exact List.mem_cons_of_mem _ (s1 j h)) (fun j hj => by rcases List.mem_cons.mp hj with rfl | h; exact List.mem_cons_self; exact List.mem_cons_of_mem _ (s2 j h)), h2.2.trans h1.2⟩
theorem zmf_up {ks : List Nat} {M M1 : zz_M} {k : Nat} {f : Nat → Int32} (h : zmf ks M M1) (hk : k ∈ ks) (h1 : k ≠ 100) : zmf ks M (zz_up M1 k f) := ⟨zfr_up h.1 (List.mem_cons_of_mem _ hk), by rw [zz_up_ne _ _ (Ne.symm h1)]; exact h.2⟩
theorem zmf_fld {ks : List Nat} {M M1 : zz_M} {j : Nat} {x : Int32} (h : zmf ks M M1) (hj : 0 ≠ j) : zmf ks M (zz_up M1 100 (upd (M1 100) j x)) := ⟨zfr_up h.1 List.mem_cons_self, by rw [zz_up_same, upd_ne _ _ hj]; exact h.2⟩
theorem zmf_mono {k1 k2 : List Nat} {M M1 : zz_M} (h : zmf k1 M M1) (hs : ∀ j ∈ k1, j ∈ k2) : zmf k2 M M1 := ⟨zfr_mono h.1 (fun j hj => by rcases List.mem_cons.mp hj with rfl | q; exact List.mem_cons_self; exact List.mem_cons_of_mem _ (hs j q)), h.2⟩
theorem ztl_mf {ks : List Nat} {M M1 : zz_M} {S : Nat → Option Nat} (h : ztl M S) (hf : zmf ks M M1) (h1 : 101 ∉ ks) : ztl M1 S := fun i hi => by rw [hf.1 101 (fun q => by rcases List.mem_cons.mp q with q | q; cases q; exact h1 q)]; exact h i hi
def zstk (M : zz_M) (L : List Nat) : Prop := M 100 1 = nI L.length ∧ L.length ≤ 64 ∧ zS (M 103) L ∧ ∀ x ∈ L, x < 6
theorem zdg_ok {a kn mo : Nat} (h : zok a kn mo = true) (ha : a < 2 ^ 63) : zo (zs_dg (lN a) kn) = nI (zd a).length := by
  rw [zs_dg_lN ha]
  unfold zok at h
  rw [Bool.and_eq_true] at h
  rw [if_pos h.1]
  rfl
theorem zr_drop {a j : Nat} (h : j < (zd a).length) : (zr a).drop j = (zr a).getD j 0 :: (zr a).drop (j + 1) := by
  have h2 : j < (zr a).length := by rw [zr_len]; exact h
  rw [List.drop_eq_getElem_cons h2, List.getD_eq_getElem?_getD, List.getElem?_eq_getElem h2]
  rfl
theorem zr_at {a j : Nat} (h : j < (zd a).length) : (zr a)[j]? = some ((zr a).getD j 0) := by
  have h2 : j < (zr a).length := by rw [zr_len]; exact h
  rw [List.getD_eq_getElem?_getD, List.getElem?_eq_getElem h2]
  rfl
theorem zr_getD_lt {a kn mo j : Nat} (hz : zok a kn mo = true) (h : j < (zd a).length) : (zr a).getD j 0 < kn := zr_lt hz _ (List.mem_of_getElem? (zr_at h))

theorem inX8_ruleOf_X8 : ∀ w ∈ u_ws RX8 TX8 14, w ∈ wsX8_ruleOf := by decide +kernel
theorem lkX8_ruleOf_7 : Cond.fieldLink RX8 7 RX8 "told" "[I" ∈ wsX8_ruleOf := by decide +kernel
set_option maxHeartbeats 4000000 in
set_option maxRecDepth 100000 in
theorem kkX8_ruleOf (l : Launch) (G : zz_C) (hJ : zz_J G) (M : zz_M) (s0 a0 : Nat) (hs0 : s0 < 6) (ha0 : a0 < 3) : Met l yX8_ruleOf wsX8_ruleOf ({ frames := 0, cells := 0, slots := 0, locals := 0 } : Room) (zz_P G M [.ref (G.2.2 100), .int (nI s0), .int (nI a0)]) (zz_Qi G (fun r M1 => M = M1 ∧ r = M 101 (3 * s0 + a0))) 0 0 (zz_A G) := by
  refine zz_start hJ (by decide) rfl (Nat.le_of_ble_eq_true rfl) ?_
  intro p e s m below meth c E hr hlk
  have hts := E.2.2.2.2.1
  show zz_Z p l e (headSpec wsX8_ruleOf ({ frames := 0, cells := 0, slots := 0, locals := 0 } : Room)).room s m ([.ref (G.2.2 100), .int (nI s0), .int (nI a0)] : List Value).toArray below meth c 0 0 (MQ below (zz_Qi G (fun r M1 => M = M1 ∧ r = M 101 (3 * s0 + a0))) ([.ref (G.2.2 100), .int (nI s0), .int (nI a0)] : List Value).toArray s 0 0 (zz_A G)) 3 G (zz_A G) M 0 [(0, .ref (G.2.2 100)), (1, .int (nI s0)), (2, .int (nI a0))] []
  refine zz_aload_n (pc := 0) E dX8_ruleOf_0 rfl ?_
  refine zz_gf (pc := 1) E 100 (by decide) rfl rfl inX8_ruleOf_X8 0 (by decide) lkX8_ruleOf_7 (fun _ h => h) rfl dX8_ruleOf_1 ?_
  refine zz_iconst (pc := 4) (v := nI 3) E dX8_ruleOf_4 (by decide) ?_
  refine zz_iload_n (pc := 5) E dX8_ruleOf_5 rfl ?_
  refine zn_imul (pc := 6) E dX8_ruleOf_6 ?_
  refine zz_iload_n (pc := 7) E dX8_ruleOf_7 rfl ?_
  refine zn_iadd (pc := 8) E dX8_ruleOf_8 ?_
  refine zz_iald (pc := 9) E 101 (_) (n := 24) (by decide) rfl rfl (by omega) (by decide) dX8_ruleOf_9 ?_
  exact zz_iret (pc := 10) E hr hlk dX8_ruleOf_10 ⟨rfl, rfl⟩

theorem inX8_claimOf_X8 : ∀ w ∈ u_ws RX8 TX8 14, w ∈ wsX8_claimOf := by decide +kernel
theorem lkX8_claimOf_7 : Cond.fieldLink RX8 7 RX8 "told" "[I" ∈ wsX8_claimOf := by decide +kernel
set_option maxHeartbeats 4000000 in
set_option maxRecDepth 100000 in
theorem kkX8_claimOf (l : Launch) (G : zz_C) (hJ : zz_J G) (M : zz_M) (s0 : Nat) (hs0 : s0 < 6) : Met l yX8_claimOf wsX8_claimOf ({ frames := 0, cells := 0, slots := 0, locals := 0 } : Room) (zz_P G M [.ref (G.2.2 100), .int (nI s0)]) (zz_Qi G (fun r M1 => M = M1 ∧ r = M 101 (18 + s0))) 0 0 (zz_A G) := by
  refine zz_start hJ (by decide) rfl (Nat.le_of_ble_eq_true rfl) ?_
  intro p e s m below meth c E hr hlk
  have hts := E.2.2.2.2.1
  show zz_Z p l e (headSpec wsX8_claimOf ({ frames := 0, cells := 0, slots := 0, locals := 0 } : Room)).room s m ([.ref (G.2.2 100), .int (nI s0)] : List Value).toArray below meth c 0 0 (MQ below (zz_Qi G (fun r M1 => M = M1 ∧ r = M 101 (18 + s0))) ([.ref (G.2.2 100), .int (nI s0)] : List Value).toArray s 0 0 (zz_A G)) 2 G (zz_A G) M 0 [(0, .ref (G.2.2 100)), (1, .int (nI s0))] []
  refine zz_aload_n (pc := 0) E dX8_claimOf_0 rfl ?_
  refine zz_gf (pc := 1) E 100 (by decide) rfl rfl inX8_claimOf_X8 0 (by decide) lkX8_claimOf_7 (fun _ h => h) rfl dX8_claimOf_1 ?_
  refine zz_bipush (pc := 4) (v := nI 18) E dX8_claimOf_4 (by decide) ?_
  refine zz_iload_n (pc := 6) E dX8_claimOf_6 rfl ?_
  refine zn_iadd (pc := 7) E dX8_claimOf_7 ?_
  refine zz_iald (pc := 8) E 101 (_) (n := 24) (by decide) rfl rfl (by omega) (by decide) dX8_claimOf_8 ?_
  exact zz_iret (pc := 9) E hr hlk dX8_claimOf_9 ⟨rfl, rfl⟩

theorem inX8_stacks_X8 : ∀ w ∈ u_ws RX8 TX8 14, w ∈ wsX8_stacks := by decide +kernel
theorem lkX8_stacks_16 : Cond.fieldLink RX8 16 RX8 "stack" "[I" ∈ wsX8_stacks := by decide +kernel
theorem lkX8_stacks_72 : Cond.fieldLink RX8 72 RX8 "stacked" "I" ∈ wsX8_stacks := by decide +kernel
set_option maxHeartbeats 4000000 in
set_option maxRecDepth 100000 in
theorem kkX8_stacks (l : Launch) (G : zz_C) (hJ : zz_J G) (M : zz_M) (a mo : Nat) (L : List Nat) (hz : zok a 6 mo = true) (hmo : mo < 10) (hL : zstk M L) (hc : (zd a).length + L.length ≤ 64) : Met l yX8_stacks wsX8_stacks ({ frames := 2, cells := 0, slots := 0, locals := 47 } : Room) (zz_P G M [.ref (G.2.2 100), .int (nI a)]) (zz_Qv G (fun M1 => zmf [103] M M1 ∧ zstk M1 (zr a ++ L))) 0 0 (zz_A G) := by
  refine zz_start hJ (by decide) rfl (Nat.le_of_ble_eq_true rfl) ?_
  intro p e s m below meth c E hr hlk
  have hts := E.2.2.2.2.1
  show zz_Z p l e (headSpec wsX8_stacks ({ frames := 2, cells := 0, slots := 0, locals := 47 } : Room)).room s m ([.ref (G.2.2 100), .int (nI a)] : List Value).toArray below meth c 0 0 (MQ below (zz_Qv G (fun M1 => zmf [103] M M1 ∧ zstk M1 (zr a ++ L))) ([.ref (G.2.2 100), .int (nI a)] : List Value).toArray s 0 0 (zz_A G)) 4 G (zz_A G) M 0 [(0, .ref (G.2.2 100)), (1, .int (nI a))] []
  have ha : a < 2 ^ 31 := by
    have h1 := zok_lt hz (by omega)
    have h2 : 10 ^ mo ≤ 10 ^ 9 := Nat.pow_le_pow_right (by decide) (by omega)
    omega
  have hz20 : zok a 6 20 = true := zok_mono hz (Nat.le_refl 6) (by omega)
  have hn20 := zd_len a
  refine zz_iload_n (pc := 0) E dX8_stacks_0 rfl ?_
  refine zn_i2l (pc := 1) E dX8_stacks_1 (by omega) ?_
  refine zz_bipush (pc := 2) (v := nI 6) E dX8_stacks_2 (by decide) ?_
  refine zz_ciS (pc := 4) E (kkX8_digits l G hJ _ _ _ (by decide)) (va_cwS 2 hts gX8_stacks_X8_digits rfl rfl rfl (by decide +kernel) ⟨Nat.le_of_ble_eq_true rfl, Nat.le_of_ble_eq_true rfl⟩) rfl rfl (Nat.le_of_ble_eq_true rfl) dX8_stacks_4 (fun r4 M4 q4 => ?_)
  obtain ⟨rfl, rfl⟩ := q4
  refine zz_eqi (y := nI (zd a).length) (zdg_ok hz (by omega)) ?_
  refine zz_istore_n (pc := 7) (lv' := [(0, _), (1, _), (2, _)]) E dX8_stacks_7 (by decide) rfl ?_
  refine zz_iload_n (pc := 8) E dX8_stacks_8 rfl ?_
  refine zz_iconst (pc := 9) (v := nI 1) E dX8_stacks_9 (by decide) ?_
  refine zz_isub (pc := 10) E dX8_stacks_10 ?_
  refine zz_eqi (y := zpm (zd a).length) (zpm_sub _) ?_
  refine zz_istore_n (pc := 11) (lv' := [(0, _), (1, _), (2, _), (3, _)]) E dX8_stacks_11 (by decide) rfl ?_
  have key : ∀ (j : Nat) (M2 : zz_M), j ≤ (zd a).length → zmf [103] M M2 → zstk M2 ((zr a).drop j ++ L) → zz_Z p l e (headSpec wsX8_stacks ({ frames := 2, cells := 0, slots := 0, locals := 47 } : Room)).room s m ([.ref (G.2.2 100), .int (nI a)] : List Value).toArray below meth c 0 0 (MQ below (zz_Qv G (fun M1 => zmf [103] M M1 ∧ zstk M1 (zr a ++ L))) ([.ref (G.2.2 100), .int (nI a)] : List Value).toArray s 0 0 (zz_A G)) 4 G (zz_A G) M2 12 [(0, .ref (G.2.2 100)), (1, .int (nI a)), (2, .int (nI (zd a).length)), (3, .int (zpm j))] [] := by
    intro j
    induction j with
    | zero =>
      intro M2 hj hf hw
      refine zz_iload_n (pc := 12) E dX8_stacks_12 rfl ?_
      refine zz_if_lt (pc := 13) (tgt := 48) E dX8_stacks_13 (by decide) (fun h13 => ?_) (fun h13 => ?_)
      · exact zz_vret (pc := 48) E hr hlk dX8_stacks_48 ⟨hf, hw⟩
      · exact absurd (by decide) h13
    | succ j ih =>
      intro M2 hj hf hw
      have hlen : ((zr a).drop (j + 1) ++ L).length = (zd a).length - (j + 1) + L.length := by rw [List.length_append, List.length_drop, zr_len]
      have hd6 := zr_getD_lt (j := j) hz (by omega)
      show zz_Z p l e (headSpec wsX8_stacks ({ frames := 2, cells := 0, slots := 0, locals := 47 } : Room)).room s m ([.ref (G.2.2 100), .int (nI a)] : List Value).toArray below meth c 0 0 (MQ below (zz_Qv G (fun M1 => zmf [103] M M1 ∧ zstk M1 (zr a ++ L))) ([.ref (G.2.2 100), .int (nI a)] : List Value).toArray s 0 0 (zz_A G)) 4 G (zz_A G) M2 12 [(0, .ref (G.2.2 100)), (1, .int (nI a)), (2, .int (nI (zd a).length)), (3, .int (nI j))] []
      refine zz_iload_n (pc := 12) E dX8_stacks_12 rfl ?_
      refine zn_if_lt (pc := 13) (tgt := 48) E dX8_stacks_13 (by decide) (by omega) (fun h13 => ?_) (fun h13 => ?_)
      · exact absurd h13 (by omega)
      · refine zz_aload_n (pc := 16) E dX8_stacks_16 rfl ?_
        refine zz_gf (pc := 17) E 100 (by decide) rfl rfl inX8_stacks_X8 4 (by decide) lkX8_stacks_16 (fun _ h => h) rfl dX8_stacks_17 ?_
        refine zz_aload_n (pc := 20) E dX8_stacks_20 rfl ?_
        refine zz_gf (pc := 21) E 100 (by decide) rfl rfl inX8_stacks_X8 3 (by decide) lkX8_stacks_72 (fun _ h => h) rfl dX8_stacks_21 ?_
        refine zz_eqi (y := nI ((zr a).drop (j + 1) ++ L).length) hw.1 ?_
        refine zz_iload_n (pc := 24) E dX8_stacks_24 rfl ?_
        refine zn_i2l (pc := 25) E dX8_stacks_25 (by omega) ?_
        refine zz_iload_n (pc := 26) E dX8_stacks_26 rfl ?_
        refine zz_iload_n (pc := 27) E dX8_stacks_27 rfl ?_
        refine zz_ciS (pc := 28) E (kkX8_digitAt l G hJ _ _ _ _ 6 (by omega) rfl (by omega) hz20) (va_cwS 3 hts gX8_stacks_X8_digitAt rfl rfl rfl (by decide +kernel) ⟨Nat.le_of_ble_eq_true rfl, Nat.le_of_ble_eq_true rfl⟩) rfl rfl (Nat.le_of_ble_eq_true rfl) dX8_stacks_28 (fun r28 M28 q28 => ?_)
        obtain ⟨rfl, rfl⟩ := q28
        refine zz_iast (pc := 31) E 103 (((zr a).drop (j + 1) ++ L).length) (n := 64) (by decide) (fun _ => rfl) rfl (by omega) (by decide) dX8_stacks_31 ?_
        refine zz_aload_n (pc := 32) E dX8_stacks_32 rfl ?_
        refine zz_dup (pc := 33) E dX8_stacks_33 rfl ?_
        refine zz_gf (pc := 34) E 100 (by decide) rfl rfl inX8_stacks_X8 3 (by decide) lkX8_stacks_72 (fun _ h => h) rfl dX8_stacks_34 ?_
        refine zz_eqi (y := nI ((zr a).drop (j + 1) ++ L).length) (by rw [zz_up_ne _ _ (by decide)]; exact hw.1) ?_
        refine zz_iconst (pc := 37) (v := nI 1) E dX8_stacks_37 (by decide) ?_
        refine zn_iadd (pc := 38) E dX8_stacks_38 ?_
        refine zz_pfj (pc := 39) E 100 1 (by decide) rfl rfl inX8_stacks_X8 tyX8 tyX8_ok nmX8 3 (by decide) lkX8_stacks_72 (fun _ h => h) rfl rfl (Nat.le_of_ble_eq_true rfl) rfl dX8_stacks_39 ?_
        refine zz_iinc (pc := 42) (v := zpm j) (lv' := [(0, _), (1, _), (2, _), (3, _)]) E dX8_stacks_42 rfl (zpm_dec j) (by decide) rfl ?_
        refine zz_goto (pc := 45) (tgt := 12) E dX8_stacks_45 (by decide) ?_
        exact zz_to (ih _ (by omega) (zmf_fld (zmf_up hf (by simp) (by decide)) (by decide)) (by rw [zr_drop (show j < (zd a).length by omega), List.cons_append]; exact ⟨by rw [zz_up_same]; rfl, by rw [List.length_cons]; omega, by rw [zz_up_ne _ _ (by decide), zz_up_same]; exact zS_push hw.2.2.1, fun x hx => by rcases List.mem_cons.mp hx with rfl | hx; exact hd6; exact hw.2.2.2 x hx⟩)) ⟨rfl, rfl, rfl, rfl, trivial⟩
  exact zz_to (key _ M (Nat.le_refl _) (zmf_rf _ _) (by rw [List.drop_eq_nil_of_le (by rw [zr_len]; exact Nat.le_refl _)]; exact hL)) ⟨rfl, rfl, rfl, rfl, trivial⟩

theorem inX8_reads_X8 : ∀ w ∈ u_ws RX8 TX8 14, w ∈ wsX8_reads := by decide +kernel
theorem lkX8_reads_72 : Cond.fieldLink RX8 72 RX8 "stacked" "I" ∈ wsX8_reads := by decide +kernel
theorem lkX8_reads_16 : Cond.fieldLink RX8 16 RX8 "stack" "[I" ∈ wsX8_reads := by decide +kernel
set_option maxHeartbeats 4000000 in
set_option maxRecDepth 100000 in
theorem kkX8_reads (l : Launch) (G : zz_C) (hJ : zz_J G) (M : zz_M) (S : Nat → Option Nat) (L : List Nat) (b : Nat) (hV : zV S) (hS : ztl M S) (hL : zstk M L) (hb : b < 3) (hc : L.length + 2 ≤ 64) : Met l yX8_reads wsX8_reads ({ frames := 3, cells := 0, slots := 0, locals := 70 } : Room) (zz_P G M [.ref (G.2.2 100), .int (nI b)]) (zz_Qi G (fun r M1 => zmf [103] M M1 ∧ r = zz_b (zstep S L b).isSome ∧ zstk M1 ((zstep S L b).getD L))) 0 0 (zz_A G) := by
  refine zz_start hJ (by decide) rfl (Nat.le_of_ble_eq_true rfl) ?_
  intro p e s m below meth c E hr hlk
  have hts := E.2.2.2.2.1
  show zz_Z p l e (headSpec wsX8_reads ({ frames := 3, cells := 0, slots := 0, locals := 70 } : Room)).room s m ([.ref (G.2.2 100), .int (nI b)] : List Value).toArray below meth c 0 0 (MQ below (zz_Qi G (fun r M1 => zmf [103] M M1 ∧ r = zz_b (zstep S L b).isSome ∧ zstk M1 ((zstep S L b).getD L))) ([.ref (G.2.2 100), .int (nI b)] : List Value).toArray s 0 0 (zz_A G)) 2 G (zz_A G) M 0 [(0, .ref (G.2.2 100)), (1, .int (nI b))] []
  have hlb := hL.2.1
  cases L with
  | nil =>
    refine zz_aload_n (pc := 0) E dX8_reads_0 rfl ?_
    refine zz_gf (pc := 1) E 100 (by decide) rfl rfl inX8_reads_X8 3 (by decide) lkX8_reads_72 (fun _ h => h) rfl dX8_reads_1 ?_
    refine zz_eqi (y := nI 0) hL.1 ?_
    refine zn_if_eq (pc := 4) (tgt := 28) E dX8_reads_4 (by decide) (by omega) (fun h4 => ?_) (fun h4 => ?_)
    · refine zz_iconst (pc := 28) (v := nI 0) E dX8_reads_28 (by decide) ?_
      exact zz_zret (pc := 29) E hr hlk dX8_reads_29 (by decide) ⟨zmf_rf _ _, rfl, hL⟩
    · exact absurd rfl h4
  | cons x t =>
    have hx := hL.2.2.2 x List.mem_cons_self
    have hlt : ∀ q, S (3 * x + b) = some q → q < 2 ^ 31 := fun q hq => by have := zV_lt hV (by omega) hq; omega
    have hSx := hS (3 * x + b) (by omega)
    have hlc : (x :: t).length = t.length + 1 := rfl
    refine zz_aload_n (pc := 0) E dX8_reads_0 rfl ?_
    refine zz_gf (pc := 1) E 100 (by decide) rfl rfl inX8_reads_X8 3 (by decide) lkX8_reads_72 (fun _ h => h) rfl dX8_reads_1 ?_
    refine zz_eqi (y := nI (t.length + 1)) hL.1 ?_
    refine zn_if_eq (pc := 4) (tgt := 28) E dX8_reads_4 (by decide) (by omega) (fun h4 => ?_) (fun h4 => ?_)
    · exact absurd h4 (by omega)
    · refine zz_aload_n (pc := 7) E dX8_reads_7 rfl ?_
      refine zz_aload_n (pc := 8) E dX8_reads_8 rfl ?_
      refine zz_gf (pc := 9) E 100 (by decide) rfl rfl inX8_reads_X8 4 (by decide) lkX8_reads_16 (fun _ h => h) rfl dX8_reads_9 ?_
      refine zz_aload_n (pc := 12) E dX8_reads_12 rfl ?_
      refine zz_gf (pc := 13) E 100 (by decide) rfl rfl inX8_reads_X8 3 (by decide) lkX8_reads_72 (fun _ h => h) rfl dX8_reads_13 ?_
      refine zz_eqi (y := nI (t.length + 1)) hL.1 ?_
      refine zz_iconst (pc := 16) (v := nI 1) E dX8_reads_16 (by decide) ?_
      refine zn_isub (pc := 17) E dX8_reads_17 (by omega) ?_
      refine zz_iald (pc := 18) E 103 (t.length) (n := 64) (by decide) rfl rfl (by omega) (by decide) dX8_reads_18 ?_
      refine zz_eqi (y := nI x) hL.2.2.1.1 ?_
      refine zz_iload_n (pc := 19) E dX8_reads_19 rfl ?_
      refine zz_ciV (pc := 20) E 100 (kkX8_ruleOf l G hJ _ _ _ hx hb) (cwV 2 hts gX8_reads_X8_ruleOf rfl rfl rfl (by decide +kernel) ⟨Nat.le_of_ble_eq_true rfl, Nat.le_of_ble_eq_true rfl⟩) (by decide) rfl rfl rfl rfl (Nat.le_of_ble_eq_true rfl) dX8_reads_20 (fun r20 M20 q20 => ?_)
      obtain ⟨rfl, rfl⟩ := q20
      refine zz_eqi (y := zo (S (3 * x + b))) hSx ?_
      refine zz_bipush (pc := 23) (v := -9) E dX8_reads_23 (by decide) ?_
      refine zz_icmp_ne (pc := 25) (tgt := 30) E dX8_reads_25 (by decide) (fun h25 => ?_) (fun h25 => ?_)
      · obtain ⟨q, hq⟩ : ∃ q, S (3 * x + b) = some q := by
          cases hv2 : S (3 * x + b) with
          | none => exact absurd (by rw [hv2]; rfl) h25
          | some q => exact ⟨q, rfl⟩
        have hzq := hV.1 _ (by omega) q hq
        have hlq := zok_len hzq
        have hst : zstep S (x :: t) b = some (zr q ++ t) := by
          show (S (3 * x + b)).map (fun r => zr r ++ t) = _
          rw [hq]
          rfl
        refine zz_aload_n (pc := 30) E dX8_reads_30 rfl ?_
        refine zz_dup (pc := 31) E dX8_reads_31 rfl ?_
        refine zz_gf (pc := 32) E 100 (by decide) rfl rfl inX8_reads_X8 3 (by decide) lkX8_reads_72 (fun _ h => h) rfl dX8_reads_32 ?_
        refine zz_eqi (y := nI (t.length + 1)) hL.1 ?_
        refine zz_iconst (pc := 35) (v := nI 1) E dX8_reads_35 (by decide) ?_
        refine zn_isub (pc := 36) E dX8_reads_36 (by omega) ?_
        refine zz_pfj (pc := 37) E 100 1 (by decide) rfl rfl inX8_reads_X8 tyX8 tyX8_ok nmX8 3 (by decide) lkX8_reads_72 (fun _ h => h) rfl rfl (Nat.le_of_ble_eq_true rfl) rfl dX8_reads_37 ?_
        generalize hM2 : zz_up _ 100 _ = M2
        have hf2 : zmf [103] M M2 := by rw [← hM2]; exact zmf_fld (zmf_rf _ _) (by decide)
        have hw2 : zstk M2 t := by rw [← hM2]; exact ⟨by rw [zz_up_same]; rfl, by omega, by rw [zz_up_ne _ _ (by decide)]; exact hL.2.2.1.2, fun y hy => hL.2.2.2 y (List.mem_cons_of_mem _ hy)⟩
        have hx2 : M2 103 t.length = nI x := by rw [← hM2, zz_up_ne _ _ (by decide)]; exact hL.2.2.1.1
        have hS2 : M2 101 (3 * x + b) = nI q := by rw [← hM2, zz_up_ne _ _ (by decide), hSx, hq]; rfl
        clear hM2
        refine zz_aload_n (pc := 40) E dX8_reads_40 rfl ?_
        refine zz_aload_n (pc := 41) E dX8_reads_41 rfl ?_
        refine zz_aload_n (pc := 42) E dX8_reads_42 rfl ?_
        refine zz_gf (pc := 43) E 100 (by decide) rfl rfl inX8_reads_X8 4 (by decide) lkX8_reads_16 (fun _ h => h) rfl dX8_reads_43 ?_
        refine zz_aload_n (pc := 46) E dX8_reads_46 rfl ?_
        refine zz_gf (pc := 47) E 100 (by decide) rfl rfl inX8_reads_X8 3 (by decide) lkX8_reads_72 (fun _ h => h) rfl dX8_reads_47 ?_
        refine zz_eqi (y := nI t.length) hw2.1 ?_
        refine zz_iald (pc := 50) E 103 (t.length) (n := 64) (by decide) rfl rfl (by omega) (by decide) dX8_reads_50 ?_
        refine zz_eqi (y := nI x) hx2 ?_
        refine zz_iload_n (pc := 51) E dX8_reads_51 rfl ?_
        refine zz_ciV (pc := 52) E 100 (kkX8_ruleOf l G hJ _ _ _ hx hb) (cwV 2 hts gX8_reads_X8_ruleOf rfl rfl rfl (by decide +kernel) ⟨Nat.le_of_ble_eq_true rfl, Nat.le_of_ble_eq_true rfl⟩) (by decide) rfl rfl rfl rfl (Nat.le_of_ble_eq_true rfl) dX8_reads_52 (fun r52 M52 q52 => ?_)
        obtain ⟨rfl, rfl⟩ := q52
        refine zz_eqi (y := nI q) hS2 ?_
        refine zz_cvV (pc := 55) E 100 (kkX8_stacks l G hJ _  q 3 t hzq (by decide) hw2 (by omega)) (cwV 1 hts gX8_reads_X8_stacks rfl rfl rfl (by decide +kernel) ⟨Nat.le_of_ble_eq_true rfl, Nat.le_of_ble_eq_true rfl⟩) (by decide) rfl rfl rfl rfl (Nat.le_of_ble_eq_true rfl) dX8_reads_55 (fun M55 q55 => ?_)
        obtain ⟨f55, w55⟩ := q55
        refine zz_iconst (pc := 58) (v := nI 1) E dX8_reads_58 (by decide) ?_
        exact zz_zret (pc := 59) E hr hlk dX8_reads_59 (by decide) ⟨zmf_ct hf2 f55 (fun _ h => h) (fun _ h => h), by rw [hst]; rfl, by rw [hst]; exact w55⟩
      · rw [zo_m9 hlt] at h25
        have hn : zstep S (x :: t) b = none := by
          show (S (3 * x + b)).map (fun r => zr r ++ t) = none
          rw [h25]
          rfl
        refine zz_iconst (pc := 28) (v := nI 0) E dX8_reads_28 (by decide) ?_
        exact zz_zret (pc := 29) E hr hlk dX8_reads_29 (by decide) ⟨zmf_rf _ _, by rw [hn]; rfl, by rw [hn]; exact hL⟩

theorem inX8_readMany_X8 : ∀ w ∈ u_ws RX8 TX8 14, w ∈ wsX8_readMany := by decide +kernel
theorem lkX8_readMany_72 : Cond.fieldLink RX8 72 RX8 "stacked" "I" ∈ wsX8_readMany := by decide +kernel
set_option maxHeartbeats 4000000 in
set_option maxRecDepth 100000 in
theorem kkX8_readMany (l : Launch) (G : zz_C) (hJ : zz_J G) (M : zz_M) (S : Nat → Option Nat) (a d : Nat) (hV : zV S) (hS : ztl M S) (ha : zok a 6 9 = true) (hd : zok d 3 12 = true) : Met l yX8_readMany wsX8_readMany ({ frames := 4, cells := 0, slots := 0, locals := 91 } : Room) (zz_P G M [.ref (G.2.2 100), .int (nI a), .long (lN d), .int (nI (zd d).length)]) (zz_Qi G (fun r M1 => zmf [103] M M1 ∧ r = nI (zrd S (zr a) (zr d)).1 ∧ zstk M1 (zrd S (zr a) (zr d)).2)) 0 0 (zz_A G) := by
  refine zz_start hJ (by decide) rfl (Nat.le_of_ble_eq_true rfl) ?_
  intro p e s m below meth c E hr hlk
  have hts := E.2.2.2.2.1
  show zz_Z p l e (headSpec wsX8_readMany ({ frames := 4, cells := 0, slots := 0, locals := 91 } : Room)).room s m ([.ref (G.2.2 100), .int (nI a), .long (lN d), .int (nI (zd d).length)] : List Value).toArray below meth c 0 0 (MQ below (zz_Qi G (fun r M1 => zmf [103] M M1 ∧ r = nI (zrd S (zr a) (zr d)).1 ∧ zstk M1 (zrd S (zr a) (zr d)).2)) ([.ref (G.2.2 100), .int (nI a), .long (lN d), .int (nI (zd d).length)] : List Value).toArray s 0 0 (zz_A G)) 6 G (zz_A G) M 0 [(0, .ref (G.2.2 100)), (1, .int (nI a)), (2, .long (lN d)), (4, .int (nI (zd d).length))] []
  have ha1 := zok_lt ha (by decide)
  have hd1 := zok_lt hd (by decide)
  have ha2 := zok_len ha
  have hd2 := zok_len hd
  have hd20 : zok d 3 20 = true := zok_mono hd (Nat.le_refl 3) (by decide)
  refine zz_aload_n (pc := 0) E dX8_readMany_0 rfl ?_
  refine zz_iconst (pc := 1) (v := nI 0) E dX8_readMany_1 (by decide) ?_
  refine zz_pfj (pc := 2) E 100 1 (by decide) rfl rfl inX8_readMany_X8 tyX8 tyX8_ok nmX8 3 (by decide) lkX8_readMany_72 (fun _ h => h) rfl rfl (Nat.le_of_ble_eq_true rfl) rfl dX8_readMany_2 ?_
  refine zz_aload_n (pc := 5) E dX8_readMany_5 rfl ?_
  refine zz_iload_n (pc := 6) E dX8_readMany_6 rfl ?_
  refine zz_cvV (pc := 7) E 100 (kkX8_stacks l G hJ _  a 9 [] ha (by decide) ⟨by rw [zz_up_same]; rfl, by decide, trivial, fun _ h => by cases h⟩ (by rw [List.length_nil]; omega)) (cwV 1 hts gX8_readMany_X8_stacks rfl rfl rfl (by decide +kernel) ⟨Nat.le_of_ble_eq_true rfl, Nat.le_of_ble_eq_true rfl⟩) (by decide) rfl rfl rfl rfl (Nat.le_of_ble_eq_true rfl) dX8_readMany_7 (fun M7 q7 => ?_)
  obtain ⟨f7, w7⟩ := q7
  refine zz_iconst (pc := 10) (v := nI 0) E dX8_readMany_10 (by decide) ?_
  refine zz_istore (pc := 11) (lv' := [(0, _), (1, _), (2, _), (4, _), (5, _)]) E dX8_readMany_11 (by decide) rfl ?_
  have key : ∀ (j i : Nat) (M2 : zz_M) (L : List Nat), i + j = (zd d).length → L.length ≤ 9 + 2 * i → zmf [103] M M2 → zstk M2 L → zrd S (zr a) (zr d) = (i + (zrd S L ((zr d).drop i)).1, (zrd S L ((zr d).drop i)).2) → zz_Z p l e (headSpec wsX8_readMany ({ frames := 4, cells := 0, slots := 0, locals := 91 } : Room)).room s m ([.ref (G.2.2 100), .int (nI a), .long (lN d), .int (nI (zd d).length)] : List Value).toArray below meth c 0 0 (MQ below (zz_Qi G (fun r M1 => zmf [103] M M1 ∧ r = nI (zrd S (zr a) (zr d)).1 ∧ zstk M1 (zrd S (zr a) (zr d)).2)) ([.ref (G.2.2 100), .int (nI a), .long (lN d), .int (nI (zd d).length)] : List Value).toArray s 0 0 (zz_A G)) 6 G (zz_A G) M2 13 [(0, .ref (G.2.2 100)), (2, .long (lN d)), (4, .int (nI (zd d).length)), (5, .int (nI i))] [] := by
    intro j
    induction j with
    | zero =>
      intro i M2 L hi hL hf hw he
      rw [List.drop_eq_nil_of_le (by rw [zr_len]; omega)] at he
      have he1 : (zrd S (zr a) (zr d)).1 = i := by rw [he]; rfl
      have he2 : (zrd S (zr a) (zr d)).2 = L := by rw [he]; rfl
      refine zz_iload (pc := 13) E dX8_readMany_13 rfl ?_
      refine zz_iload (pc := 15) E dX8_readMany_15 rfl ?_
      refine zn_icmp_ge (pc := 17) (tgt := 41) E dX8_readMany_17 (by decide) (by omega) (by omega) (fun h17 => ?_) (fun h17 => ?_)
      · refine zz_iload (pc := 41) E dX8_readMany_41 rfl ?_
        exact zz_iret (pc := 43) E hr hlk dX8_readMany_43 ⟨hf, by rw [he1], by rw [he2]; exact hw⟩
      · exact absurd h17 (by omega)
    | succ j ih =>
      intro i M2 L hi hL hf hw he
      have hS2 := ztl_mf hS hf (by decide)
      have hd6 := zr_getD_lt (j := i) hd (by omega)
      rw [zr_drop (show i < (zd d).length by omega), zrd] at he
      refine zz_iload (pc := 13) E dX8_readMany_13 rfl ?_
      refine zz_iload (pc := 15) E dX8_readMany_15 rfl ?_
      refine zn_icmp_ge (pc := 17) (tgt := 41) E dX8_readMany_17 (by decide) (by omega) (by omega) (fun h17 => ?_) (fun h17 => ?_)
      · exact absurd h17 (by omega)
      · refine zz_aload_n (pc := 20) E dX8_readMany_20 rfl ?_
        refine zz_lload_n (pc := 21) E dX8_readMany_21 rfl ?_
        refine zz_iload (pc := 22) E dX8_readMany_22 rfl ?_
        refine zz_iload (pc := 24) E dX8_readMany_24 rfl ?_
        refine zz_ciS (pc := 26) E (kkX8_digitAt l G hJ _ _ _ _ 3 (by omega) rfl (by omega) hd20) (va_cwS 3 hts gX8_readMany_X8_digitAt rfl rfl rfl (by decide +kernel) ⟨Nat.le_of_ble_eq_true rfl, Nat.le_of_ble_eq_true rfl⟩) rfl rfl (Nat.le_of_ble_eq_true rfl) dX8_readMany_26 (fun r26 M26 q26 => ?_)
        obtain ⟨rfl, rfl⟩ := q26
        refine zz_ciV (pc := 29) E 100 (kkX8_reads l G hJ _  S L _ hV hS2 hw hd6 (by omega)) (cwV 1 hts gX8_readMany_X8_reads rfl rfl rfl (by decide +kernel) ⟨Nat.le_of_ble_eq_true rfl, Nat.le_of_ble_eq_true rfl⟩) (by decide) rfl rfl rfl rfl (Nat.le_of_ble_eq_true rfl) dX8_readMany_29 (fun r29 M29 q29 => ?_)
        obtain ⟨f29, rfl, w29⟩ := q29
        refine zb_if_eq (pc := 32) (tgt := 41) E dX8_readMany_32 (by decide) (fun h32 => ?_) (fun h32 => ?_)
        · rw [Option.isSome_eq_false_iff, Option.isNone_iff_eq_none] at h32
          rw [h32] at he w29
          have he1 : (zrd S (zr a) (zr d)).1 = i := by rw [he]; rfl
          have he2 : (zrd S (zr a) (zr d)).2 = L := by rw [he]
          have hf := zmf_ct hf f29 (ks := [103]) (fun _ h => h) (fun _ h => h)
          have hw := w29
          refine zz_iload (pc := 41) E dX8_readMany_41 rfl ?_
          exact zz_iret (pc := 43) E hr hlk dX8_readMany_43 ⟨hf, by rw [he1], by rw [he2]; exact hw⟩
        · obtain ⟨L1, hsm⟩ := Option.isSome_iff_exists.mp h32
          rw [hsm] at he w29
          have hst := zstep_ok hV hd6 hw.2.2.2 hsm
          refine zn_inc (pc := 35) (lv' := [(0, _), (2, _), (4, _), (5, _)]) E dX8_readMany_35 rfl (by decide) rfl ?_
          refine zz_goto (pc := 38) (tgt := 13) E dX8_readMany_38 (by decide) ?_
          exact zz_to (ih (i + 1) M29 L1 (by omega) (by omega) (zmf_ct hf f29 (fun _ h => h) (fun _ h => h)) w29 (by rw [he]; show (i + ((zrd S L1 _).1 + 1), _) = _; rw [Nat.add_assoc, Nat.add_comm 1])) ⟨rfl, rfl, rfl, rfl, trivial⟩
  exact zz_to (key _ 0 M7 (zr a) (Nat.zero_add _) (by rw [zr_len]; omega) (zmf_ct (zmf_fld (zmf_rf [103] _) (by decide)) f7 (fun _ h => h) (fun _ h => h)) (by rw [List.append_nil] at w7; exact w7) (by rw [Nat.zero_add]; rfl)) ⟨rfl, rfl, rfl, rfl, trivial⟩

theorem inX8_is_X8 : ∀ w ∈ u_ws RX8 TX8 14, w ∈ wsX8_is := by decide +kernel
theorem lkX8_is_72 : Cond.fieldLink RX8 72 RX8 "stacked" "I" ∈ wsX8_is := by decide +kernel
set_option maxHeartbeats 4000000 in
set_option maxRecDepth 100000 in
theorem kkX8_is (l : Launch) (G : zz_C) (hJ : zz_J G) (M : zz_M) (S : Nat → Option Nat) (a d h : Nat) (hV : zV S) (hS : ztl M S) (ha : zok a 6 9 = true) (hd : zok d 3 12 = true) (hh : h ≤ 1) : Met l yX8_is wsX8_is ({ frames := 5, cells := 0, slots := 0, locals := 116 } : Room) (zz_P G M [.ref (G.2.2 100), .int (nI a), .long (lN d), .int (nI (zd d).length), .int (nI h)]) (zz_Qi G (fun r M1 => zmf [103] M M1 ∧ r = zz_b (zgo S (zr a) (zr d) h))) 0 0 (zz_A G) := by
  refine zz_start hJ (by decide) rfl (Nat.le_of_ble_eq_true rfl) ?_
  intro p e s m below meth c E hr hlk
  have hts := E.2.2.2.2.1
  show zz_Z p l e (headSpec wsX8_is ({ frames := 5, cells := 0, slots := 0, locals := 116 } : Room)).room s m ([.ref (G.2.2 100), .int (nI a), .long (lN d), .int (nI (zd d).length), .int (nI h)] : List Value).toArray below meth c 0 0 (MQ below (zz_Qi G (fun r M1 => zmf [103] M M1 ∧ r = zz_b (zgo S (zr a) (zr d) h))) ([.ref (G.2.2 100), .int (nI a), .long (lN d), .int (nI (zd d).length), .int (nI h)] : List Value).toArray s 0 0 (zz_A G)) 7 G (zz_A G) M 0 [(0, .ref (G.2.2 100)), (1, .int (nI a)), (2, .long (lN d)), (4, .int (nI (zd d).length)), (5, .int (nI h))] []
  have hd2 := zok_len hd
  have hle := zrd_le S (zr d) (zr a)
  rw [zr_len] at hle
  refine zz_aload_n (pc := 0) E dX8_is_0 rfl ?_
  refine zz_iload_n (pc := 1) E dX8_is_1 rfl ?_
  refine zz_lload_n (pc := 2) E dX8_is_2 rfl ?_
  refine zz_iload (pc := 3) E dX8_is_3 rfl ?_
  refine zz_ciV (pc := 5) E 100 (kkX8_readMany l G hJ _  S a d hV hS ha hd) (cwV 3 hts gX8_is_X8_readMany rfl rfl rfl (by decide +kernel) ⟨Nat.le_of_ble_eq_true rfl, Nat.le_of_ble_eq_true rfl⟩) (by decide) rfl rfl rfl rfl (Nat.le_of_ble_eq_true rfl) dX8_is_5 (fun r5 M5 q5 => ?_)
  obtain ⟨f5, rfl, w5⟩ := q5
  refine zz_istore (pc := 8) (lv' := [(0, _), (1, _), (2, _), (4, _), (5, _), (6, _)]) E dX8_is_8 (by decide) rfl ?_
  refine zz_iload (pc := 10) E dX8_is_10 rfl ?_
  refine zz_iload (pc := 12) E dX8_is_12 rfl ?_
  refine zn_icmp_ne (pc := 14) (tgt := 34) E dX8_is_14 (by decide) (by omega) (by omega) (fun h14 => ?_) (fun h14 => ?_)
  · have hg : zgo S (zr a) (zr d) h = false := by unfold zgo; rw [zr_len, decide_eq_false h14]; rfl
    refine zz_iconst (pc := 34) (v := nI 0) E dX8_is_34 (by decide) ?_
    exact zz_zret (pc := 35) E hr hlk dX8_is_35 (by decide) ⟨f5, by rw [hg]; rfl⟩
  · have hwl := w5.2.1
    refine zz_iload (pc := 17) E dX8_is_17 rfl ?_
    refine zz_iconst (pc := 19) (v := nI 1) E dX8_is_19 (by decide) ?_
    refine zn_icmp_eq (pc := 20) (tgt := 30) E dX8_is_20 (by decide) (by omega) (by omega) (fun h20 => ?_) (fun h20 => ?_)
    · have hg : zgo S (zr a) (zr d) h = true := by unfold zgo; rw [zr_len, decide_eq_true h14, decide_eq_true h20]; rfl
      refine zz_iconst (pc := 30) (v := nI 1) E dX8_is_30 (by decide) ?_
      refine zz_goto (pc := 31) (tgt := 35) E dX8_is_31 (by decide) ?_
      exact zz_zret (pc := 35) E hr hlk dX8_is_35 (by decide) ⟨f5, by rw [hg]; rfl⟩
    · refine zz_aload_n (pc := 23) E dX8_is_23 rfl ?_
      refine zz_gf (pc := 24) E 100 (by decide) rfl rfl inX8_is_X8 3 (by decide) lkX8_is_72 (fun _ h => h) rfl dX8_is_24 ?_
      refine zz_eqi (y := nI (zrd S (zr a) (zr d)).2.length) w5.1 ?_
      refine zn_if_ne (pc := 27) (tgt := 34) E dX8_is_27 (by decide) (by omega) (fun h27 => ?_) (fun h27 => ?_)
      · have hg : zgo S (zr a) (zr d) h = false := by unfold zgo; rw [decide_eq_false h27, decide_eq_false h20, Bool.or_false, Bool.and_false]
        refine zz_iconst (pc := 34) (v := nI 0) E dX8_is_34 (by decide) ?_
        exact zz_zret (pc := 35) E hr hlk dX8_is_35 (by decide) ⟨f5, by rw [hg]; rfl⟩
      · have hg : zgo S (zr a) (zr d) h = true := by unfold zgo; rw [zr_len, decide_eq_true h14, decide_eq_true h27, Bool.or_true]; rfl
        refine zz_iconst (pc := 30) (v := nI 1) E dX8_is_30 (by decide) ?_
        refine zz_goto (pc := 31) (tgt := 35) E dX8_is_31 (by decide) ?_
        exact zz_zret (pc := 35) E hr hlk dX8_is_35 (by decide) ⟨f5, by rw [hg]; rfl⟩

theorem inX8_normOf_X8 : ∀ w ∈ u_ws RX8 TX8 14, w ∈ wsX8_normOf := by decide +kernel
theorem lkX8_normOf_19 : Cond.fieldLink RX8 19 RX8 "norms" "[I" ∈ wsX8_normOf := by decide +kernel
set_option maxHeartbeats 4000000 in
set_option maxRecDepth 100000 in
theorem kkX8_normOf (l : Launch) (G : zz_C) (hJ : zz_J G) (M : zz_M) (v : Nat → Option Nat) (a mo B : Nat) (hv : ∀ s, s < 6 → M 104 s = zo (v s)) (hB : zbd v B) (hBs : B < 100000) (hz : zok a 6 mo = true) (hmo : mo < 10) : Met l yX8_normOf wsX8_normOf ({ frames := 2, cells := 0, slots := 0, locals := 47 } : Room) (zz_P G M [.ref (G.2.2 100), .int (nI a)]) (zz_Qi G (fun r M1 => M = M1 ∧ r = zo (znorm v (zr a)))) 0 0 (zz_A G) := by
  refine zz_start hJ (by decide) rfl (Nat.le_of_ble_eq_true rfl) ?_
  intro p e s m below meth c E hr hlk
  have hts := E.2.2.2.2.1
  show zz_Z p l e (headSpec wsX8_normOf ({ frames := 2, cells := 0, slots := 0, locals := 47 } : Room)).room s m ([.ref (G.2.2 100), .int (nI a)] : List Value).toArray below meth c 0 0 (MQ below (zz_Qi G (fun r M1 => M = M1 ∧ r = zo (znorm v (zr a)))) ([.ref (G.2.2 100), .int (nI a)] : List Value).toArray s 0 0 (zz_A G)) 6 G (zz_A G) M 0 [(0, .ref (G.2.2 100)), (1, .int (nI a))] []
  have ha : a < 2 ^ 31 := by
    have h1 := zok_lt hz (by omega)
    have h2 : 10 ^ mo ≤ 10 ^ 9 := Nat.pow_le_pow_right (by decide) (by omega)
    omega
  have hz20 : zok a 6 20 = true := zok_mono hz (Nat.le_refl 6) (by omega)
  have hn20 := zd_len a
  refine zz_iload_n (pc := 0) E dX8_normOf_0 rfl ?_
  refine zn_i2l (pc := 1) E dX8_normOf_1 (by omega) ?_
  refine zz_bipush (pc := 2) (v := nI 6) E dX8_normOf_2 (by decide) ?_
  refine zz_ciS (pc := 4) E (kkX8_digits l G hJ _ _ _ (by decide)) (va_cwS 2 hts gX8_normOf_X8_digits rfl rfl rfl (by decide +kernel) ⟨Nat.le_of_ble_eq_true rfl, Nat.le_of_ble_eq_true rfl⟩) rfl rfl (Nat.le_of_ble_eq_true rfl) dX8_normOf_4 (fun r4 M4 q4 => ?_)
  obtain ⟨rfl, rfl⟩ := q4
  refine zz_eqi (y := nI (zd a).length) (zdg_ok hz (by omega)) ?_
  refine zz_istore_n (pc := 7) (lv' := [(0, _), (1, _), (2, _)]) E dX8_normOf_7 (by decide) rfl ?_
  refine zz_iconst (pc := 8) (v := nI 0) E dX8_normOf_8 (by decide) ?_
  refine zz_istore_n (pc := 9) (lv' := [(0, _), (1, _), (2, _), (3, _)]) E dX8_normOf_9 (by decide) rfl ?_
  refine zz_iconst (pc := 10) (v := nI 0) E dX8_normOf_10 (by decide) ?_
  refine zz_istore (pc := 11) (lv' := [(0, _), (1, _), (2, _), (3, _), (4, _)]) E dX8_normOf_11 (by decide) rfl ?_
  have key : ∀ (j i n : Nat), i + j = (zd a).length → znorm v ((zr a).take i) = some n → zz_Z p l e (headSpec wsX8_normOf ({ frames := 2, cells := 0, slots := 0, locals := 47 } : Room)).room s m ([.ref (G.2.2 100), .int (nI a)] : List Value).toArray below meth c 0 0 (MQ below (zz_Qi G (fun r M1 => M = M1 ∧ r = zo (znorm v (zr a)))) ([.ref (G.2.2 100), .int (nI a)] : List Value).toArray s 0 0 (zz_A G)) 6 G (zz_A G) M 13 [(0, .ref (G.2.2 100)), (1, .int (nI a)), (2, .int (nI (zd a).length)), (3, .int (nI n)), (4, .int (nI i))] [] := by
    intro j
    induction j with
    | zero =>
      intro i n hi he
      rw [List.take_of_length_le (by rw [zr_len]; omega)] at he
      refine zz_iload (pc := 13) E dX8_normOf_13 rfl ?_
      refine zz_iload_n (pc := 15) E dX8_normOf_15 rfl ?_
      refine zn_icmp_ge (pc := 16) (tgt := 55) E dX8_normOf_16 (by decide) (by omega) (by omega) (fun h16 => ?_) (fun h16 => ?_)
      · refine zz_iload_n (pc := 55) E dX8_normOf_55 rfl ?_
        exact zz_iret (pc := 56) E hr hlk dX8_normOf_56 ⟨rfl, by rw [he]; rfl⟩
      · exact absurd h16 (by omega)
    | succ j ih =>
      intro i n hi he
      have hd6 := zr_getD_lt (j := i) hz (by omega)
      have hvx := hv _ hd6
      have hlt : ∀ q, v ((zr a).getD i 0) = some q → q < 2 ^ 31 := fun q hq => by have := hB _ hd6 q hq; omega
      have htk : (zr a).take (i + 1) = (zr a).take i ++ [(zr a).getD i 0] := by rw [List.take_succ, zr_at (by omega)]; rfl
      refine zz_iload (pc := 13) E dX8_normOf_13 rfl ?_
      refine zz_iload_n (pc := 15) E dX8_normOf_15 rfl ?_
      refine zn_icmp_ge (pc := 16) (tgt := 55) E dX8_normOf_16 (by decide) (by omega) (by omega) (fun h16 => ?_) (fun h16 => ?_)
      · exact absurd h16 (by omega)
      · refine zz_aload_n (pc := 19) E dX8_normOf_19 rfl ?_
        refine zz_gf (pc := 20) E 100 (by decide) rfl rfl inX8_normOf_X8 5 (by decide) lkX8_normOf_19 (fun _ h => h) rfl dX8_normOf_20 ?_
        refine zz_iload_n (pc := 23) E dX8_normOf_23 rfl ?_
        refine zn_i2l (pc := 24) E dX8_normOf_24 (by omega) ?_
        refine zz_iload_n (pc := 25) E dX8_normOf_25 rfl ?_
        refine zz_iload (pc := 26) E dX8_normOf_26 rfl ?_
        refine zz_ciS (pc := 28) E (kkX8_digitAt l G hJ _ _ _ _ 6 (by omega) rfl (by omega) hz20) (va_cwS 3 hts gX8_normOf_X8_digitAt rfl rfl rfl (by decide +kernel) ⟨Nat.le_of_ble_eq_true rfl, Nat.le_of_ble_eq_true rfl⟩) rfl rfl (Nat.le_of_ble_eq_true rfl) dX8_normOf_28 (fun r28 M28 q28 => ?_)
        obtain ⟨rfl, rfl⟩ := q28
        refine zz_iald (pc := 31) E 104 ((zr a).getD i 0) (n := 6) (by decide) rfl rfl hd6 (by decide) dX8_normOf_31 ?_
        refine zz_eqi (y := zo (v ((zr a).getD i 0))) hvx ?_
        refine zz_istore (pc := 32) (lv' := [(0, _), (1, _), (2, _), (3, _), (4, _), (5, _)]) E dX8_normOf_32 (by decide) rfl ?_
        refine zz_iload (pc := 34) E dX8_normOf_34 rfl ?_
        refine zz_bipush (pc := 36) (v := -9) E dX8_normOf_36 (by decide) ?_
        refine zz_icmp_ne (pc := 38) (tgt := 44) E dX8_normOf_38 (by decide) (fun h38 => ?_) (fun h38 => ?_)
        · obtain ⟨q, hq⟩ : ∃ q, v ((zr a).getD i 0) = some q := by
            cases hv2 : v ((zr a).getD i 0) with
            | none => exact absurd (by rw [hv2]; rfl) h38
            | some q => exact ⟨q, rfl⟩
          refine zz_iload_n (pc := 44) E dX8_normOf_44 rfl ?_
          refine zz_iload (pc := 45) E dX8_normOf_45 rfl ?_
          refine zz_eqi (y := nI q) (by rw [hq]; rfl) ?_
          refine zn_iadd (pc := 47) E dX8_normOf_47 ?_
          refine zz_istore_n (pc := 48) (lv' := [(0, _), (1, _), (2, _), (3, _), (4, _), (5, _)]) E dX8_normOf_48 (by decide) rfl ?_
          refine zn_inc (pc := 49) (lv' := [(0, _), (1, _), (2, _), (3, _), (4, _), (5, _)]) E dX8_normOf_49 rfl (by decide) rfl ?_
          refine zz_goto (pc := 52) (tgt := 13) E dX8_normOf_52 (by decide) ?_
          exact zz_to (ih (i + 1) (n + q) (by omega) (by rw [htk, znorm_app, he]; show zoa (some n) (zoa (v ((zr a).getD i 0)) (some 0)) = _; rw [hq]; rfl)) ⟨rfl, rfl, rfl, rfl, rfl, trivial⟩
        · rw [zo_m9 hlt] at h38
          refine zz_bipush (pc := 41) (v := -9) E dX8_normOf_41 (by decide) ?_
          exact zz_iret (pc := 43) E hr hlk dX8_normOf_43 ⟨rfl, by rw [znorm_none (List.mem_of_getElem? (zr_at (show i < (zd a).length by omega))) h38]; rfl⟩
  exact zz_to (key _ 0 0 (Nat.zero_add _) rfl) ⟨rfl, rfl, rfl, rfl, rfl, trivial⟩

theorem inX8_comesFirst_X8 : ∀ w ∈ u_ws RX8 TX8 14, w ∈ wsX8_comesFirst := by decide +kernel
theorem lkX8_comesFirst_19 : Cond.fieldLink RX8 19 RX8 "norms" "[I" ∈ wsX8_comesFirst := by decide +kernel
set_option maxHeartbeats 4000000 in
set_option maxRecDepth 100000 in
theorem kkX8_comesFirst (l : Launch) (G : zz_C) (hJ : zz_J G) (M : zz_M) (v : Nat → Option Nat) (a mo B : Nat) (hv : ∀ s, s < 6 → M 104 s = zo (v s)) (hB : zbd v B) (hBs : B < 100000) (hz : zok a 6 mo = true) (hmo : mo < 10) : Met l yX8_comesFirst wsX8_comesFirst ({ frames := 2, cells := 0, slots := 0, locals := 47 } : Room) (zz_P G M [.ref (G.2.2 100), .int (nI a)]) (zz_Qi G (fun r M1 => M = M1 ∧ r = nI (zfw v (zr a)))) 0 0 (zz_A G) := by
  refine zz_start hJ (by decide) rfl (Nat.le_of_ble_eq_true rfl) ?_
  intro p e s m below meth c E hr hlk
  have hts := E.2.2.2.2.1
  show zz_Z p l e (headSpec wsX8_comesFirst ({ frames := 2, cells := 0, slots := 0, locals := 47 } : Room)).room s m ([.ref (G.2.2 100), .int (nI a)] : List Value).toArray below meth c 0 0 (MQ below (zz_Qi G (fun r M1 => M = M1 ∧ r = nI (zfw v (zr a)))) ([.ref (G.2.2 100), .int (nI a)] : List Value).toArray s 0 0 (zz_A G)) 6 G (zz_A G) M 0 [(0, .ref (G.2.2 100)), (1, .int (nI a))] []
  have ha : a < 2 ^ 31 := by
    have h1 := zok_lt hz (by omega)
    have h2 : 10 ^ mo ≤ 10 ^ 9 := Nat.pow_le_pow_right (by decide) (by omega)
    omega
  have hz20 : zok a 6 20 = true := zok_mono hz (Nat.le_refl 6) (by omega)
  have hn20 := zd_len a
  refine zz_iload_n (pc := 0) E dX8_comesFirst_0 rfl ?_
  refine zn_i2l (pc := 1) E dX8_comesFirst_1 (by omega) ?_
  refine zz_bipush (pc := 2) (v := nI 6) E dX8_comesFirst_2 (by decide) ?_
  refine zz_ciS (pc := 4) E (kkX8_digits l G hJ _ _ _ (by decide)) (va_cwS 2 hts gX8_comesFirst_X8_digits rfl rfl rfl (by decide +kernel) ⟨Nat.le_of_ble_eq_true rfl, Nat.le_of_ble_eq_true rfl⟩) rfl rfl (Nat.le_of_ble_eq_true rfl) dX8_comesFirst_4 (fun r4 M4 q4 => ?_)
  obtain ⟨rfl, rfl⟩ := q4
  refine zz_eqi (y := nI (zd a).length) (zdg_ok hz (by omega)) ?_
  refine zz_istore_n (pc := 7) (lv' := [(0, _), (1, _), (2, _)]) E dX8_comesFirst_7 (by decide) rfl ?_
  refine zz_iconst (pc := 8) (v := nI 0) E dX8_comesFirst_8 (by decide) ?_
  refine zz_istore_n (pc := 9) (lv' := [(0, _), (1, _), (2, _), (3, _)]) E dX8_comesFirst_9 (by decide) rfl ?_
  refine zz_iconst (pc := 10) (v := nI 0) E dX8_comesFirst_10 (by decide) ?_
  refine zz_istore (pc := 11) (lv' := [(0, _), (1, _), (2, _), (3, _), (4, _)]) E dX8_comesFirst_11 (by decide) rfl ?_
  have key : ∀ (j i w : Nat), i + j = (zd a).length → w < 64 → zfw v (zr a) = w ||| zfw v ((zr a).drop i) → zz_Z p l e (headSpec wsX8_comesFirst ({ frames := 2, cells := 0, slots := 0, locals := 47 } : Room)).room s m ([.ref (G.2.2 100), .int (nI a)] : List Value).toArray below meth c 0 0 (MQ below (zz_Qi G (fun r M1 => M = M1 ∧ r = nI (zfw v (zr a)))) ([.ref (G.2.2 100), .int (nI a)] : List Value).toArray s 0 0 (zz_A G)) 6 G (zz_A G) M 13 [(0, .ref (G.2.2 100)), (1, .int (nI a)), (2, .int (nI (zd a).length)), (3, .int (nI w)), (4, .int (nI i))] [] := by
    intro j
    induction j with
    | zero =>
      intro i w hi hw he
      rw [List.drop_eq_nil_of_le (by rw [zr_len]; omega)] at he
      refine zz_iload (pc := 13) E dX8_comesFirst_13 rfl ?_
      refine zz_iload_n (pc := 15) E dX8_comesFirst_15 rfl ?_
      refine zn_icmp_ge (pc := 16) (tgt := 56) E dX8_comesFirst_16 (by decide) (by omega) (by omega) (fun h16 => ?_) (fun h16 => ?_)
      · refine zz_iload_n (pc := 56) E dX8_comesFirst_56 rfl ?_
        exact zz_iret (pc := 57) E hr hlk dX8_comesFirst_57 ⟨rfl, by rw [he]; show _ = nI (w ||| 0); rw [Nat.or_zero]⟩
      · exact absurd h16 (by omega)
    | succ j ih =>
      intro i w hi hw he
      have hd6 := zr_getD_lt (j := i) hz (by omega)
      have hvx := hv _ hd6
      have hlt : ∀ q, v ((zr a).getD i 0) = some q → q < 2 ^ 31 := fun q hq => by have := hB _ hd6 q hq; omega
      rw [zr_drop (show i < (zd a).length by omega), zfw] at he
      refine zz_iload (pc := 13) E dX8_comesFirst_13 rfl ?_
      refine zz_iload_n (pc := 15) E dX8_comesFirst_15 rfl ?_
      refine zn_icmp_ge (pc := 16) (tgt := 56) E dX8_comesFirst_16 (by decide) (by omega) (by omega) (fun h16 => ?_) (fun h16 => ?_)
      · exact absurd h16 (by omega)
      · refine zz_iload_n (pc := 19) E dX8_comesFirst_19 rfl ?_
        refine zn_i2l (pc := 20) E dX8_comesFirst_20 (by omega) ?_
        refine zz_iload_n (pc := 21) E dX8_comesFirst_21 rfl ?_
        refine zz_iload (pc := 22) E dX8_comesFirst_22 rfl ?_
        refine zz_ciS (pc := 24) E (kkX8_digitAt l G hJ _ _ _ _ 6 (by omega) rfl (by omega) hz20) (va_cwS 3 hts gX8_comesFirst_X8_digitAt rfl rfl rfl (by decide +kernel) ⟨Nat.le_of_ble_eq_true rfl, Nat.le_of_ble_eq_true rfl⟩) rfl rfl (Nat.le_of_ble_eq_true rfl) dX8_comesFirst_24 (fun r24 M24 q24 => ?_)
        obtain ⟨rfl, rfl⟩ := q24
        refine zz_istore (pc := 27) (lv' := [(0, _), (1, _), (2, _), (3, _), (4, _), (5, _)]) E dX8_comesFirst_27 (by decide) rfl ?_
        refine zz_iload_n (pc := 29) E dX8_comesFirst_29 rfl ?_
        refine zz_iconst (pc := 30) (v := nI 1) E dX8_comesFirst_30 (by decide) ?_
        refine zz_iload (pc := 31) E dX8_comesFirst_31 rfl ?_
        refine zz_ishl (pc := 33) E dX8_comesFirst_33 ?_
        refine zz_eqi (y := nI (2 ^ ((zr a).getD i 0))) (zshl_ok _ hd6) ?_
        refine zz_ior (pc := 34) E dX8_comesFirst_34 ?_
        refine zz_eqi (y := nI (w ||| 2 ^ ((zr a).getD i 0))) (zor_ok _ hw _ (zpw_lt _ hd6)) ?_
        refine zz_istore_n (pc := 35) (lv' := [(0, _), (1, _), (2, _), (3, _), (4, _), (5, _)]) E dX8_comesFirst_35 (by decide) rfl ?_
        refine zz_aload_n (pc := 36) E dX8_comesFirst_36 rfl ?_
        refine zz_gf (pc := 37) E 100 (by decide) rfl rfl inX8_comesFirst_X8 5 (by decide) lkX8_comesFirst_19 (fun _ h => h) rfl dX8_comesFirst_37 ?_
        refine zz_iload (pc := 40) E dX8_comesFirst_40 rfl ?_
        refine zz_iald (pc := 42) E 104 ((zr a).getD i 0) (n := 6) (by decide) rfl rfl hd6 (by decide) dX8_comesFirst_42 ?_
        refine zz_eqi (y := zo (v ((zr a).getD i 0))) hvx ?_
        refine zz_bipush (pc := 43) (v := -9) E dX8_comesFirst_43 (by decide) ?_
        refine zz_icmp_ne (pc := 45) (tgt := 50) E dX8_comesFirst_45 (by decide) (fun h45 => ?_) (fun h45 => ?_)
        · obtain ⟨q, hq⟩ : ∃ q, v ((zr a).getD i 0) = some q := by
            cases hv2 : v ((zr a).getD i 0) with
            | none => exact absurd (by rw [hv2]; rfl) h45
            | some q => exact ⟨q, rfl⟩
          rw [hq] at he
          refine zn_inc (pc := 50) (lv' := [(0, _), (1, _), (2, _), (3, _), (4, _), (5, _)]) E dX8_comesFirst_50 rfl (by decide) rfl ?_
          refine zz_goto (pc := 53) (tgt := 13) E dX8_comesFirst_53 (by decide) ?_
          exact zz_to (ih (i + 1) _ (by omega) (zor_lt hw (zpw_lt _ hd6)) (by rw [he, Nat.or_assoc]; congr 1; exact Nat.or_comm _ _)) ⟨rfl, rfl, rfl, rfl, rfl, trivial⟩
        · rw [zo_m9 hlt] at h45
          rw [h45] at he
          refine zz_iload_n (pc := 48) E dX8_comesFirst_48 rfl ?_
          exact zz_iret (pc := 49) E hr hlk dX8_comesFirst_49 ⟨rfl, by rw [he]⟩
  exact zz_to (key _ 0 0 (Nat.zero_add _) (by decide) (by rw [Nat.zero_or]; rfl)) ⟨rfl, rfl, rfl, rfl, rfl, trivial⟩
