/-! tables: 18 rules, 6 claims, each a number or none -/
def ztab (M : zz_M) (k : Nat) (S : Nat → Option Nat) : Prop := (∀ i, i < 18 → M (k + 1) i = zo (S i)) ∧ ∀ i, i < 6 → M (k + 2) i = zo (S (18 + i))
theorem ztab_congr {M M1 : zz_M} {k : Nat} {S : Nat → Option Nat} (h : ztab M k S) (h1 : M1 (k + 1) = M (k + 1)) (h2 : M1 (k + 2) = M (k + 2)) : ztab M1 k S := ⟨fun i hi => by rw [h1]; exact h.1 i hi, fun i hi => by rw [h2]; exact h.2 i hi⟩
theorem ztab_fr {ks : List Nat} {M M1 : zz_M} {k : Nat} {S : Nat → Option Nat} (h : ztab M k S) (hf : zfr ks M M1) (h1 : k + 1 ∉ ks) (h2 : k + 2 ∉ ks) : ztab M1 k S := ztab_congr h (hf _ h1) (hf _ h2)
def zrl (M : zz_M) (k : Nat) (x y : Int32) : Int32 := if zp_in x 6 && zp_in y 3 then M (k + 1) (3 * x.toInt.toNat + y.toInt.toNat) else -9
theorem zrl_nI {M : zz_M} {k s a : Nat} (hs : s < 6) (ha : a < 3) : zrl M k (nI s) (nI a) = M (k + 1) (3 * s + a) := by
  unfold zrl
  rw [zp_in_nI (by omega), zp_in_nI (by omega), decide_eq_true hs, decide_eq_true ha, nI_toInt (by omega), nI_toInt (by omega)]
  rfl
theorem zrl_m9 {M : zz_M} {k : Nat} {x : Int32} : zrl M k (-9) x = -9 := by
  unfold zrl
  rw [show zp_in (-9) 6 = false by decide]
  rfl
theorem zrl_m9' {M : zz_M} {k : Nat} {x : Int32} : zrl M k x (-9) = -9 := by
  unfold zrl
  rw [show zp_in (-9) 3 = false by decide, Bool.and_false]
  rfl
/-- how many are there -/
def zcnt (f : Nat → Int32) : Nat → Nat
  | 0 => 0
  | n + 1 => zcnt f n + if f n = -9 then 0 else 1
theorem zcnt_le (f : Nat → Int32) : ∀ n, zcnt f n ≤ n
  | 0 => Nat.le_refl _
  | n + 1 => by
    rw [zcnt]
    have := zcnt_le f n
    by_cases h : f n = -9
    · rw [if_pos h]; omega
    · rw [if_neg h]; omega

theorem niX6_ruleOf_X7_isSign : Cond.initialized RX7 ∈ wsX6_ruleOf := by decide +kernel
theorem nsX6_ruleOf_X7_isSign : Cond.static yX7_isSign ∈ wsX6_ruleOf := by decide +kernel
theorem niX6_ruleOf_X7_isLetter : Cond.initialized RX7 ∈ wsX6_ruleOf := by decide +kernel
theorem nsX6_ruleOf_X7_isLetter : Cond.static yX7_isLetter ∈ wsX6_ruleOf := by decide +kernel
theorem inX6_ruleOf_X6 : ∀ w ∈ u_ws RX6 TX6 2, w ∈ wsX6_ruleOf := by decide +kernel
theorem lkX6_ruleOf_9 : Cond.fieldLink RX6 9 RX6 "rules" "[I" ∈ wsX6_ruleOf := by decide +kernel
set_option maxHeartbeats 4000000 in
set_option maxRecDepth 100000 in
theorem kkX6_ruleOf (l : Launch) (G : zz_C) (hJ : zz_J G) (M : zz_M) (k : Nat) (hk : zz_Tb k) (x y : Int32) : Met l yX6_ruleOf wsX6_ruleOf ({ frames := 1, cells := 0, slots := 0, locals := 20 } : Room) (zz_P G M [.ref (G.2.2 k), .int x, .int y]) (zz_Qi G (fun r M1 => M = M1 ∧ r = zrl M k x y)) 0 0 (zz_A G) := by
  refine zz_start hJ (by decide) rfl (Nat.le_of_ble_eq_true rfl) ?_
  intro p e s m below meth c E hr hlk
  have hts := E.2.2.2.2.1
  show zz_Z p l e (headSpec wsX6_ruleOf ({ frames := 1, cells := 0, slots := 0, locals := 20 } : Room)).room s m ([.ref (G.2.2 k), .int x, .int y] : List Value).toArray below meth c 0 0 (MQ below (zz_Qi G (fun r M1 => M = M1 ∧ r = zrl M k x y)) ([.ref (G.2.2 k), .int x, .int y] : List Value).toArray s 0 0 (zz_A G)) 3 G (zz_A G) M 0 [(0, .ref (G.2.2 k)), (1, .int x), (2, .int y)] []
  refine zz_iload_n (pc := 0) E dX6_ruleOf_0 rfl ?_
  refine zz_ciN (pc := 1) E (kkX7_isSign l G hJ _ _ ) ⟨va_cnB 1 hts gX6_ruleOf_X7_isSign_n24 rfl rfl rfl E.2.2.2.2.2.2.1.2.2.2.2.1 (hts _ niX6_ruleOf_X7_isSign) (by decide +kernel) ⟨Nat.le_of_ble_eq_true rfl, Nat.le_of_ble_eq_true rfl⟩, hts _ nsX6_ruleOf_X7_isSign, trivial⟩ rfl rfl (Nat.le_of_ble_eq_true rfl) dX6_ruleOf_1 (fun r1 M1 q1 => ?_)
  obtain ⟨rfl, rfl⟩ := q1
  refine zb_if_eq (pc := 4) (tgt := 27) E dX6_ruleOf_4 (by decide) (fun h4 => ?_) (fun h4 => ?_)
  · refine zz_bipush (pc := 27) (v := -9) E dX6_ruleOf_27 (by decide) ?_
    exact zz_iret (pc := 29) E hr hlk dX6_ruleOf_29 ⟨rfl, by first | (unfold zrl; rw [h4]; rfl) | (unfold zrl; rw [h11, Bool.and_false]; rfl) | (rw [hxs, hya, zrl_nI hs0 ha0]; congr 1; omega)⟩
  · refine zz_iload_n (pc := 7) E dX6_ruleOf_7 rfl ?_
    refine zz_ciN (pc := 8) E (kkX7_isLetter l G hJ _ _ ) ⟨va_cnB 1 hts gX6_ruleOf_X7_isLetter_n28 rfl rfl rfl E.2.2.2.2.2.2.1.2.2.2.2.2 (hts _ niX6_ruleOf_X7_isLetter) (by decide +kernel) ⟨Nat.le_of_ble_eq_true rfl, Nat.le_of_ble_eq_true rfl⟩, hts _ nsX6_ruleOf_X7_isLetter, trivial⟩ rfl rfl (Nat.le_of_ble_eq_true rfl) dX6_ruleOf_8 (fun r8 M8 q8 => ?_)
    obtain ⟨rfl, rfl⟩ := q8
    refine zb_if_eq (pc := 11) (tgt := 27) E dX6_ruleOf_11 (by decide) (fun h11 => ?_) (fun h11 => ?_)
    · refine zz_bipush (pc := 27) (v := -9) E dX6_ruleOf_27 (by decide) ?_
      exact zz_iret (pc := 29) E hr hlk dX6_ruleOf_29 ⟨rfl, by first | (unfold zrl; rw [h4]; rfl) | (unfold zrl; rw [h11, Bool.and_false]; rfl) | (rw [hxs, hya, zrl_nI hs0 ha0]; congr 1; omega)⟩
    · obtain ⟨s0, hs0, hxs⟩ := zp_in_of h4 (by decide)
      obtain ⟨a0, ha0, hya⟩ := zp_in_of h11 (by decide)
      refine zz_aload_n (pc := 14) E dX6_ruleOf_14 rfl ?_
      refine zz_gf (pc := 15) E k (by have := hk.2.1; omega) (zz_F_tab hk.1) rfl inX6_ruleOf_X6 0 (by decide) lkX6_ruleOf_9 (fun _ h => h) rfl dX6_ruleOf_15 ?_
      refine zz_iload_n (pc := 18) E dX6_ruleOf_18 rfl ?_
      refine zz_eqi (y := nI s0) hxs ?_
      refine zz_iconst (pc := 19) (v := nI 3) E dX6_ruleOf_19 (by decide) ?_
      refine zn_imul (pc := 20) E dX6_ruleOf_20 ?_
      refine zz_iload_n (pc := 21) E dX6_ruleOf_21 rfl ?_
      refine zz_eqi (y := nI a0) hya ?_
      refine zn_iadd (pc := 22) E dX6_ruleOf_22 ?_
      refine zz_iald (pc := 23) E (k + 1) (_) (n := 18) (by have := hk.2.1; omega) (hk.2.2.1 G _) rfl (by omega) (by decide) dX6_ruleOf_23 ?_
      refine zz_goto (pc := 24) (tgt := 29) E dX6_ruleOf_24 (by decide) ?_
      exact zz_iret (pc := 29) E hr hlk dX6_ruleOf_29 ⟨rfl, by first | (unfold zrl; rw [h4]; rfl) | (unfold zrl; rw [h11, Bool.and_false]; rfl) | (rw [hxs, hya, zrl_nI hs0 ha0]; congr 1; omega)⟩

theorem niX6_setRule_X7_isSign : Cond.initialized RX7 ∈ wsX6_setRule := by decide +kernel
theorem nsX6_setRule_X7_isSign : Cond.static yX7_isSign ∈ wsX6_setRule := by decide +kernel
theorem niX6_setRule_X7_isLetter : Cond.initialized RX7 ∈ wsX6_setRule := by decide +kernel
theorem nsX6_setRule_X7_isLetter : Cond.static yX7_isLetter ∈ wsX6_setRule := by decide +kernel
theorem inX6_setRule_X6 : ∀ w ∈ u_ws RX6 TX6 2, w ∈ wsX6_setRule := by decide +kernel
theorem lkX6_setRule_9 : Cond.fieldLink RX6 9 RX6 "rules" "[I" ∈ wsX6_setRule := by decide +kernel
set_option maxHeartbeats 4000000 in
set_option maxRecDepth 100000 in
theorem kkX6_setRule (l : Launch) (G : zz_C) (hJ : zz_J G) (M : zz_M) (k : Nat) (hk : zz_Tb k) (s0 a0 : Nat) (x : Int32) (hs0 : s0 < 6) (ha0 : a0 < 3) : Met l yX6_setRule wsX6_setRule ({ frames := 1, cells := 0, slots := 0, locals := 20 } : Room) (zz_P G M [.ref (G.2.2 k), .int (nI s0), .int (nI a0), .int x]) (zz_Qv G (fun M1 => M1 = zz_up M (k + 1) (upd (M (k + 1)) (3 * s0 + a0) x))) 0 0 (zz_A G) := by
  refine zz_start hJ (by decide) rfl (Nat.le_of_ble_eq_true rfl) ?_
  intro p e s m below meth c E hr hlk
  have hts := E.2.2.2.2.1
  show zz_Z p l e (headSpec wsX6_setRule ({ frames := 1, cells := 0, slots := 0, locals := 20 } : Room)).room s m ([.ref (G.2.2 k), .int (nI s0), .int (nI a0), .int x] : List Value).toArray below meth c 0 0 (MQ below (zz_Qv G (fun M1 => M1 = zz_up M (k + 1) (upd (M (k + 1)) (3 * s0 + a0) x))) ([.ref (G.2.2 k), .int (nI s0), .int (nI a0), .int x] : List Value).toArray s 0 0 (zz_A G)) 4 G (zz_A G) M 0 [(0, .ref (G.2.2 k)), (1, .int (nI s0)), (2, .int (nI a0)), (3, .int x)] []
  refine zz_iload_n (pc := 0) E dX6_setRule_0 rfl ?_
  refine zz_ciN (pc := 1) E (kkX7_isSign l G hJ _ _ ) ⟨va_cnB 1 hts gX6_setRule_X7_isSign_n24 rfl rfl rfl E.2.2.2.2.2.2.1.2.2.2.2.1 (hts _ niX6_setRule_X7_isSign) (by decide +kernel) ⟨Nat.le_of_ble_eq_true rfl, Nat.le_of_ble_eq_true rfl⟩, hts _ nsX6_setRule_X7_isSign, trivial⟩ rfl rfl (Nat.le_of_ble_eq_true rfl) dX6_setRule_1 (fun r1 M1 q1 => ?_)
  obtain ⟨rfl, rfl⟩ := q1
  refine zb_if_eq (pc := 4) (tgt := 25) E dX6_setRule_4 (by decide) (fun h4 => ?_) (fun h4 => ?_)
  · rw [zp_in_nI (by omega), decide_eq_true hs0] at h4
    cases h4
  · refine zz_iload_n (pc := 7) E dX6_setRule_7 rfl ?_
    refine zz_ciN (pc := 8) E (kkX7_isLetter l G hJ _ _ ) ⟨va_cnB 1 hts gX6_setRule_X7_isLetter_n28 rfl rfl rfl E.2.2.2.2.2.2.1.2.2.2.2.2 (hts _ niX6_setRule_X7_isLetter) (by decide +kernel) ⟨Nat.le_of_ble_eq_true rfl, Nat.le_of_ble_eq_true rfl⟩, hts _ nsX6_setRule_X7_isLetter, trivial⟩ rfl rfl (Nat.le_of_ble_eq_true rfl) dX6_setRule_8 (fun r8 M8 q8 => ?_)
    obtain ⟨rfl, rfl⟩ := q8
    refine zb_if_eq (pc := 11) (tgt := 25) E dX6_setRule_11 (by decide) (fun h11 => ?_) (fun h11 => ?_)
    · rw [zp_in_nI (by omega), decide_eq_true ha0] at h11
      cases h11
    · refine zz_aload_n (pc := 14) E dX6_setRule_14 rfl ?_
      refine zz_gf (pc := 15) E k (by have := hk.2.1; omega) (zz_F_tab hk.1) rfl inX6_setRule_X6 0 (by decide) lkX6_setRule_9 (fun _ h => h) rfl dX6_setRule_15 ?_
      refine zz_iload_n (pc := 18) E dX6_setRule_18 rfl ?_
      refine zz_iconst (pc := 19) (v := nI 3) E dX6_setRule_19 (by decide) ?_
      refine zn_imul (pc := 20) E dX6_setRule_20 ?_
      refine zz_iload_n (pc := 21) E dX6_setRule_21 rfl ?_
      refine zn_iadd (pc := 22) E dX6_setRule_22 ?_
      refine zz_iload_n (pc := 23) E dX6_setRule_23 rfl ?_
      refine zz_iast (pc := 24) E (k + 1) (_) (n := 18) (by have := hk.2.1; omega) (hk.2.2.1 G) rfl (by omega) (by decide) dX6_setRule_24 ?_
      exact zz_vret (pc := 25) E hr hlk dX6_setRule_25 (by rw [Nat.mul_comm])

theorem niX6_claimOf_X7_isSign : Cond.initialized RX7 ∈ wsX6_claimOf := by decide +kernel
theorem nsX6_claimOf_X7_isSign : Cond.static yX7_isSign ∈ wsX6_claimOf := by decide +kernel
theorem inX6_claimOf_X6 : ∀ w ∈ u_ws RX6 TX6 2, w ∈ wsX6_claimOf := by decide +kernel
theorem lkX6_claimOf_15 : Cond.fieldLink RX6 15 RX6 "claims" "[I" ∈ wsX6_claimOf := by decide +kernel
set_option maxHeartbeats 4000000 in
set_option maxRecDepth 100000 in
theorem kkX6_claimOf (l : Launch) (G : zz_C) (hJ : zz_J G) (M : zz_M) (k : Nat) (hk : zz_Tb k) (s0 : Nat) (hs0 : s0 < 6) : Met l yX6_claimOf wsX6_claimOf ({ frames := 1, cells := 0, slots := 0, locals := 20 } : Room) (zz_P G M [.ref (G.2.2 k), .int (nI s0)]) (zz_Qi G (fun r M1 => M = M1 ∧ r = M (k + 2) s0)) 0 0 (zz_A G) := by
  refine zz_start hJ (by decide) rfl (Nat.le_of_ble_eq_true rfl) ?_
  intro p e s m below meth c E hr hlk
  have hts := E.2.2.2.2.1
  show zz_Z p l e (headSpec wsX6_claimOf ({ frames := 1, cells := 0, slots := 0, locals := 20 } : Room)).room s m ([.ref (G.2.2 k), .int (nI s0)] : List Value).toArray below meth c 0 0 (MQ below (zz_Qi G (fun r M1 => M = M1 ∧ r = M (k + 2) s0)) ([.ref (G.2.2 k), .int (nI s0)] : List Value).toArray s 0 0 (zz_A G)) 2 G (zz_A G) M 0 [(0, .ref (G.2.2 k)), (1, .int (nI s0))] []
  refine zz_iload_n (pc := 0) E dX6_claimOf_0 rfl ?_
  refine zz_ciN (pc := 1) E (kkX7_isSign l G hJ _ _ ) ⟨va_cnB 1 hts gX6_claimOf_X7_isSign_n24 rfl rfl rfl E.2.2.2.2.2.2.1.2.2.2.2.1 (hts _ niX6_claimOf_X7_isSign) (by decide +kernel) ⟨Nat.le_of_ble_eq_true rfl, Nat.le_of_ble_eq_true rfl⟩, hts _ nsX6_claimOf_X7_isSign, trivial⟩ rfl rfl (Nat.le_of_ble_eq_true rfl) dX6_claimOf_1 (fun r1 M1 q1 => ?_)
  obtain ⟨rfl, rfl⟩ := q1
  refine zb_if_eq (pc := 4) (tgt := 16) E dX6_claimOf_4 (by decide) (fun h4 => ?_) (fun h4 => ?_)
  · rw [zp_in_nI (by omega), decide_eq_true hs0] at h4
    cases h4
  · refine zz_aload_n (pc := 7) E dX6_claimOf_7 rfl ?_
    refine zz_gf (pc := 8) E k (by have := hk.2.1; omega) (zz_F_tab hk.1) rfl inX6_claimOf_X6 1 (by decide) lkX6_claimOf_15 (fun _ h => h) rfl dX6_claimOf_8 ?_
    refine zz_iload_n (pc := 11) E dX6_claimOf_11 rfl ?_
    refine zz_iald (pc := 12) E (k + 2) (_) (n := 6) hk.2.1 (hk.2.2.2 G _) rfl (by omega) (by decide) dX6_claimOf_12 ?_
    refine zz_goto (pc := 13) (tgt := 18) E dX6_claimOf_13 (by decide) ?_
    exact zz_iret (pc := 18) E hr hlk dX6_claimOf_18 ⟨rfl, rfl⟩

theorem niX6_setClaim_X7_isSign : Cond.initialized RX7 ∈ wsX6_setClaim := by decide +kernel
theorem nsX6_setClaim_X7_isSign : Cond.static yX7_isSign ∈ wsX6_setClaim := by decide +kernel
theorem inX6_setClaim_X6 : ∀ w ∈ u_ws RX6 TX6 2, w ∈ wsX6_setClaim := by decide +kernel
theorem lkX6_setClaim_15 : Cond.fieldLink RX6 15 RX6 "claims" "[I" ∈ wsX6_setClaim := by decide +kernel
set_option maxHeartbeats 4000000 in
set_option maxRecDepth 100000 in
theorem kkX6_setClaim (l : Launch) (G : zz_C) (hJ : zz_J G) (M : zz_M) (k : Nat) (hk : zz_Tb k) (s0 : Nat) (x : Int32) (hs0 : s0 < 6) : Met l yX6_setClaim wsX6_setClaim ({ frames := 1, cells := 0, slots := 0, locals := 20 } : Room) (zz_P G M [.ref (G.2.2 k), .int (nI s0), .int x]) (zz_Qv G (fun M1 => M1 = zz_up M (k + 2) (upd (M (k + 2)) s0 x))) 0 0 (zz_A G) := by
  refine zz_start hJ (by decide) rfl (Nat.le_of_ble_eq_true rfl) ?_
  intro p e s m below meth c E hr hlk
  have hts := E.2.2.2.2.1
  show zz_Z p l e (headSpec wsX6_setClaim ({ frames := 1, cells := 0, slots := 0, locals := 20 } : Room)).room s m ([.ref (G.2.2 k), .int (nI s0), .int x] : List Value).toArray below meth c 0 0 (MQ below (zz_Qv G (fun M1 => M1 = zz_up M (k + 2) (upd (M (k + 2)) s0 x))) ([.ref (G.2.2 k), .int (nI s0), .int x] : List Value).toArray s 0 0 (zz_A G)) 3 G (zz_A G) M 0 [(0, .ref (G.2.2 k)), (1, .int (nI s0)), (2, .int x)] []
  refine zz_iload_n (pc := 0) E dX6_setClaim_0 rfl ?_
  refine zz_ciN (pc := 1) E (kkX7_isSign l G hJ _ _ ) ⟨va_cnB 1 hts gX6_setClaim_X7_isSign_n24 rfl rfl rfl E.2.2.2.2.2.2.1.2.2.2.2.1 (hts _ niX6_setClaim_X7_isSign) (by decide +kernel) ⟨Nat.le_of_ble_eq_true rfl, Nat.le_of_ble_eq_true rfl⟩, hts _ nsX6_setClaim_X7_isSign, trivial⟩ rfl rfl (Nat.le_of_ble_eq_true rfl) dX6_setClaim_1 (fun r1 M1 q1 => ?_)
  obtain ⟨rfl, rfl⟩ := q1
  refine zb_if_eq (pc := 4) (tgt := 14) E dX6_setClaim_4 (by decide) (fun h4 => ?_) (fun h4 => ?_)
  · rw [zp_in_nI (by omega), decide_eq_true hs0] at h4
    cases h4
  · refine zz_aload_n (pc := 7) E dX6_setClaim_7 rfl ?_
    refine zz_gf (pc := 8) E k (by have := hk.2.1; omega) (zz_F_tab hk.1) rfl inX6_setClaim_X6 1 (by decide) lkX6_setClaim_15 (fun _ h => h) rfl dX6_setClaim_8 ?_
    refine zz_iload_n (pc := 11) E dX6_setClaim_11 rfl ?_
    refine zz_iload_n (pc := 12) E dX6_setClaim_12 rfl ?_
    refine zz_iast (pc := 13) E (k + 2) (_) (n := 6) hk.2.1 (hk.2.2.2 G) rfl (by omega) (by decide) dX6_setClaim_13 ?_
    exact zz_vret (pc := 14) E hr hlk dX6_setClaim_14 rfl

set_option maxHeartbeats 4000000 in
set_option maxRecDepth 100000 in
theorem kkX6_countPresent (l : Launch) (G : zz_C) (hJ : zz_J G) (M : zz_M) (k n : Nat) (hk : k < 111) (hF : ∀ f, zz_F G k f = .inl (G.2.1 0, n, .inl f)) (hn : n < 2 ^ 31) : Met l yX6_countPresent wsX6_countPresent ({ frames := 0, cells := 0, slots := 0, locals := 0 } : Room) (zz_P G M [.ref (G.2.2 k)]) (zz_Qi G (fun r M1 => M = M1 ∧ r = nI (zcnt (M k) n))) 0 0 (zz_A G) := by
  refine zz_start hJ (by decide) rfl (Nat.le_of_ble_eq_true rfl) ?_
  intro p e s m below meth c E hr hlk
  have hts := E.2.2.2.2.1
  show zz_Z p l e (headSpec wsX6_countPresent ({ frames := 0, cells := 0, slots := 0, locals := 0 } : Room)).room s m ([.ref (G.2.2 k)] : List Value).toArray below meth c 0 0 (MQ below (zz_Qi G (fun r M1 => M = M1 ∧ r = nI (zcnt (M k) n))) ([.ref (G.2.2 k)] : List Value).toArray s 0 0 (zz_A G)) 6 G (zz_A G) M 0 [(0, .ref (G.2.2 k))] []
  refine zz_iconst (pc := 0) (v := nI 0) E dX6_countPresent_0 (by decide) ?_
  refine zz_istore_n (pc := 1) (lv' := [(0, _), (1, _)]) E dX6_countPresent_1 (by decide) rfl ?_
  refine zz_aload_n (pc := 2) E dX6_countPresent_2 rfl ?_
  refine zz_astore_n (pc := 3) (lv' := [(0, _), (1, _), (2, _)]) E dX6_countPresent_3 (by decide) rfl ?_
  refine zz_aload_n (pc := 4) E dX6_countPresent_4 rfl ?_
  refine zz_alen (pc := 5) E k (n := n) hk (hF _) dX6_countPresent_5 ?_
  refine zz_istore_n (pc := 6) (lv' := [(0, _), (1, _), (2, _), (3, _)]) E dX6_countPresent_6 (by decide) rfl ?_
  refine zz_iconst (pc := 7) (v := nI 0) E dX6_countPresent_7 (by decide) ?_
  refine zz_istore (pc := 8) (lv' := [(0, _), (1, _), (2, _), (3, _), (4, _)]) E dX6_countPresent_8 (by decide) rfl ?_
  have key : ∀ (j i : Nat), i + j = n → zz_Z p l e (headSpec wsX6_countPresent ({ frames := 0, cells := 0, slots := 0, locals := 0 } : Room)).room s m ([.ref (G.2.2 k)] : List Value).toArray below meth c 0 0 (MQ below (zz_Qi G (fun r M1 => M = M1 ∧ r = nI (zcnt (M k) n))) ([.ref (G.2.2 k)] : List Value).toArray s 0 0 (zz_A G)) 6 G (zz_A G) M 10 [(1, .int (nI (zcnt (M k) i))), (2, .ref (G.2.2 k)), (3, .int (nI n)), (4, .int (nI i))] [] := by
    intro j
    induction j with
    | zero =>
      intro i hi
      refine zz_iload (pc := 10) E dX6_countPresent_10 rfl ?_
      refine zz_iload_n (pc := 12) E dX6_countPresent_12 rfl ?_
      refine zn_icmp_ge (pc := 13) (tgt := 38) E dX6_countPresent_13 (by decide) (by omega) (by omega) (fun h13 => ?_) (fun h13 => ?_)
      · refine zz_iload_n (pc := 38) E dX6_countPresent_38 rfl ?_
        exact zz_iret (pc := 39) E hr hlk dX6_countPresent_39 ⟨rfl, by rw [show i = n by omega]⟩
      · exact absurd h13 (by omega)
    | succ j ih =>
      intro i hi
      refine zz_iload (pc := 10) E dX6_countPresent_10 rfl ?_
      refine zz_iload_n (pc := 12) E dX6_countPresent_12 rfl ?_
      refine zn_icmp_ge (pc := 13) (tgt := 38) E dX6_countPresent_13 (by decide) (by omega) (by omega) (fun h13 => ?_) (fun h13 => ?_)
      · exact absurd h13 (by omega)
      · refine zz_aload_n (pc := 16) E dX6_countPresent_16 rfl ?_
        refine zz_iload (pc := 17) E dX6_countPresent_17 rfl ?_
        refine zz_iald (pc := 19) E k (_) (n := n) hk (hF _) rfl (by omega) hn dX6_countPresent_19 ?_
        refine zz_istore (pc := 20) (lv' := [(1, _), (2, _), (3, _), (4, _), (5, _)]) E dX6_countPresent_20 (by decide) rfl ?_
        refine zz_iload (pc := 22) E dX6_countPresent_22 rfl ?_
        refine zz_bipush (pc := 24) (v := -9) E dX6_countPresent_24 (by decide) ?_
        refine zz_icmp_eq (pc := 26) (tgt := 32) E dX6_countPresent_26 (by decide) (fun h26 => ?_) (fun h26 => ?_)
        · refine zn_inc (pc := 32) (lv' := [(1, _), (2, _), (3, _), (4, _), (5, _)]) E dX6_countPresent_32 rfl (by decide) rfl ?_
          refine zz_goto (pc := 35) (tgt := 10) E dX6_countPresent_35 (by decide) ?_
          exact zz_to (ih (i + 1) (by omega)) ⟨by rw [zcnt]; first | (rw [if_pos h26]; rfl) | (rw [if_neg h26]; rfl), rfl, rfl, rfl, trivial⟩
        · refine zn_inc (pc := 29) (lv' := [(1, _), (2, _), (3, _), (4, _), (5, _)]) E dX6_countPresent_29 rfl (by decide) rfl ?_
          refine zn_inc (pc := 32) (lv' := [(1, _), (2, _), (3, _), (4, _), (5, _)]) E dX6_countPresent_32 rfl (by decide) rfl ?_
          refine zz_goto (pc := 35) (tgt := 10) E dX6_countPresent_35 (by decide) ?_
          exact zz_to (ih (i + 1) (by omega)) ⟨by rw [zcnt]; first | (rw [if_pos h26]; rfl) | (rw [if_neg h26]; rfl), rfl, rfl, rfl, trivial⟩
  exact zz_to (key n 0 (by omega)) ⟨rfl, rfl, rfl, rfl, trivial⟩

theorem inX6_countRules_X6 : ∀ w ∈ u_ws RX6 TX6 2, w ∈ wsX6_countRules := by decide +kernel
theorem lkX6_countRules_9 : Cond.fieldLink RX6 9 RX6 "rules" "[I" ∈ wsX6_countRules := by decide +kernel
set_option maxHeartbeats 4000000 in
set_option maxRecDepth 100000 in
theorem kkX6_countRules (l : Launch) (G : zz_C) (hJ : zz_J G) (M : zz_M) (k : Nat) (hk : zz_Tb k) : Met l yX6_countRules wsX6_countRules ({ frames := 1, cells := 0, slots := 0, locals := 25 } : Room) (zz_P G M [.ref (G.2.2 k)]) (zz_Qi G (fun r M1 => M = M1 ∧ r = nI (zcnt (M (k + 1)) 18))) 0 0 (zz_A G) := by
  refine zz_start hJ (by decide) rfl (Nat.le_of_ble_eq_true rfl) ?_
  intro p e s m below meth c E hr hlk
  have hts := E.2.2.2.2.1
  show zz_Z p l e (headSpec wsX6_countRules ({ frames := 1, cells := 0, slots := 0, locals := 25 } : Room)).room s m ([.ref (G.2.2 k)] : List Value).toArray below meth c 0 0 (MQ below (zz_Qi G (fun r M1 => M = M1 ∧ r = nI (zcnt (M (k + 1)) 18))) ([.ref (G.2.2 k)] : List Value).toArray s 0 0 (zz_A G)) 1 G (zz_A G) M 0 [(0, .ref (G.2.2 k))] []
  refine zz_aload_n (pc := 0) E dX6_countRules_0 rfl ?_
  refine zz_gf (pc := 1) E k (by have := hk.2.1; omega) (zz_F_tab hk.1) rfl inX6_countRules_X6 0 (by decide) lkX6_countRules_9 (fun _ h => h) rfl dX6_countRules_1 ?_
  refine zz_ciS (pc := 4) E (kkX6_countPresent l G hJ _ _ _ (by have := hk.2.1; omega) (hk.2.2.1 G) (by decide)) (va_cwS 1 hts gX6_countRules_X6_countPresent rfl rfl rfl (by decide +kernel) ⟨Nat.le_of_ble_eq_true rfl, Nat.le_of_ble_eq_true rfl⟩) rfl rfl (Nat.le_of_ble_eq_true rfl) dX6_countRules_4 (fun r4 M4 q4 => ?_)
  obtain ⟨rfl, rfl⟩ := q4
  exact zz_iret (pc := 7) E hr hlk dX6_countRules_7 ⟨rfl, rfl⟩

theorem inX6_countClaims_X6 : ∀ w ∈ u_ws RX6 TX6 2, w ∈ wsX6_countClaims := by decide +kernel
theorem lkX6_countClaims_15 : Cond.fieldLink RX6 15 RX6 "claims" "[I" ∈ wsX6_countClaims := by decide +kernel
set_option maxHeartbeats 4000000 in
set_option maxRecDepth 100000 in
theorem kkX6_countClaims (l : Launch) (G : zz_C) (hJ : zz_J G) (M : zz_M) (k : Nat) (hk : zz_Tb k) : Met l yX6_countClaims wsX6_countClaims ({ frames := 1, cells := 0, slots := 0, locals := 25 } : Room) (zz_P G M [.ref (G.2.2 k)]) (zz_Qi G (fun r M1 => M = M1 ∧ r = nI (zcnt (M (k + 2)) 6))) 0 0 (zz_A G) := by
  refine zz_start hJ (by decide) rfl (Nat.le_of_ble_eq_true rfl) ?_
  intro p e s m below meth c E hr hlk
  have hts := E.2.2.2.2.1
  show zz_Z p l e (headSpec wsX6_countClaims ({ frames := 1, cells := 0, slots := 0, locals := 25 } : Room)).room s m ([.ref (G.2.2 k)] : List Value).toArray below meth c 0 0 (MQ below (zz_Qi G (fun r M1 => M = M1 ∧ r = nI (zcnt (M (k + 2)) 6))) ([.ref (G.2.2 k)] : List Value).toArray s 0 0 (zz_A G)) 1 G (zz_A G) M 0 [(0, .ref (G.2.2 k))] []
  refine zz_aload_n (pc := 0) E dX6_countClaims_0 rfl ?_
  refine zz_gf (pc := 1) E k (by have := hk.2.1; omega) (zz_F_tab hk.1) rfl inX6_countClaims_X6 1 (by decide) lkX6_countClaims_15 (fun _ h => h) rfl dX6_countClaims_1 ?_
  refine zz_ciS (pc := 4) E (kkX6_countPresent l G hJ _ _ _ hk.2.1 (hk.2.2.2 G) (by decide)) (va_cwS 1 hts gX6_countClaims_X6_countPresent rfl rfl rfl (by decide +kernel) ⟨Nat.le_of_ble_eq_true rfl, Nat.le_of_ble_eq_true rfl⟩) rfl rfl (Nat.le_of_ble_eq_true rfl) dX6_countClaims_4 (fun r4 M4 q4 => ?_)
  obtain ⟨rfl, rfl⟩ := q4
  exact zz_iret (pc := 7) E hr hlk dX6_countClaims_7 ⟨rfl, rfl⟩

theorem inX6_copyFrom_X6 : ∀ w ∈ u_ws RX6 TX6 2, w ∈ wsX6_copyFrom := by decide +kernel
theorem lkX6_copyFrom_9 : Cond.fieldLink RX6 9 RX6 "rules" "[I" ∈ wsX6_copyFrom := by decide +kernel
theorem mmX6_copyFrom_35_ml : Cond.methodLink RX6 35 arraycopyName ∈ wsX6_copyFrom := by decide +kernel
theorem mmX6_copyFrom_35_na : Cond.native arraycopyName ∈ wsX6_copyFrom := by decide +kernel
theorem mmX6_copyFrom_35_st : Cond.static arraycopyName ∈ wsX6_copyFrom := by decide +kernel
theorem mmX6_copyFrom_35_in : Cond.initialized "java/lang/System" ∈ wsX6_copyFrom := by decide +kernel
theorem lkX6_copyFrom_15 : Cond.fieldLink RX6 15 RX6 "claims" "[I" ∈ wsX6_copyFrom := by decide +kernel
set_option maxHeartbeats 4000000 in
set_option maxRecDepth 100000 in
theorem kkX6_copyFrom (l : Launch) (G : zz_C) (hJ : zz_J G) (M : zz_M) (k : Nat) (hk : zz_Tb k) (k2 : Nat) (hk2 : zz_Tb k2) (S : Nat → Option Nat) (hS : ztab M k2 S) (hne : k2 + 2 < k ∨ k + 2 < k2) : Met l yX6_copyFrom wsX6_copyFrom ({ frames := 1, cells := 0, slots := 0, locals := 60 } : Room) (zz_P G M [.ref (G.2.2 k), .ref (G.2.2 k2)]) (zz_Qv G (fun M1 => zfr [k + 1, k + 2] M M1 ∧ ztab M1 k S)) 0 0 (zz_A G) := by
  refine zz_start hJ (by decide) rfl (Nat.le_of_ble_eq_true rfl) ?_
  intro p e s m below meth c E hr hlk
  have hts := E.2.2.2.2.1
  show zz_Z p l e (headSpec wsX6_copyFrom ({ frames := 1, cells := 0, slots := 0, locals := 60 } : Room)).room s m ([.ref (G.2.2 k), .ref (G.2.2 k2)] : List Value).toArray below meth c 0 0 (MQ below (zz_Qv G (fun M1 => zfr [k + 1, k + 2] M M1 ∧ ztab M1 k S)) ([.ref (G.2.2 k), .ref (G.2.2 k2)] : List Value).toArray s 0 0 (zz_A G)) 2 G (zz_A G) M 0 [(0, .ref (G.2.2 k)), (1, .ref (G.2.2 k2))] []
  refine zz_aload_n (pc := 0) E dX6_copyFrom_0 rfl ?_
  refine zz_gf (pc := 1) E k2 (by have := hk2.2.1; omega) (zz_F_tab hk2.1) rfl inX6_copyFrom_X6 0 (by decide) lkX6_copyFrom_9 (fun _ h => h) rfl dX6_copyFrom_1 ?_
  refine zz_iconst (pc := 4) (v := nI 0) E dX6_copyFrom_4 (by decide) ?_
  refine zz_aload_n (pc := 5) E dX6_copyFrom_5 rfl ?_
  refine zz_gf (pc := 6) E k (by have := hk.2.1; omega) (zz_F_tab hk.1) rfl inX6_copyFrom_X6 0 (by decide) lkX6_copyFrom_9 (fun _ h => h) rfl dX6_copyFrom_6 ?_
  refine zz_iconst (pc := 9) (v := nI 0) E dX6_copyFrom_9 (by decide) ?_
  refine zz_aload_n (pc := 10) E dX6_copyFrom_10 rfl ?_
  refine zz_gf (pc := 11) E k (by have := hk.2.1; omega) (zz_F_tab hk.1) rfl inX6_copyFrom_X6 0 (by decide) lkX6_copyFrom_9 (fun _ h => h) rfl dX6_copyFrom_11 ?_
  refine zz_alen (pc := 14) E (k + 1) (n := 18) (by have := hk.2.1; omega) (hk.2.2.1 G _) dX6_copyFrom_14 ?_
  refine zz_acopy (pc := 15) E (k2 + 1) (k + 1) (n0 := 18) (n1 := 18) (by have := hk2.2.1; omega) (by have := hk.2.1; omega) (hk2.2.2.1 G _) (hk.2.2.1 G) rfl rfl rfl (by decide) (by decide) (by decide) (by decide) mmX6_copyFrom_35_ml mmX6_copyFrom_35_na mmX6_copyFrom_35_st mmX6_copyFrom_35_in (by decide) (Nat.le_of_ble_eq_true rfl) dX6_copyFrom_15 ?_
  refine zz_aload_n (pc := 18) E dX6_copyFrom_18 rfl ?_
  refine zz_gf (pc := 19) E k2 (by have := hk2.2.1; omega) (zz_F_tab hk2.1) rfl inX6_copyFrom_X6 1 (by decide) lkX6_copyFrom_15 (fun _ h => h) rfl dX6_copyFrom_19 ?_
  refine zz_iconst (pc := 22) (v := nI 0) E dX6_copyFrom_22 (by decide) ?_
  refine zz_aload_n (pc := 23) E dX6_copyFrom_23 rfl ?_
  refine zz_gf (pc := 24) E k (by have := hk.2.1; omega) (zz_F_tab hk.1) rfl inX6_copyFrom_X6 1 (by decide) lkX6_copyFrom_15 (fun _ h => h) rfl dX6_copyFrom_24 ?_
  refine zz_iconst (pc := 27) (v := nI 0) E dX6_copyFrom_27 (by decide) ?_
  refine zz_aload_n (pc := 28) E dX6_copyFrom_28 rfl ?_
  refine zz_gf (pc := 29) E k (by have := hk.2.1; omega) (zz_F_tab hk.1) rfl inX6_copyFrom_X6 1 (by decide) lkX6_copyFrom_15 (fun _ h => h) rfl dX6_copyFrom_29 ?_
  refine zz_alen (pc := 32) E (k + 2) (n := 6) hk.2.1 (hk.2.2.2 G _) dX6_copyFrom_32 ?_
  refine zz_acopy (pc := 33) E (k2 + 2) (k + 2) (n0 := 6) (n1 := 6) hk2.2.1 hk.2.1 (hk2.2.2.2 G _) (hk.2.2.2 G) rfl rfl rfl (by decide) (by decide) (by decide) (by decide) mmX6_copyFrom_35_ml mmX6_copyFrom_35_na mmX6_copyFrom_35_st mmX6_copyFrom_35_in (by decide) (Nat.le_of_ble_eq_true rfl) dX6_copyFrom_33 ?_
  exact zz_vret (pc := 36) E hr hlk dX6_copyFrom_36 ⟨zfr_up (zfr_up (zfr_rf _ _) (by simp)) (by simp), fun i hi => by rw [zz_up_ne _ _ (by omega), zz_up_same]; unfold va_cpy; rw [if_pos (by omega), show 0 + (i - 0) = i by omega]; exact hS.1 i hi, fun i hi => by rw [zz_up_same]; unfold va_cpy; rw [if_pos (by omega), show 0 + (i - 0) = i by omega, zz_up_ne _ _ (by omega)]; exact hS.2 i hi⟩
