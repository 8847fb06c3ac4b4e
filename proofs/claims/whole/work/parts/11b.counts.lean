/-! convolution: the order of the signs is no matter -/
theorem zsm_left (f : Nat → Int32) : ∀ n, zsm f (n + 1) = f 0 + zsm (fun i => f (i + 1)) n
  | 0 => by rw [zsm, zsm, zsm, Int32.zero_add, Int32.add_zero]
  | n + 1 => by rw [zsm, zsm_left f n, zsm, Int32.add_assoc]
theorem zsm_add (f g : Nat → Int32) : ∀ n, zsm (fun i => f i + g i) n = zsm f n + zsm g n
  | 0 => by rw [zsm, zsm, zsm, Int32.add_zero]
  | n + 1 => by
    rw [zsm, zsm, zsm, zsm_add f g n]
    rw [Int32.add_assoc, Int32.add_assoc]
    congr 1
    rw [← Int32.add_assoc, Int32.add_comm (zsm g n), Int32.add_assoc]
theorem zsm_mulr (f : Nat → Int32) (c : Int32) : ∀ n, zsm f n * c = zsm (fun i => f i * c) n
  | 0 => by rw [zsm, zsm, Int32.zero_mul]
  | n + 1 => by rw [zsm, zsm, Int32.add_mul, zsm_mulr f c n]
theorem zsm_mull (f : Nat → Int32) (c : Int32) : ∀ n, c * zsm f n = zsm (fun i => c * f i) n
  | 0 => by rw [zsm, zsm, Int32.mul_zero]
  | n + 1 => by rw [zsm, zsm, Int32.mul_add, zsm_mull f c n]
theorem zsm_zero {f : Nat → Int32} : ∀ {n : Nat}, (∀ i, i < n → f i = 0) → zsm f n = 0
  | 0, _ => rfl
  | n + 1, h => by rw [zsm, zsm_zero (fun i hi => h i (by omega)), h n (by omega), Int32.add_zero]
theorem zsm_tri : ∀ (t : Nat) (F : Nat → Nat → Nat → Int32), zsm (fun k => zsm (fun i => F i (k - i) (t - k)) (k + 1)) (t + 1) = zsm (fun i => zsm (fun j => F i j (t - i - j)) (t - i + 1)) (t + 1)
  | 0, F => rfl
  | t + 1, F => by
    rw [zsm_left, zsm_left (fun i => zsm (fun j => F i j (t + 1 - i - j)) (t + 1 - i + 1))]
    have e1 : zsm (fun i => F i (0 - i) (t + 1 - 0)) (0 + 1) = F 0 0 (t + 1) := by
      rw [zsm, zsm, Int32.zero_add]
      rfl
    have e2 : zsm (fun k => zsm (fun i => F i (k + 1 - i) (t + 1 - (k + 1))) (k + 1 + 1)) (t + 1) = zsm (fun k => F 0 (k + 1) (t - k)) (t + 1) + zsm (fun k => zsm (fun i => F (i + 1) (k - i) (t - k)) (k + 1)) (t + 1) := by
      rw [← zsm_add]
      refine zsm_congr (fun k hk => ?_)
      rw [zsm_left, show t + 1 - (k + 1) = t - k by omega]
      congr 1
      exact zsm_congr (fun i hi => by rw [show k + 1 - (i + 1) = k - i by omega])
    have e3 : zsm (fun j => F 0 j (t + 1 - 0 - j)) (t + 1 - 0 + 1) = F 0 0 (t + 1) + zsm (fun k => F 0 (k + 1) (t - k)) (t + 1) := by
      rw [show t + 1 - 0 + 1 = (t + 1) + 1 by omega, zsm_left]
      congr 1
      exact zsm_congr (fun i hi => by rw [show t + 1 - 0 - (i + 1) = t - i by omega])
    have e4 : zsm (fun i => zsm (fun j => F (i + 1) j (t + 1 - (i + 1) - j)) (t + 1 - (i + 1) + 1)) (t + 1) = zsm (fun i => zsm (fun j => F (i + 1) j (t - i - j)) (t - i + 1)) (t + 1) := zsm_congr (fun i hi => by rw [show t + 1 - (i + 1) = t - i by omega])
    rw [e1, e2, e3, e4, zsm_tri t (fun i j k => F (i + 1) j k), Int32.add_assoc]
def zcx (f g : Nat → Int32) (m : Nat) : Int32 := zsm (fun i => f i * g (m - i)) (m + 1)
theorem zcx_congr {f f2 g g2 : Nat → Int32} {m : Nat} (h1 : ∀ i, i ≤ m → f i = f2 i) (h2 : ∀ i, i ≤ m → g i = g2 i) : zcx f g m = zcx f2 g2 m := zsm_congr (fun i hi => by rw [h1 i (by omega), h2 (m - i) (by omega)])
theorem zcx_assoc (f g h : Nat → Int32) (t : Nat) : zcx (zcx f g) h t = zcx f (zcx g h) t := by
  have e1 : zcx (zcx f g) h t = zsm (fun k => zsm (fun i => f i * g (k - i) * h (t - k)) (k + 1)) (t + 1) := zsm_congr (fun k hk => zsm_mulr _ _ _)
  have e2 : zcx f (zcx g h) t = zsm (fun i => zsm (fun j => f i * g j * h (t - i - j)) (t - i + 1)) (t + 1) := zsm_congr (fun i hi => by
    show f i * zsm _ _ = _
    rw [zsm_mull]
    exact zsm_congr (fun j hj => by rw [Int32.mul_assoc]))
  rw [e1, e2]
  exact zsm_tri t (fun i j k => f i * g j * h k)
def zdl (m : Nat) : Int32 := if m = 0 then 1 else 0
theorem zcx_dl (f : Nat → Int32) (t : Nat) : zcx zdl f t = f t := by
  unfold zcx
  rw [zsm_left, zsm_zero (fun i hi => by show zdl (i + 1) * _ = 0; unfold zdl; rw [if_neg (by omega), Int32.zero_mul]), Int32.add_zero]
  show 1 * f (t - 0) = f t
  rw [Int32.one_mul, Nat.sub_zero]
theorem zcx_dr (f : Nat → Int32) (t : Nat) : zcx f zdl t = f t := by
  show zsm (fun i => f i * zdl (t - i)) t + f t * zdl (t - t) = f t
  rw [zsm_zero (fun i hi => by unfold zdl; rw [if_neg (by omega), Int32.mul_zero]), Int32.zero_add, Nat.sub_self]
  show f t * 1 = f t
  rw [Int32.mul_one]
theorem zcv_cx {f g : Nat → Int32} {m : Nat} (h : f 0 = 0) : zcv f g m = zcx f g m := by
  unfold zcx
  rw [zsm_left, h, Int32.zero_mul, Int32.zero_add]
  rfl
def zfc (W : Nat → Nat → Int32) : (Nat → Int32) → List Nat → Nat → Int32
  | P, [] => P
  | P, x :: L => zfc W (zcx P (W x)) L
theorem zfc_rc {W : Nat → Nat → Int32} : ∀ (L : List Nat) (P : Nat → Int32) (t : Nat), (∀ x ∈ L, W x 0 = 0) → zfc W P L t = zcx P (zrc W L) t
  | [], P, t, _ => (zcx_dr P t).symm
  | x :: L, P, t, h => by
    rw [zfc, zfc_rc L _ t (fun y hy => h y (List.mem_cons_of_mem _ hy)), zcx_assoc]
    exact zcx_congr (fun _ _ => rfl) (fun i hi => (zcv_cx (h x List.mem_cons_self)).symm)
theorem zfc_app (W : Nat → Nat → Int32) : ∀ (L : List Nat) (P : Nat → Int32) (x : Nat), zfc W P (L ++ [x]) = zcx (zfc W P L) (W x)
  | [], P, x => rfl
  | y :: L, P, x => by rw [List.cons_append, zfc, zfc_app W L, zfc]
def zW8 (M : zz_M) : Nat → Nat → Int32 := fun x i => M 105 (13 * x + i)
/-- the sum so far, k of its terms -/
def zck (P Q : Nat → Int32) (t k : Nat) : Int32 := zsm (fun i => if i ≤ t then P i * Q (t - i) else 0) k
theorem zck_all {P Q : Nat → Int32} {t k : Nat} (h : t < k) : zck P Q t k = zcx P Q t := by
  unfold zck zcx
  induction k with
  | zero => omega
  | succ k ih =>
    by_cases e : t < k
    · rw [zsm, ih e, if_neg (by omega), Int32.add_zero]
    · have : k = t := by omega
      subst this
      exact zsm_congr (fun i hi => by rw [if_pos (by omega)])
theorem zck_hi {P Q : Nat → Int32} {t k : Nat} (h : t < k) : zck P Q t (k + 1) = zck P Q t k := by
  unfold zck
  rw [zsm, if_neg (by omega), Int32.add_zero]
theorem zck_lo {P Q : Nat → Int32} {t k : Nat} (h : k ≤ t) : zck P Q t (k + 1) = zck P Q t k + P k * Q (t - k) := by
  unfold zck
  rw [zsm, if_pos h]

theorem inX8_countsRow_X8 : ∀ w ∈ u_ws RX8 TX8 14, w ∈ wsX8_countsRow := by decide +kernel
theorem lkX8_countsRow_25 : Cond.fieldLink RX8 25 RX8 "counted" "[I" ∈ wsX8_countsRow := by decide +kernel
theorem lkX8_countsRow_28 : Cond.fieldLink RX8 28 RX8 "before" "[I" ∈ wsX8_countsRow := by decide +kernel
theorem lkX8_countsRow_22 : Cond.fieldLink RX8 22 RX8 "wordsOf" "[I" ∈ wsX8_countsRow := by decide +kernel
set_option maxHeartbeats 4000000 in
set_option maxRecDepth 100000 in
theorem kkX8_countsRow (l : Launch) (G : zz_C) (hJ : zz_J G) (M : zz_M) (a mo n : Nat) (hz : zok a 6 mo = true) (hmo : mo < 10) (hn : n ≤ 12) : Met l yX8_countsRow wsX8_countsRow ({ frames := 2, cells := 0, slots := 0, locals := 47 } : Room) (zz_P G M [.ref (G.2.2 100), .int (nI a), .int (nI n)]) (zz_Qv G (fun M1 => zfr [106, 107] M M1 ∧ ∀ t, t ≤ n → M1 106 t = zfc (zW8 M) zdl (zr a) t)) 0 0 (zz_A G) := by
  refine zz_start hJ (by decide) rfl (Nat.le_of_ble_eq_true rfl) ?_
  intro p e s m below meth c E hr hlk
  have hts := E.2.2.2.2.1
  show zz_Z p l e (headSpec wsX8_countsRow ({ frames := 2, cells := 0, slots := 0, locals := 47 } : Room)).room s m ([.ref (G.2.2 100), .int (nI a), .int (nI n)] : List Value).toArray below meth c 0 0 (MQ below (zz_Qv G (fun M1 => zfr [106, 107] M M1 ∧ ∀ t, t ≤ n → M1 106 t = zfc (zW8 M) zdl (zr a) t)) ([.ref (G.2.2 100), .int (nI a), .int (nI n)] : List Value).toArray s 0 0 (zz_A G)) 8 G (zz_A G) M 0 [(0, .ref (G.2.2 100)), (1, .int (nI a)), (2, .int (nI n))] []
  have ha : a < 2 ^ 31 := by
    have h1 := zok_lt hz (by omega)
    have h2 : 10 ^ mo ≤ 10 ^ 9 := Nat.pow_le_pow_right (by decide) (by omega)
    omega
  have hz20 : zok a 6 20 = true := zok_mono hz (Nat.le_refl 6) (by omega)
  have hn20 := zd_len a
  refine zz_iload_n (pc := 0) E dX8_countsRow_0 rfl ?_
  refine zn_i2l (pc := 1) E dX8_countsRow_1 (by omega) ?_
  refine zz_bipush (pc := 2) (v := nI 6) E dX8_countsRow_2 (by decide) ?_
  refine zz_ciS (pc := 4) E (kkX8_digits l G hJ _ _ _ (by decide)) (va_cwS 2 hts gX8_countsRow_X8_digits rfl rfl rfl (by decide +kernel) ⟨Nat.le_of_ble_eq_true rfl, Nat.le_of_ble_eq_true rfl⟩) rfl rfl (Nat.le_of_ble_eq_true rfl) dX8_countsRow_4 (fun r4 M4 q4 => ?_)
  obtain ⟨rfl, rfl⟩ := q4
  refine zz_eqi (y := nI (zd a).length) (zdg_ok hz (by omega)) ?_
  refine zz_istore_n (pc := 7) (lv' := [(0, _), (1, _), (2, _), (3, _)]) E dX8_countsRow_7 (by decide) rfl ?_
  refine zz_iconst (pc := 8) (v := nI 0) E dX8_countsRow_8 (by decide) ?_
  refine zz_istore (pc := 9) (lv' := [(0, _), (1, _), (2, _), (3, _), (4, _)]) E dX8_countsRow_9 (by decide) rfl ?_
  have key0 : ∀ (j i : Nat) (M2 : zz_M), i + j = 13 → zfr [106, 107] M M2 → (∀ t, t < i → M2 106 t = zdl t) → zz_Z p l e (headSpec wsX8_countsRow ({ frames := 2, cells := 0, slots := 0, locals := 47 } : Room)).room s m ([.ref (G.2.2 100), .int (nI a), .int (nI n)] : List Value).toArray below meth c 0 0 (MQ below (zz_Qv G (fun M1 => zfr [106, 107] M M1 ∧ ∀ t, t ≤ n → M1 106 t = zfc (zW8 M) zdl (zr a) t)) ([.ref (G.2.2 100), .int (nI a), .int (nI n)] : List Value).toArray s 0 0 (zz_A G)) 8 G (zz_A G) M2 11 [(0, .ref (G.2.2 100)), (1, .int (nI a)), (2, .int (nI n)), (3, .int (nI (zd a).length)), (4, .int (nI i))] [] := by
    intro j
    induction j with
    | zero =>
      intro i M2 hi hf hq
      refine zz_iload (pc := 11) E dX8_countsRow_11 rfl ?_
      refine zz_bipush (pc := 13) (v := nI 12) E dX8_countsRow_13 (by decide) ?_
      refine zn_icmp_gt (pc := 15) (tgt := 41) E dX8_countsRow_15 (by decide) (by omega) (by omega) (fun h15 => ?_) (fun h15 => ?_)
      · refine zz_iconst (pc := 41) (v := nI 0) E dX8_countsRow_41 (by decide) ?_
        refine zz_istore (pc := 42) (lv' := [(0, _), (1, _), (2, _), (3, _), (4, _)]) E dX8_countsRow_42 (by decide) rfl ?_
        have key1 : ∀ (j1 i1 : Nat) (M3 : zz_M), i1 + j1 = (zd a).length → zfr [106, 107] M M3 → (∀ t, t ≤ n → M3 106 t = zfc (zW8 M) zdl ((zr a).take i1) t) → zz_Z p l e (headSpec wsX8_countsRow ({ frames := 2, cells := 0, slots := 0, locals := 47 } : Room)).room s m ([.ref (G.2.2 100), .int (nI a), .int (nI n)] : List Value).toArray below meth c 0 0 (MQ below (zz_Qv G (fun M1 => zfr [106, 107] M M1 ∧ ∀ t, t ≤ n → M1 106 t = zfc (zW8 M) zdl (zr a) t)) ([.ref (G.2.2 100), .int (nI a), .int (nI n)] : List Value).toArray s 0 0 (zz_A G)) 8 G (zz_A G) M3 44 [(0, .ref (G.2.2 100)), (1, .int (nI a)), (2, .int (nI n)), (3, .int (nI (zd a).length)), (4, .int (nI i1))] [] := by
          intro j1
          induction j1 with
          | zero =>
            intro i1 M3 hi1 hf3 hq3
            rw [List.take_of_length_le (by rw [zr_len]; omega)] at hq3
            refine zz_iload (pc := 44) E dX8_countsRow_44 rfl ?_
            refine zz_iload_n (pc := 46) E dX8_countsRow_46 rfl ?_
            refine zn_icmp_ge (pc := 47) (tgt := 170) E dX8_countsRow_47 (by decide) (by omega) (by omega) (fun h47 => ?_) (fun h47 => ?_)
            · exact zz_vret (pc := 170) E hr hlk dX8_countsRow_170 ⟨hf3, hq3⟩
            · exact absurd h47 (by omega)
          | succ j1 ih1 =>
            intro i1 M3 hi1 hf3 hq3
            have hd6 := zr_getD_lt (j := i1) hz (by omega)
            have htk : (zr a).take (i1 + 1) = (zr a).take i1 ++ [(zr a).getD i1 0] := by rw [List.take_succ, zr_at (by omega)]; rfl
            refine zz_iload (pc := 44) E dX8_countsRow_44 rfl ?_
            refine zz_iload_n (pc := 46) E dX8_countsRow_46 rfl ?_
            refine zn_icmp_ge (pc := 47) (tgt := 170) E dX8_countsRow_47 (by decide) (by omega) (by omega) (fun h47 => ?_) (fun h47 => ?_)
            · exact absurd h47 (by omega)
            · refine zz_iload_n (pc := 50) E dX8_countsRow_50 rfl ?_
              refine zn_i2l (pc := 51) E dX8_countsRow_51 (by omega) ?_
              refine zz_iload_n (pc := 52) E dX8_countsRow_52 rfl ?_
              refine zz_iload (pc := 53) E dX8_countsRow_53 rfl ?_
              refine zz_ciS (pc := 55) E (kkX8_digitAt l G hJ _ _ _ _ 6 (by omega) rfl (by omega) hz20) (va_cwS 3 hts gX8_countsRow_X8_digitAt rfl rfl rfl (by decide +kernel) ⟨Nat.le_of_ble_eq_true rfl, Nat.le_of_ble_eq_true rfl⟩) rfl rfl (Nat.le_of_ble_eq_true rfl) dX8_countsRow_55 (fun r55 M55 q55 => ?_)
              obtain ⟨rfl, rfl⟩ := q55
              refine zz_istore (pc := 58) (lv' := [(0, _), (1, _), (2, _), (3, _), (4, _), (5, _)]) E dX8_countsRow_58 (by decide) rfl ?_
              refine zz_iconst (pc := 60) (v := nI 0) E dX8_countsRow_60 (by decide) ?_
              refine zz_istore (pc := 61) (lv' := [(0, _), (1, _), (2, _), (3, _), (4, _), (5, _), (6, _)]) E dX8_countsRow_61 (by decide) rfl ?_
              generalize hP : zfc (zW8 M) zdl ((zr a).take i1) = P at hq3
              generalize hX : (zr a).getD i1 0 = x at hd6 htk
              have hgoal : zfc (zW8 M) zdl ((zr a).take (i1 + 1)) = zcx P (zW8 M x) := by rw [htk, zfc_app, hP]
              have key2 : ∀ (j2 i2 : Nat) (M4 : zz_M), i2 + j2 = n + 1 → zfr [106, 107] M M4 → (∀ t, t < i2 → M4 106 t = 0 ∧ M4 107 t = P t) → (∀ t, i2 ≤ t → t ≤ n → M4 106 t = P t) → zz_Z p l e (headSpec wsX8_countsRow ({ frames := 2, cells := 0, slots := 0, locals := 47 } : Room)).room s m ([.ref (G.2.2 100), .int (nI a), .int (nI n)] : List Value).toArray below meth c 0 0 (MQ below (zz_Qv G (fun M1 => zfr [106, 107] M M1 ∧ ∀ t, t ≤ n → M1 106 t = zfc (zW8 M) zdl (zr a) t)) ([.ref (G.2.2 100), .int (nI a), .int (nI n)] : List Value).toArray s 0 0 (zz_A G)) 8 G (zz_A G) M4 63 [(0, .ref (G.2.2 100)), (1, .int (nI a)), (2, .int (nI n)), (3, .int (nI (zd a).length)), (4, .int (nI i1)), (5, .int (nI x)), (6, .int (nI i2))] [] := by
                intro j2
                induction j2 with
                | zero =>
                  intro i2 M4 hi2 hf4 q1 q2
                  refine zz_iload (pc := 63) E dX8_countsRow_63 rfl ?_
                  refine zz_iload_n (pc := 65) E dX8_countsRow_65 rfl ?_
                  refine zn_icmp_gt (pc := 66) (tgt := 97) E dX8_countsRow_66 (by decide) (by omega) (by omega) (fun h66 => ?_) (fun h66 => ?_)
                  · refine zz_iconst (pc := 97) (v := nI 0) E dX8_countsRow_97 (by decide) ?_
                    refine zz_istore (pc := 98) (lv' := [(0, _), (1, _), (2, _), (3, _), (4, _), (5, _), (6, _)]) E dX8_countsRow_98 (by decide) rfl ?_
                    have hWx : ∀ (M5 : zz_M), zfr [106, 107] M M5 → ∀ q, M5 105 (13 * x + q) = zW8 M x q := fun M5 hf5 q => by rw [hf5 105 (by decide)]; rfl
                    have key3 : ∀ (j3 i3 : Nat) (M5 : zz_M), i3 + j3 = n + 1 → zfr [106, 107] M M5 → (∀ t, t ≤ n → M5 107 t = P t) → (∀ t, t ≤ n → M5 106 t = zck P (zW8 M x) t i3) → zz_Z p l e (headSpec wsX8_countsRow ({ frames := 2, cells := 0, slots := 0, locals := 47 } : Room)).room s m ([.ref (G.2.2 100), .int (nI a), .int (nI n)] : List Value).toArray below meth c 0 0 (MQ below (zz_Qv G (fun M1 => zfr [106, 107] M M1 ∧ ∀ t, t ≤ n → M1 106 t = zfc (zW8 M) zdl (zr a) t)) ([.ref (G.2.2 100), .int (nI a), .int (nI n)] : List Value).toArray s 0 0 (zz_A G)) 8 G (zz_A G) M5 100 [(0, .ref (G.2.2 100)), (1, .int (nI a)), (2, .int (nI n)), (3, .int (nI (zd a).length)), (4, .int (nI i1)), (5, .int (nI x)), (6, .int (nI i3))] [] := by
                      intro j3
                      induction j3 with
                      | zero =>
                        intro i3 M5 hi3 hf5 q5 q6
                        refine zz_iload (pc := 100) E dX8_countsRow_100 rfl ?_
                        refine zz_iload_n (pc := 102) E dX8_countsRow_102 rfl ?_
                        refine zn_icmp_gt (pc := 103) (tgt := 164) E dX8_countsRow_103 (by decide) (by omega) (by omega) (fun h103 => ?_) (fun h103 => ?_)
                        · refine zn_inc (pc := 164) (lv' := [(0, _), (1, _), (2, _), (3, _), (4, _), (5, _), (6, _)]) E dX8_countsRow_164 rfl (by decide) rfl ?_
                          refine zz_goto (pc := 167) (tgt := 44) E dX8_countsRow_167 (by decide) ?_
                          exact zz_to (ih1 (i1 + 1) M5 (by omega) hf5 (fun t ht => by rw [hgoal, q6 t ht, zck_all (by omega)])) ⟨rfl, rfl, rfl, rfl, rfl, trivial⟩
                        · exact absurd h103 (by omega)
                      | succ j3 ih3 =>
                        intro i3 M5 hi3 hf5 q5 q6
                        refine zz_iload (pc := 100) E dX8_countsRow_100 rfl ?_
                        refine zz_iload_n (pc := 102) E dX8_countsRow_102 rfl ?_
                        refine zn_icmp_gt (pc := 103) (tgt := 164) E dX8_countsRow_103 (by decide) (by omega) (by omega) (fun h103 => ?_) (fun h103 => ?_)
                        · exact absurd h103 (by omega)
                        · refine zz_iconst (pc := 106) (v := nI 0) E dX8_countsRow_106 (by decide) ?_
                          refine zz_istore (pc := 107) (lv' := [(0, _), (1, _), (2, _), (3, _), (4, _), (5, _), (6, _), (7, _)]) E dX8_countsRow_107 (by decide) rfl ?_
                          have key4 : ∀ (j4 i4 : Nat) (M6 : zz_M), i4 + i3 + j4 = n + 1 → zfr [106, 107] M M6 → (∀ t, t ≤ n → M6 107 t = P t) → (∀ t, t ≤ n → M6 106 t = if t < i4 + i3 then zck P (zW8 M x) t (i3 + 1) else zck P (zW8 M x) t i3) → zz_Z p l e (headSpec wsX8_countsRow ({ frames := 2, cells := 0, slots := 0, locals := 47 } : Room)).room s m ([.ref (G.2.2 100), .int (nI a), .int (nI n)] : List Value).toArray below meth c 0 0 (MQ below (zz_Qv G (fun M1 => zfr [106, 107] M M1 ∧ ∀ t, t ≤ n → M1 106 t = zfc (zW8 M) zdl (zr a) t)) ([.ref (G.2.2 100), .int (nI a), .int (nI n)] : List Value).toArray s 0 0 (zz_A G)) 8 G (zz_A G) M6 109 [(0, .ref (G.2.2 100)), (1, .int (nI a)), (2, .int (nI n)), (3, .int (nI (zd a).length)), (4, .int (nI i1)), (5, .int (nI x)), (6, .int (nI i3)), (7, .int (nI i4))] [] := by
                            intro j4
                            induction j4 with
                            | zero =>
                              intro i4 M6 hi4 hf6 q7 q8
                              refine zz_iload (pc := 109) E dX8_countsRow_109 rfl ?_
                              refine zz_iload (pc := 111) E dX8_countsRow_111 rfl ?_
                              refine zn_iadd (pc := 113) E dX8_countsRow_113 ?_
                              refine zz_iload_n (pc := 114) E dX8_countsRow_114 rfl ?_
                              refine zn_icmp_gt (pc := 115) (tgt := 158) E dX8_countsRow_115 (by decide) (by omega) (by omega) (fun h115 => ?_) (fun h115 => ?_)
                              · refine zn_inc (pc := 158) (lv' := [(0, _), (1, _), (2, _), (3, _), (4, _), (5, _), (6, _), (7, _)]) E dX8_countsRow_158 rfl (by decide) rfl ?_
                                refine zz_goto (pc := 161) (tgt := 100) E dX8_countsRow_161 (by decide) ?_
                                exact zz_to (ih3 (i3 + 1) M6 (by omega) hf6 q7 (fun t ht => by rw [q8 t ht, if_pos (by omega)])) ⟨rfl, rfl, rfl, rfl, rfl, rfl, rfl, trivial⟩
                              · exact absurd h115 (by omega)
                            | succ j4 ih4 =>
                              intro i4 M6 hi4 hf6 q7 q8
                              refine zz_iload (pc := 109) E dX8_countsRow_109 rfl ?_
                              refine zz_iload (pc := 111) E dX8_countsRow_111 rfl ?_
                              refine zn_iadd (pc := 113) E dX8_countsRow_113 ?_
                              refine zz_iload_n (pc := 114) E dX8_countsRow_114 rfl ?_
                              refine zn_icmp_gt (pc := 115) (tgt := 158) E dX8_countsRow_115 (by decide) (by omega) (by omega) (fun h115 => ?_) (fun h115 => ?_)
                              · exact absurd h115 (by omega)
                              · refine zz_aload_n (pc := 118) E dX8_countsRow_118 rfl ?_
                                refine zz_gf (pc := 119) E 100 (by decide) rfl rfl inX8_countsRow_X8 7 (by decide) lkX8_countsRow_25 (fun _ h => h) rfl dX8_countsRow_119 ?_
                                refine zz_iload (pc := 122) E dX8_countsRow_122 rfl ?_
                                refine zz_iload (pc := 124) E dX8_countsRow_124 rfl ?_
                                refine zn_iadd (pc := 126) E dX8_countsRow_126 ?_
                                refine zz_dup2 (pc := 127) E dX8_countsRow_127 rfl rfl ?_
                                refine zz_iald (pc := 128) E 106 (i4 + i3) (n := 13) (by decide) rfl rfl (by omega) (by decide) dX8_countsRow_128 ?_
                                refine zz_aload_n (pc := 129) E dX8_countsRow_129 rfl ?_
                                refine zz_gf (pc := 130) E 100 (by decide) rfl rfl inX8_countsRow_X8 8 (by decide) lkX8_countsRow_28 (fun _ h => h) rfl dX8_countsRow_130 ?_
                                refine zz_iload (pc := 133) E dX8_countsRow_133 rfl ?_
                                refine zz_iald (pc := 135) E 107 (_) (n := 13) (by decide) rfl rfl (by omega) (by decide) dX8_countsRow_135 ?_
                                refine zz_aload_n (pc := 136) E dX8_countsRow_136 rfl ?_
                                refine zz_gf (pc := 137) E 100 (by decide) rfl rfl inX8_countsRow_X8 6 (by decide) lkX8_countsRow_22 (fun _ h => h) rfl dX8_countsRow_137 ?_
                                refine zz_bipush (pc := 140) (v := nI 13) E dX8_countsRow_140 (by decide) ?_
                                refine zz_iload (pc := 142) E dX8_countsRow_142 rfl ?_
                                refine zn_imul (pc := 144) E dX8_countsRow_144 ?_
                                refine zz_iload (pc := 145) E dX8_countsRow_145 rfl ?_
                                refine zn_iadd (pc := 147) E dX8_countsRow_147 ?_
                                refine zz_iald (pc := 148) E 105 (13 * x + i4) (n := 78) (by decide) rfl rfl (by omega) (by decide) dX8_countsRow_148 ?_
                                refine zz_imul (pc := 149) E dX8_countsRow_149 ?_
                                refine zz_iadd (pc := 150) E dX8_countsRow_150 ?_
                                refine zz_iast (pc := 151) E 106 (i4 + i3) (n := 13) (by decide) (fun _ => rfl) rfl (by omega) (by decide) dX8_countsRow_151 ?_
                                refine zn_inc (pc := 152) (lv' := [(0, _), (1, _), (2, _), (3, _), (4, _), (5, _), (6, _), (7, _)]) E dX8_countsRow_152 rfl (by decide) rfl ?_
                                refine zz_goto (pc := 155) (tgt := 109) E dX8_countsRow_155 (by decide) ?_
                                exact zz_to (ih4 (i4 + 1) _ (by omega) (zfr_up hf6 (by simp)) (fun t ht => by rw [zz_up_ne _ _ (by decide)]; exact q7 t ht) (fun t ht => by rw [zz_up_same]; by_cases e : t = i4 + i3; rw [e, upd_same, if_pos (by omega), zck_lo (by omega), q8 _ (by omega), if_neg (by omega), q7 i3 (by omega), hWx _ hf6, show i4 + i3 - i3 = i4 by omega]; rw [upd_ne _ _ e, q8 t ht]; by_cases e2 : t < i4 + i3; rw [if_pos e2, if_pos (by omega)]; rw [if_neg e2, if_neg (by omega)])) ⟨rfl, rfl, rfl, rfl, rfl, rfl, rfl, rfl, trivial⟩
                          exact zz_to (key4 (n + 1 - i3) 0 M5 (by omega) hf5 q5 (fun t ht => by rw [q6 t ht]; by_cases e : t < 0 + i3; rw [if_pos e, zck_hi (by omega)]; rw [if_neg e])) ⟨rfl, rfl, rfl, rfl, rfl, rfl, rfl, rfl, trivial⟩
                    exact zz_to (key3 (n + 1) 0 M4 (by omega) hf4 (fun t ht => (q1 t (by omega)).2) (fun t ht => (q1 t (by omega)).1)) ⟨rfl, rfl, rfl, rfl, rfl, rfl, rfl, trivial⟩
                  · exact absurd h66 (by omega)
                | succ j2 ih2 =>
                  intro i2 M4 hi2 hf4 q1 q2
                  refine zz_iload (pc := 63) E dX8_countsRow_63 rfl ?_
                  refine zz_iload_n (pc := 65) E dX8_countsRow_65 rfl ?_
                  refine zn_icmp_gt (pc := 66) (tgt := 97) E dX8_countsRow_66 (by decide) (by omega) (by omega) (fun h66 => ?_) (fun h66 => ?_)
                  · exact absurd h66 (by omega)
                  · refine zz_aload_n (pc := 69) E dX8_countsRow_69 rfl ?_
                    refine zz_gf (pc := 70) E 100 (by decide) rfl rfl inX8_countsRow_X8 8 (by decide) lkX8_countsRow_28 (fun _ h => h) rfl dX8_countsRow_70 ?_
                    refine zz_iload (pc := 73) E dX8_countsRow_73 rfl ?_
                    refine zz_aload_n (pc := 75) E dX8_countsRow_75 rfl ?_
                    refine zz_gf (pc := 76) E 100 (by decide) rfl rfl inX8_countsRow_X8 7 (by decide) lkX8_countsRow_25 (fun _ h => h) rfl dX8_countsRow_76 ?_
                    refine zz_iload (pc := 79) E dX8_countsRow_79 rfl ?_
                    refine zz_iald (pc := 81) E 106 (_) (n := 13) (by decide) rfl rfl (by omega) (by decide) dX8_countsRow_81 ?_
                    refine zz_iast (pc := 82) E 107 (_) (n := 13) (by decide) (fun _ => rfl) rfl (by omega) (by decide) dX8_countsRow_82 ?_
                    refine zz_aload_n (pc := 83) E dX8_countsRow_83 rfl ?_
                    refine zz_gf (pc := 84) E 100 (by decide) rfl rfl inX8_countsRow_X8 7 (by decide) lkX8_countsRow_25 (fun _ h => h) rfl dX8_countsRow_84 ?_
                    refine zz_iload (pc := 87) E dX8_countsRow_87 rfl ?_
                    refine zz_iconst (pc := 89) (v := nI 0) E dX8_countsRow_89 (by decide) ?_
                    refine zz_iast (pc := 90) E 106 (_) (n := 13) (by decide) (fun _ => rfl) rfl (by omega) (by decide) dX8_countsRow_90 ?_
                    refine zn_inc (pc := 91) (lv' := [(0, _), (1, _), (2, _), (3, _), (4, _), (5, _), (6, _)]) E dX8_countsRow_91 rfl (by decide) rfl ?_
                    refine zz_goto (pc := 94) (tgt := 63) E dX8_countsRow_94 (by decide) ?_
                    exact zz_to (ih2 (i2 + 1) _ (by omega) (zfr_up (zfr_up hf4 (by simp)) (by simp)) (fun t ht => by by_cases e : t = i2; rw [e, zz_up_same, upd_same, zz_up_ne _ _ (by decide), zz_up_same, upd_same]; exact ⟨rfl, q2 i2 (by omega) (by omega)⟩; rw [zz_up_same, zz_up_ne _ _ (show 106 ≠ 107 by decide), upd_ne _ _ e, zz_up_ne _ _ (show 107 ≠ 106 by decide), zz_up_same, upd_ne _ _ e]; exact q1 t (by omega)) (fun t q3 q4 => by rw [zz_up_same, zz_up_ne _ _ (show 106 ≠ 107 by decide), upd_ne _ _ (by omega)]; exact q2 t (by omega) q4)) ⟨rfl, rfl, rfl, rfl, rfl, rfl, rfl, trivial⟩
              exact zz_to (key2 (n + 1) 0 M3 (by omega) hf3 (fun t ht => absurd ht (by omega)) (fun t _ ht => hq3 t ht)) ⟨rfl, rfl, rfl, rfl, rfl, rfl, rfl, trivial⟩
        exact zz_to (key1 _ 0 M2 (Nat.zero_add _) hf (fun t ht => hq t (by omega))) ⟨rfl, rfl, rfl, rfl, rfl, trivial⟩
      · exact absurd h15 (by omega)
    | succ j ih =>
      intro i M2 hi hf hq
      refine zz_iload (pc := 11) E dX8_countsRow_11 rfl ?_
      refine zz_bipush (pc := 13) (v := nI 12) E dX8_countsRow_13 (by decide) ?_
      refine zn_icmp_gt (pc := 15) (tgt := 41) E dX8_countsRow_15 (by decide) (by omega) (by omega) (fun h15 => ?_) (fun h15 => ?_)
      · exact absurd h15 (by omega)
      · refine zz_aload_n (pc := 18) E dX8_countsRow_18 rfl ?_
        refine zz_gf (pc := 19) E 100 (by decide) rfl rfl inX8_countsRow_X8 7 (by decide) lkX8_countsRow_25 (fun _ h => h) rfl dX8_countsRow_19 ?_
        refine zz_iload (pc := 22) E dX8_countsRow_22 rfl ?_
        refine zz_iload (pc := 24) E dX8_countsRow_24 rfl ?_
        refine zn_if_ne (pc := 26) (tgt := 33) E dX8_countsRow_26 (by decide) (by omega) (fun h26 => ?_) (fun h26 => ?_)
        · refine zz_iconst (pc := 33) (v := nI 0) E dX8_countsRow_33 (by decide) ?_
          refine zz_iast (pc := 34) E 106 (_) (n := 13) (by decide) (fun _ => rfl) rfl (by omega) (by decide) dX8_countsRow_34 ?_
          refine zn_inc (pc := 35) (lv' := [(0, _), (1, _), (2, _), (3, _), (4, _)]) E dX8_countsRow_35 rfl (by decide) rfl ?_
          refine zz_goto (pc := 38) (tgt := 11) E dX8_countsRow_38 (by decide) ?_
          exact zz_to (ih (i + 1) _ (by omega) (zfr_up hf (by simp)) (fun s hs => by rw [zz_up_same]; by_cases e : s = i; rw [e, upd_same]; (unfold zdl; first | (rw [if_pos h26]; rfl) | (rw [if_neg h26]; rfl)); rw [upd_ne _ _ e]; exact hq s (by omega))) ⟨rfl, rfl, rfl, rfl, rfl, trivial⟩
        · refine zz_iconst (pc := 29) (v := nI 1) E dX8_countsRow_29 (by decide) ?_
          refine zz_goto (pc := 30) (tgt := 34) E dX8_countsRow_30 (by decide) ?_
          refine zz_iast (pc := 34) E 106 (_) (n := 13) (by decide) (fun _ => rfl) rfl (by omega) (by decide) dX8_countsRow_34 ?_
          refine zn_inc (pc := 35) (lv' := [(0, _), (1, _), (2, _), (3, _), (4, _)]) E dX8_countsRow_35 rfl (by decide) rfl ?_
          refine zz_goto (pc := 38) (tgt := 11) E dX8_countsRow_38 (by decide) ?_
          exact zz_to (ih (i + 1) _ (by omega) (zfr_up hf (by simp)) (fun s hs => by rw [zz_up_same]; by_cases e : s = i; rw [e, upd_same]; (unfold zdl; first | (rw [if_pos h26]; rfl) | (rw [if_neg h26]; rfl)); rw [upd_ne _ _ e]; exact hq s (by omega))) ⟨rfl, rfl, rfl, rfl, rfl, trivial⟩
  exact zz_to (key0 13 0 M (by omega) (zfr_rf _ _) (fun s hs => absurd hs (by omega))) ⟨rfl, rfl, rfl, rfl, rfl, trivial⟩
