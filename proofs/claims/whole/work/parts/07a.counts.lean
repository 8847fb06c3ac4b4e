/-! words counted -/
def zsm (f : Nat → Int32) : Nat → Int32
  | 0 => 0
  | n + 1 => zsm f n + f n
theorem zsm_congr {f g : Nat → Int32} : ∀ {n : Nat}, (∀ i, i < n → f i = g i) → zsm f n = zsm g n
  | 0, _ => rfl
  | n + 1, h => by rw [zsm, zsm, zsm_congr (fun i hi => h i (by omega)), h n (by omega)]
/-- j less one -/
def zpm (j : Nat) : Int32 := match j with
  | 0 => -1
  | j + 1 => nI j
theorem zpm_dec : ∀ j : Nat, nI j + Int32.ofInt (-1) = zpm j
  | 0 => by decide
  | j + 1 => by rw [show Int32.ofInt (-1) = -1 by decide, ← Int32.sub_eq_add_neg]; exact nI_pred j
theorem zpm_sub : ∀ j : Nat, nI j - nI 1 = zpm j
  | 0 => by decide
  | j + 1 => nI_pred j
def zcv (f g : Nat → Int32) (m : Nat) : Int32 := zsm (fun i => f (i + 1) * g (m - (i + 1))) m
def zrc (W : Nat → Nat → Int32) : List Nat → Nat → Int32
  | [], m => if m = 0 then 1 else 0
  | x :: t, m => zcv (W x) (zrc W t) m
def zrc1 (W : Nat → Nat → Int32) (L : List Nat) (m : Nat) : Int32 := match m with
  | 0 => 0
  | m + 1 => zrc W L m
def zbr (S : Nat → Option Nat) (W : Nat → Nat → Int32) (s m : Nat) : Nat → Int32
  | 0 => 0
  | l + 1 => match S (3 * s + l) with
    | none => zbr S W s m l
    | some r => zbr S W s m l + zrc1 W (zr r) m
theorem zrc_congr {W W2 : Nat → Nat → Int32} : ∀ {L : List Nat} {m : Nat}, (∀ x ∈ L, ∀ i, i ≤ m → W x i = W2 x i) → zrc W L m = zrc W2 L m
  | [], m, _ => rfl
  | x :: t, m, h => by
    rw [zrc, zrc]
    unfold zcv
    refine zsm_congr (fun i hi => ?_)
    rw [h x List.mem_cons_self (i + 1) (by omega), zrc_congr (L := t) (m := m - (i + 1)) (fun y hy k hk => h y (List.mem_cons_of_mem _ hy) k (by omega))]
theorem zbr_congr {S : Nat → Option Nat} {W W2 : Nat → Nat → Int32} {s m : Nat} (hV : zV S) (hs : s < 6) (h : ∀ x, x < 6 → ∀ i, i < m → W x i = W2 x i) : ∀ l, l ≤ 3 → zbr S W s m l = zbr S W2 s m l
  | 0, _ => rfl
  | l + 1, hl => by
    rw [zbr, zbr, zbr_congr hV hs h l (by omega)]
    cases hr : S (3 * s + l) with
    | none => rfl
    | some r =>
      have hz := hV.1 _ (by omega) r hr
      show _ + zrc1 W (zr r) m = _ + zrc1 W2 (zr r) m
      congr 1
      cases m with
      | zero => rfl
      | succ m => exact zrc_congr (fun x hx i hi => h x (zr_lt hz x hx) i (by omega))
/-- the counts of all signs, up to so many letters -/
def zcw (S : Nat → Option Nat) : Nat → Nat → Nat → Int32
  | 0 => fun _ _ => 0
  | m + 1 => fun x i => if i = m then zbr S (zcw S m) x m 3 else zcw S m x i
theorem zcw_lt {S : Nat → Option Nat} {m x i : Nat} (h : i ≠ m) : zcw S (m + 1) x i = zcw S m x i := by
  rw [zcw]; exact if_neg h
theorem zcw_at {S : Nat → Option Nat} {m x : Nat} : zcw S (m + 1) x m = zbr S (zcw S m) x m 3 := by
  rw [zcw]; exact if_pos rfl
theorem zz_Cx : ∀ {x : Nat}, x < 6 → ∀ (G : zz_C) (f : Nat → Int32), zz_F G (16 + x) f = .inl (G.2.1 0, 13, .inl f)
  | 0, _ => fun _ _ => rfl
  | 1, _ => fun _ _ => rfl
  | 2, _ => fun _ _ => rfl
  | 3, _ => fun _ _ => rfl
  | 4, _ => fun _ _ => rfl
  | 5, _ => fun _ _ => rfl
  | n + 6, h => absurd h (by omega)
def zW (M : zz_M) : Nat → Nat → Int32 := fun x i => M (16 + x) i
theorem zrc1_fr {M M2 : zz_M} {L : List Nat} {mm : Nat} (hf : zfr [15] M M2) (h6 : ∀ x ∈ L, x < 6) : zrc1 (zW M2) L mm = zrc1 (zW M) L mm := by
  cases mm with
  | zero => rfl
  | succ n => exact zrc_congr (fun x hx i _ => by show M2 (16 + x) i = M (16 + x) i; rw [hf (16 + x) (by simp; omega)])

theorem inX0_addSign_X0 : ∀ w ∈ u_ws RX0 TX0 2, w ∈ wsX0_addSign := by decide +kernel
theorem lkX0_addSign_16 : Cond.fieldLink RX0 16 RX0 "ofPart" "[I" ∈ wsX0_addSign := by decide +kernel
theorem niX0_addSign_X7_isSign : Cond.initialized RX7 ∈ wsX0_addSign := by decide +kernel
theorem nsX0_addSign_X7_isSign : Cond.static yX7_isSign ∈ wsX0_addSign := by decide +kernel
theorem lkX0_addSign_11 : Cond.fieldLink RX0 11 RX0 "ofSign" "[[I" ∈ wsX0_addSign := by decide +kernel
set_option maxHeartbeats 4000000 in
set_option maxRecDepth 100000 in
theorem kkX0_addSign (l : Launch) (G : zz_C) (hJ : zz_J G) (M : zz_M) (x n : Nat) (hx : x < 6) (hn : n ≤ 12) : Met l yX0_addSign wsX0_addSign ({ frames := 1, cells := 0, slots := 0, locals := 20 } : Room) (zz_P G M [.ref (G.2.2 13), .int (nI x), .int (nI n)]) (zz_Qv G (fun M1 => zfr [15] M M1 ∧ ∀ m, m ≤ n → M1 15 m = zcv (M (16 + x)) (M 15) m)) 0 0 (zz_A G) := by
  refine zz_start hJ (by decide) rfl (Nat.le_of_ble_eq_true rfl) ?_
  intro p e s m below meth c E hr hlk
  have hts := E.2.2.2.2.1
  show zz_Z p l e (headSpec wsX0_addSign ({ frames := 1, cells := 0, slots := 0, locals := 20 } : Room)).room s m ([.ref (G.2.2 13), .int (nI x), .int (nI n)] : List Value).toArray below meth c 0 0 (MQ below (zz_Qv G (fun M1 => zfr [15] M M1 ∧ ∀ m, m ≤ n → M1 15 m = zcv (M (16 + x)) (M 15) m)) ([.ref (G.2.2 13), .int (nI x), .int (nI n)] : List Value).toArray s 0 0 (zz_A G)) 6 G (zz_A G) M 0 [(0, .ref (G.2.2 13)), (1, .int (nI x)), (2, .int (nI n))] []
  refine zz_iload_n (pc := 0) E dX0_addSign_0 rfl ?_
  refine zz_istore_n (pc := 1) (lv' := [(0, _), (1, _), (2, _), (3, _)]) E dX0_addSign_1 (by decide) rfl ?_
  have key : ∀ (j : Nat) (M2 : zz_M), j ≤ n + 1 → zfr [15] M M2 → (∀ m, j ≤ m → m ≤ n → M2 15 m = zcv (M (16 + x)) (M 15) m) → (∀ m, m < j → M2 15 m = M 15 m) → zz_Z p l e (headSpec wsX0_addSign ({ frames := 1, cells := 0, slots := 0, locals := 20 } : Room)).room s m ([.ref (G.2.2 13), .int (nI x), .int (nI n)] : List Value).toArray below meth c 0 0 (MQ below (zz_Qv G (fun M1 => zfr [15] M M1 ∧ ∀ m, m ≤ n → M1 15 m = zcv (M (16 + x)) (M 15) m)) ([.ref (G.2.2 13), .int (nI x), .int (nI n)] : List Value).toArray s 0 0 (zz_A G)) 6 G (zz_A G) M2 2 [(0, .ref (G.2.2 13)), (1, .int (nI x)), (2, .int (nI n)), (3, .int (zpm j))] [] := by
    intro j
    induction j with
    | zero =>
      intro M2 hj hf h1 h2
      refine zz_iload_n (pc := 2) E dX0_addSign_2 rfl ?_
      refine zz_if_lt (pc := 3) (tgt := 69) E dX0_addSign_3 (by decide) (fun h3 => ?_) (fun h3 => ?_)
      · exact zz_vret (pc := 69) E hr hlk dX0_addSign_69 ⟨hf, fun m hm => h1 m (Nat.zero_le _) hm⟩
      · exact absurd (by decide) h3
    | succ j ih =>
      intro M2 hj hf h1 h2
      show zz_Z p l e (headSpec wsX0_addSign ({ frames := 1, cells := 0, slots := 0, locals := 20 } : Room)).room s m ([.ref (G.2.2 13), .int (nI x), .int (nI n)] : List Value).toArray below meth c 0 0 (MQ below (zz_Qv G (fun M1 => zfr [15] M M1 ∧ ∀ m, m ≤ n → M1 15 m = zcv (M (16 + x)) (M 15) m)) ([.ref (G.2.2 13), .int (nI x), .int (nI n)] : List Value).toArray s 0 0 (zz_A G)) 6 G (zz_A G) M2 2 [(0, .ref (G.2.2 13)), (1, .int (nI x)), (2, .int (nI n)), (3, .int (nI j))] []
      refine zz_iload_n (pc := 2) E dX0_addSign_2 rfl ?_
      refine zn_if_lt (pc := 3) (tgt := 69) E dX0_addSign_3 (by decide) (by omega) (fun h3 => ?_) (fun h3 => ?_)
      · exact absurd h3 (by omega)
      · refine zz_iconst (pc := 6) (v := nI 0) E dX0_addSign_6 (by decide) ?_
        refine zz_istore (pc := 7) (lv' := [(0, _), (1, _), (2, _), (3, _), (4, _)]) E dX0_addSign_7 (by decide) rfl ?_
        refine zz_iconst (pc := 9) (v := nI 1) E dX0_addSign_9 (by decide) ?_
        refine zz_istore (pc := 10) (lv' := [(0, _), (1, _), (2, _), (3, _), (4, _), (5, _)]) E dX0_addSign_10 (by decide) rfl ?_
        have key2 : ∀ (j2 i2 : Nat), i2 + j2 = j → zz_Z p l e (headSpec wsX0_addSign ({ frames := 1, cells := 0, slots := 0, locals := 20 } : Room)).room s m ([.ref (G.2.2 13), .int (nI x), .int (nI n)] : List Value).toArray below meth c 0 0 (MQ below (zz_Qv G (fun M1 => zfr [15] M M1 ∧ ∀ m, m ≤ n → M1 15 m = zcv (M (16 + x)) (M 15) m)) ([.ref (G.2.2 13), .int (nI x), .int (nI n)] : List Value).toArray s 0 0 (zz_A G)) 6 G (zz_A G) M2 12 [(0, .ref (G.2.2 13)), (1, .int (nI x)), (2, .int (nI n)), (3, .int (nI j)), (4, .int (zsm (fun i => M (16 + x) (i + 1) * M 15 (j - (i + 1))) i2)), (5, .int (nI (i2 + 1)))] [] := by
          intro j2
          induction j2 with
          | zero =>
            intro i2 hi2
            refine zz_iload (pc := 12) E dX0_addSign_12 rfl ?_
            refine zz_iload_n (pc := 14) E dX0_addSign_14 rfl ?_
            refine zn_icmp_gt (pc := 15) (tgt := 55) E dX0_addSign_15 (by decide) (by omega) (by omega) (fun h15 => ?_) (fun h15 => ?_)
            · refine zz_aload_n (pc := 55) E dX0_addSign_55 rfl ?_
              refine zz_gf (pc := 56) E 13 (by decide) rfl rfl inX0_addSign_X0 1 (by decide) lkX0_addSign_16 (fun _ h => h) rfl dX0_addSign_56 ?_
              refine zz_iload_n (pc := 59) E dX0_addSign_59 rfl ?_
              refine zz_iload (pc := 60) E dX0_addSign_60 rfl ?_
              refine zz_iast (pc := 62) E 15 (_) (n := 13) (by decide) (fun _ => rfl) rfl (by omega) (by decide) dX0_addSign_62 ?_
              refine zz_iinc (pc := 63) (v := zpm j) (lv' := [(0, _), (1, _), (2, _), (3, _), (4, _), (5, _)]) E dX0_addSign_63 rfl (zpm_dec j) (by decide) rfl ?_
              refine zz_goto (pc := 66) (tgt := 2) E dX0_addSign_66 (by decide) ?_
              exact zz_to (ih _ (by omega) (zfr_up hf (by simp)) (fun m q1 q2 => by rw [zz_up_same]; by_cases e : m = j; rw [e, upd_same]; unfold zcv; rw [show i2 = j by omega]; rw [upd_ne _ _ e]; exact h1 m (by omega) q2) (fun m q => by rw [zz_up_same, upd_ne _ _ (by omega)]; exact h2 m (by omega))) ⟨rfl, rfl, rfl, rfl, trivial⟩
            · exact absurd h15 (by omega)
          | succ j2 ih2 =>
            intro i2 hi2
            have e16 : M2 (16 + x) = M (16 + x) := hf _ (by simp; omega)
            refine zz_iload (pc := 12) E dX0_addSign_12 rfl ?_
            refine zz_iload_n (pc := 14) E dX0_addSign_14 rfl ?_
            refine zn_icmp_gt (pc := 15) (tgt := 55) E dX0_addSign_15 (by decide) (by omega) (by omega) (fun h15 => ?_) (fun h15 => ?_)
            · exact absurd h15 (by omega)
            · refine zz_iload_n (pc := 18) E dX0_addSign_18 rfl ?_
              refine zz_ciN (pc := 19) E (kkX7_isSign l G hJ _ _ ) ⟨va_cnB 1 hts gX0_addSign_X7_isSign_n43 rfl rfl rfl E.2.2.2.2.2.2.1.2.1 (hts _ niX0_addSign_X7_isSign) (by decide +kernel) ⟨Nat.le_of_ble_eq_true rfl, Nat.le_of_ble_eq_true rfl⟩, hts _ nsX0_addSign_X7_isSign, trivial⟩ rfl rfl (Nat.le_of_ble_eq_true rfl) dX0_addSign_19 (fun r19 M19 q19 => ?_)
              obtain ⟨rfl, rfl⟩ := q19
              refine zb_if_eq (pc := 22) (tgt := 55) E dX0_addSign_22 (by decide) (fun h22 => ?_) (fun h22 => ?_)
              · rw [zp_in_nI (by omega), decide_eq_true hx] at h22
                cases h22
              · refine zz_iload (pc := 25) E dX0_addSign_25 rfl ?_
                refine zz_aload_n (pc := 27) E dX0_addSign_27 rfl ?_
                refine zz_gf (pc := 28) E 13 (by decide) rfl rfl inX0_addSign_X0 0 (by decide) lkX0_addSign_11 (fun _ h => h) rfl dX0_addSign_28 ?_
                refine zz_iload_n (pc := 31) E dX0_addSign_31 rfl ?_
                refine zz_aald (pc := 32) E 14 (x) (n := 6) (t0 := 3) (f := fun i => G.2.2 (16 + i)) (by decide) rfl rfl rfl rfl hx (by decide) dX0_addSign_32 ?_
                refine zz_iload (pc := 33) E dX0_addSign_33 rfl ?_
                refine zz_iald (pc := 35) E (16 + x) (_) (n := 13) (by omega) (zz_Cx hx G _) rfl (by omega) (by decide) dX0_addSign_35 ?_
                refine zz_aload_n (pc := 36) E dX0_addSign_36 rfl ?_
                refine zz_gf (pc := 37) E 13 (by decide) rfl rfl inX0_addSign_X0 1 (by decide) lkX0_addSign_16 (fun _ h => h) rfl dX0_addSign_37 ?_
                refine zz_iload_n (pc := 40) E dX0_addSign_40 rfl ?_
                refine zz_iload (pc := 41) E dX0_addSign_41 rfl ?_
                refine zn_isub (pc := 43) E dX0_addSign_43 (by omega) ?_
                refine zz_iald (pc := 44) E 15 (_) (n := 13) (by decide) rfl rfl (by omega) (by decide) dX0_addSign_44 ?_
                refine zz_imul (pc := 45) E dX0_addSign_45 ?_
                refine zz_iadd (pc := 46) E dX0_addSign_46 ?_
                refine zz_istore (pc := 47) (lv' := [(0, _), (1, _), (2, _), (3, _), (4, _), (5, _)]) E dX0_addSign_47 (by decide) rfl ?_
                refine zn_inc (pc := 49) (lv' := [(0, _), (1, _), (2, _), (3, _), (4, _), (5, _)]) E dX0_addSign_49 rfl (by decide) rfl ?_
                refine zz_goto (pc := 52) (tgt := 12) E dX0_addSign_52 (by decide) ?_
                exact zz_to (ih2 (i2 + 1) (by omega)) ⟨rfl, rfl, rfl, rfl, by rw [zsm, ← e16, ← h2 _ (show j - (i2 + 1) < j + 1 by omega)]; rfl, rfl, trivial⟩
        exact zz_to (key2 j 0 (by omega)) ⟨rfl, rfl, rfl, rfl, rfl, rfl, trivial⟩
  exact zz_to (key (n + 1) M (by omega) (zfr_rf _ _) (fun m h1 h2 => absurd h1 (by omega)) (fun m _ => rfl)) ⟨rfl, rfl, rfl, rfl, trivial⟩

theorem inX0_ofRow_X0 : ∀ w ∈ u_ws RX0 TX0 2, w ∈ wsX0_ofRow := by decide +kernel
theorem lkX0_ofRow_16 : Cond.fieldLink RX0 16 RX0 "ofPart" "[I" ∈ wsX0_ofRow := by decide +kernel
set_option maxHeartbeats 4000000 in
set_option maxRecDepth 100000 in
theorem kkX0_ofRow (l : Launch) (G : zz_C) (hJ : zz_J G) (M : zz_M) (a mo mm : Nat) (hz : zok a 6 mo = true) (hmo : mo < 10) (hm : mm ≤ 13) : Met l yX0_ofRow wsX0_ofRow ({ frames := 2, cells := 0, slots := 0, locals := 45 } : Room) (zz_P G M [.ref (G.2.2 13), .int (nI a), .int (zpm mm)]) (zz_Qi G (fun r M1 => zfr [15] M M1 ∧ r = zrc1 (zW M) (zr a) mm)) 0 0 (zz_A G) := by
  refine zz_start hJ (by decide) rfl (Nat.le_of_ble_eq_true rfl) ?_
  intro p e s m below meth c E hr hlk
  have hts := E.2.2.2.2.1
  show zz_Z p l e (headSpec wsX0_ofRow ({ frames := 2, cells := 0, slots := 0, locals := 45 } : Room)).room s m ([.ref (G.2.2 13), .int (nI a), .int (zpm mm)] : List Value).toArray below meth c 0 0 (MQ below (zz_Qi G (fun r M1 => zfr [15] M M1 ∧ r = zrc1 (zW M) (zr a) mm)) ([.ref (G.2.2 13), .int (nI a), .int (zpm mm)] : List Value).toArray s 0 0 (zz_A G)) 4 G (zz_A G) M 0 [(0, .ref (G.2.2 13)), (1, .int (nI a)), (2, .int (zpm mm))] []
  have ha : a < 2 ^ 31 := by
    have h1 := zok_lt hz (by omega)
    have h2 : 10 ^ mo ≤ 10 ^ 9 := Nat.pow_le_pow_right (by decide) (by omega)
    omega
  cases mm with
  | zero =>
    show zz_Z p l e (headSpec wsX0_ofRow ({ frames := 2, cells := 0, slots := 0, locals := 45 } : Room)).room s m ([.ref (G.2.2 13), .int (nI a), .int (zpm 0)] : List Value).toArray below meth c 0 0 (MQ below (zz_Qi G (fun r M1 => zfr [15] M M1 ∧ r = zrc1 (zW M) (zr a) 0)) ([.ref (G.2.2 13), .int (nI a), .int (zpm 0)] : List Value).toArray s 0 0 (zz_A G)) 4 G (zz_A G) M 0 [(0, .ref (G.2.2 13)), (1, .int (nI a)), (2, .int (-1))] []
    refine zz_iload_n (pc := 0) E dX0_ofRow_0 rfl ?_
    refine zz_if_lt (pc := 1) (tgt := 10) E dX0_ofRow_1 (by decide) (fun h1 => ?_) (fun h1 => ?_)
    · refine zz_iconst (pc := 10) (v := nI 0) E dX0_ofRow_10 (by decide) ?_
      exact zz_iret (pc := 11) E hr hlk dX0_ofRow_11 ⟨zfr_rf _ _, rfl⟩
    · exact absurd (by decide) h1
  | succ n =>
    show zz_Z p l e (headSpec wsX0_ofRow ({ frames := 2, cells := 0, slots := 0, locals := 45 } : Room)).room s m ([.ref (G.2.2 13), .int (nI a), .int (zpm (n + 1))] : List Value).toArray below meth c 0 0 (MQ below (zz_Qi G (fun r M1 => zfr [15] M M1 ∧ r = zrc1 (zW M) (zr a) (n + 1))) ([.ref (G.2.2 13), .int (nI a), .int (zpm (n + 1))] : List Value).toArray s 0 0 (zz_A G)) 4 G (zz_A G) M 0 [(0, .ref (G.2.2 13)), (1, .int (nI a)), (2, .int (nI n))] []
    refine zz_iload_n (pc := 0) E dX0_ofRow_0 rfl ?_
    refine zn_if_lt (pc := 1) (tgt := 10) E dX0_ofRow_1 (by decide) (by omega) (fun h1 => absurd h1 (by omega)) (fun h1 => ?_)
    refine zz_iload_n (pc := 4) E dX0_ofRow_4 rfl ?_
    refine zz_bipush (pc := 5) (v := nI 12) E dX0_ofRow_5 (by decide) ?_
    refine zn_icmp_le (pc := 7) (tgt := 12) E dX0_ofRow_7 (by decide) (by omega) (by omega) (fun h7 => ?_) (fun h7 => absurd h7 (by omega))
    refine zz_aload_n (pc := 12) E dX0_ofRow_12 rfl ?_
    refine zz_gf (pc := 13) E 13 (by decide) rfl rfl inX0_ofRow_X0 1 (by decide) lkX0_ofRow_16 (fun _ h => h) rfl dX0_ofRow_13 ?_
    refine zz_iconst (pc := 16) (v := nI 0) E dX0_ofRow_16 (by decide) ?_
    refine zz_cvS (pc := 17) E (kkJ7_fill_53178 l G hJ _ 15 13 _ (by decide) (fun _ => rfl) (by decide)) (va_cwS 2 hts gX0_ofRow_J7_fill_53178 rfl rfl rfl (by decide +kernel) ⟨Nat.le_of_ble_eq_true rfl, Nat.le_of_ble_eq_true rfl⟩) rfl rfl (Nat.le_of_ble_eq_true rfl) dX0_ofRow_17 (fun M17 q17 => ?_)
    obtain ⟨f17, w17⟩ := q17
    refine zz_aload_n (pc := 20) E dX0_ofRow_20 rfl ?_
    refine zz_gf (pc := 21) E 13 (by decide) rfl rfl inX0_ofRow_X0 1 (by decide) lkX0_ofRow_16 (fun _ h => h) rfl dX0_ofRow_21 ?_
    refine zz_iconst (pc := 24) (v := nI 0) E dX0_ofRow_24 (by decide) ?_
    refine zz_iconst (pc := 25) (v := nI 1) E dX0_ofRow_25 (by decide) ?_
    refine zz_iast (pc := 26) E 15 (_) (n := 13) (by decide) (fun _ => rfl) rfl (by omega) (by decide) dX0_ofRow_26 ?_
    refine zz_iload_n (pc := 27) E dX0_ofRow_27 rfl ?_
    refine zz_istore_n (pc := 28) (lv' := [(0, _), (1, _), (2, _), (3, _)]) E dX0_ofRow_28 (by decide) rfl ?_
    have key : ∀ (j b : Nat) (M2 : zz_M) (K : List Nat), (zd b).length = j → b < 2 ^ 31 → zok b 6 mo = true → zr a = zr b ++ K → zfr [15] M M2 → (∀ m, m ≤ n → M2 15 m = zrc (zW M) K m) → zz_Z p l e (headSpec wsX0_ofRow ({ frames := 2, cells := 0, slots := 0, locals := 45 } : Room)).room s m ([.ref (G.2.2 13), .int (nI a), .int (zpm (n + 1))] : List Value).toArray below meth c 0 0 (MQ below (zz_Qi G (fun r M1 => zfr [15] M M1 ∧ r = zrc1 (zW M) (zr a) (n + 1))) ([.ref (G.2.2 13), .int (nI a), .int (zpm (n + 1))] : List Value).toArray s 0 0 (zz_A G)) 4 G (zz_A G) M2 29 [(0, .ref (G.2.2 13)), (2, .int (nI n)), (3, .int (nI b))] [] := by
      intro j
      induction j with
      | zero =>
        intro b M2 K hj hb hzb he hf hk2
        have hb0 := zd_len0 hj (by omega)
        subst hb0
        refine zz_iload_n (pc := 29) E dX0_ofRow_29 rfl ?_
        refine zn_if_le (pc := 30) (tgt := 52) E dX0_ofRow_30 (by decide) (by omega) (fun h30 => ?_) (fun h30 => ?_)
        · refine zz_aload_n (pc := 52) E dX0_ofRow_52 rfl ?_
          refine zz_gf (pc := 53) E 13 (by decide) rfl rfl inX0_ofRow_X0 1 (by decide) lkX0_ofRow_16 (fun _ h => h) rfl dX0_ofRow_53 ?_
          refine zz_iload_n (pc := 56) E dX0_ofRow_56 rfl ?_
          refine zz_iald (pc := 57) E 15 (_) (n := 13) (by decide) rfl rfl (by omega) (by decide) dX0_ofRow_57 ?_
          exact zz_iret (pc := 58) E hr hlk dX0_ofRow_58 ⟨hf, by rw [hk2 n (Nat.le_refl _), he, zr_0]; rfl⟩
        · exact absurd h30 (by omega)
      | succ j ih =>
        intro b M2 K hj hb hzb he hf hk2
        have h0 : 0 < b := by
          rcases Nat.eq_zero_or_pos b with h | h
          · rw [h] at hj; cases hj
          · exact h
        have hd := zok_digit hzb h0 (by omega)
        rw [zd_pos h0 (by omega), List.length_cons] at hj
        rw [zr_pos h0 (by omega)] at he
        refine zz_iload_n (pc := 29) E dX0_ofRow_29 rfl ?_
        refine zn_if_le (pc := 30) (tgt := 52) E dX0_ofRow_30 (by decide) (by omega) (fun h30 => ?_) (fun h30 => ?_)
        · exact absurd h30 (by omega)
        · refine zz_aload_n (pc := 33) E dX0_ofRow_33 rfl ?_
          refine zz_iload_n (pc := 34) E dX0_ofRow_34 rfl ?_
          refine zz_bipush (pc := 35) (v := nI 10) E dX0_ofRow_35 (by decide) ?_
          refine zn_irem (pc := 37) E dX0_ofRow_37 (by omega) (by omega) (by omega) ?_
          refine zz_iconst (pc := 38) (v := nI 1) E dX0_ofRow_38 (by decide) ?_
          refine zn_isub (pc := 39) E dX0_ofRow_39 (by omega) ?_
          refine zz_iload_n (pc := 40) E dX0_ofRow_40 rfl ?_
          refine zz_cvV (pc := 41) E 13 (kkX0_addSign l G hJ _ _ _ (by omega) (by omega)) (cwV 2 hts gX0_ofRow_X0_addSign rfl rfl rfl (by decide +kernel) ⟨Nat.le_of_ble_eq_true rfl, Nat.le_of_ble_eq_true rfl⟩) (by decide) rfl rfl rfl rfl (Nat.le_of_ble_eq_true rfl) dX0_ofRow_41 (fun M41 q41 => ?_)
          obtain ⟨f41, w41⟩ := q41
          refine zz_iload_n (pc := 44) E dX0_ofRow_44 rfl ?_
          refine zz_bipush (pc := 45) (v := nI 10) E dX0_ofRow_45 (by decide) ?_
          refine zn_idiv (pc := 47) E dX0_ofRow_47 (by omega) (by omega) (by omega) ?_
          refine zz_istore_n (pc := 48) (lv' := [(0, _), (2, _), (3, _)]) E dX0_ofRow_48 (by decide) rfl ?_
          refine zz_goto (pc := 49) (tgt := 29) E dX0_ofRow_49 (by decide) ?_
          exact zz_to (ih (b / 10) M41 ((b % 10 - 1) :: K) (by omega) (by omega) (zok_half hzb (by omega)) (by rw [he]; simp) (zfr_ct hf f41 (fun _ h => h) (fun _ h => h)) (fun m hm2 => by rw [w41 m hm2, zrc]; unfold zcv; refine zsm_congr (fun i hi => ?_); rw [hf (16 + (b % 10 - 1)) (by simp; omega), hk2 _ (by omega)]; rfl)) ⟨rfl, rfl, rfl, trivial⟩
    exact zz_to (key _ a _ [] rfl ha hz (by simp) (zfr_up f17 (by simp)) (fun m hm2 => by rw [zz_up_same, zrc]; by_cases e : m = 0; rw [e, upd_same]; rfl; rw [upd_ne _ _ e, if_neg e]; exact w17 m (by omega))) ⟨rfl, rfl, rfl, trivial⟩

set_option maxHeartbeats 4000000 in
set_option maxRecDepth 100000 in
theorem kkX0_byRules (l : Launch) (G : zz_C) (hJ : zz_J G) (M : zz_M) (S : Nat → Option Nat) (s0 mm : Nat) (hV : zV S) (hS : ztab M 1 S) (hs0 : s0 < 6) (hm : mm ≤ 13) : Met l yX0_byRules wsX0_byRules ({ frames := 3, cells := 0, slots := 0, locals := 68 } : Room) (zz_P G M [.ref (G.2.2 13), .ref (G.2.2 1), .int (nI s0), .int (zpm mm)]) (zz_Qi G (fun r M1 => zfr [15] M M1 ∧ r = zbr S (zW M) s0 mm 3)) 0 0 (zz_A G) := by
  refine zz_start hJ (by decide) rfl (Nat.le_of_ble_eq_true rfl) ?_
  intro p e s m below meth c E hr hlk
  have hts := E.2.2.2.2.1
  show zz_Z p l e (headSpec wsX0_byRules ({ frames := 3, cells := 0, slots := 0, locals := 68 } : Room)).room s m ([.ref (G.2.2 13), .ref (G.2.2 1), .int (nI s0), .int (zpm mm)] : List Value).toArray below meth c 0 0 (MQ below (zz_Qi G (fun r M1 => zfr [15] M M1 ∧ r = zbr S (zW M) s0 mm 3)) ([.ref (G.2.2 13), .ref (G.2.2 1), .int (nI s0), .int (zpm mm)] : List Value).toArray s 0 0 (zz_A G)) 7 G (zz_A G) M 0 [(0, .ref (G.2.2 13)), (1, .ref (G.2.2 1)), (2, .int (nI s0)), (3, .int (zpm mm))] []
  refine zz_iconst (pc := 0) (v := nI 0) E dX0_byRules_0 (by decide) ?_
  refine zz_istore (pc := 1) (lv' := [(0, _), (1, _), (2, _), (3, _), (4, _)]) E dX0_byRules_1 (by decide) rfl ?_
  refine zz_iconst (pc := 3) (v := nI 0) E dX0_byRules_3 (by decide) ?_
  refine zz_istore (pc := 4) (lv' := [(0, _), (1, _), (2, _), (3, _), (4, _), (5, _)]) E dX0_byRules_4 (by decide) rfl ?_
  have key : ∀ (j i : Nat) (M2 : zz_M), i + j = 3 → zfr [15] M M2 → zz_Z p l e (headSpec wsX0_byRules ({ frames := 3, cells := 0, slots := 0, locals := 68 } : Room)).room s m ([.ref (G.2.2 13), .ref (G.2.2 1), .int (nI s0), .int (zpm mm)] : List Value).toArray below meth c 0 0 (MQ below (zz_Qi G (fun r M1 => zfr [15] M M1 ∧ r = zbr S (zW M) s0 mm 3)) ([.ref (G.2.2 13), .ref (G.2.2 1), .int (nI s0), .int (zpm mm)] : List Value).toArray s 0 0 (zz_A G)) 7 G (zz_A G) M2 6 [(0, .ref (G.2.2 13)), (1, .ref (G.2.2 1)), (2, .int (nI s0)), (3, .int (zpm mm)), (4, .int (zbr S (zW M) s0 mm i)), (5, .int (nI i))] [] := by
    intro j
    induction j with
    | zero =>
      intro i M2 hi hf
      refine zz_iload (pc := 6) E dX0_byRules_6 rfl ?_
      refine zz_iconst (pc := 8) (v := nI 3) E dX0_byRules_8 (by decide) ?_
      refine zn_icmp_ge (pc := 9) (tgt := 46) E dX0_byRules_9 (by decide) (by omega) (by omega) (fun h9 => ?_) (fun h9 => ?_)
      · refine zz_iload (pc := 46) E dX0_byRules_46 rfl ?_
        exact zz_iret (pc := 48) E hr hlk dX0_byRules_48 ⟨hf, by rw [show i = 3 by omega]⟩
      · exact absurd h9 (by omega)
    | succ j ih =>
      intro i M2 hi hf
      have hS2 : ztab M2 1 S := ztab_fr hS hf (by decide) (by decide)
      have hr2 : zrl M2 1 (nI s0) (nI i) = zo (S (3 * s0 + i)) := by rw [zrl_nI hs0 (by omega)]; exact hS2.1 _ (by omega)
      have hlt : ∀ q, S (3 * s0 + i) = some q → q < 2 ^ 31 := fun q hq => by have := zV_lt hV (by omega) hq; omega
      refine zz_iload (pc := 6) E dX0_byRules_6 rfl ?_
      refine zz_iconst (pc := 8) (v := nI 3) E dX0_byRules_8 (by decide) ?_
      refine zn_icmp_ge (pc := 9) (tgt := 46) E dX0_byRules_9 (by decide) (by omega) (by omega) (fun h9 => ?_) (fun h9 => ?_)
      · exact absurd h9 (by omega)
      · refine zz_aload_n (pc := 12) E dX0_byRules_12 rfl ?_
        refine zz_iload_n (pc := 13) E dX0_byRules_13 rfl ?_
        refine zz_iload (pc := 14) E dX0_byRules_14 rfl ?_
        refine zz_ciV (pc := 16) E 1 (kkX6_ruleOf l G hJ _ _ zz_T1 _ _) (cwV 2 hts gX0_byRules_X6_ruleOf rfl rfl rfl (by decide +kernel) ⟨Nat.le_of_ble_eq_true rfl, Nat.le_of_ble_eq_true rfl⟩) (by decide) rfl rfl rfl rfl (Nat.le_of_ble_eq_true rfl) dX0_byRules_16 (fun r16 M16 q16 => ?_)
        obtain ⟨rfl, rfl⟩ := q16
        refine zz_eqi (y := zo (S (3 * s0 + i))) hr2 ?_
        refine zz_istore (pc := 19) (lv' := [(0, _), (1, _), (2, _), (3, _), (4, _), (5, _), (6, _)]) E dX0_byRules_19 (by decide) rfl ?_
        refine zz_iload (pc := 21) E dX0_byRules_21 rfl ?_
        refine zz_bipush (pc := 23) (v := -9) E dX0_byRules_23 (by decide) ?_
        refine zz_icmp_eq (pc := 25) (tgt := 40) E dX0_byRules_25 (by decide) (fun h25 => ?_) (fun h25 => ?_)
        · rw [zo_m9 hlt] at h25
          refine zn_inc (pc := 40) (lv' := [(0, _), (1, _), (2, _), (3, _), (4, _), (5, _), (6, _)]) E dX0_byRules_40 rfl (by decide) rfl ?_
          refine zz_goto (pc := 43) (tgt := 6) E dX0_byRules_43 (by decide) ?_
          exact zz_to (ih (i + 1) M2 (by omega) hf) ⟨rfl, rfl, rfl, rfl, by rw [zbr, h25]; rfl, rfl, trivial⟩
        · obtain ⟨q, hq⟩ : ∃ q, S (3 * s0 + i) = some q := by
            cases hv2 : S (3 * s0 + i) with
            | none => exact absurd (by rw [hv2]; rfl) h25
            | some q => exact ⟨q, rfl⟩
          have hzq := hV.1 _ (by omega) q hq
          refine zz_iload (pc := 28) E dX0_byRules_28 rfl ?_
          refine zz_aload_n (pc := 30) E dX0_byRules_30 rfl ?_
          refine zz_iload (pc := 31) E dX0_byRules_31 rfl ?_
          refine zz_eqi (y := nI q) (by rw [hq]; rfl) ?_
          refine zz_iload_n (pc := 33) E dX0_byRules_33 rfl ?_
          refine zz_ciV (pc := 34) E 13 (kkX0_ofRow l G hJ _  q 3 mm hzq (by decide) hm) (cwV 2 hts gX0_byRules_X0_ofRow rfl rfl rfl (by decide +kernel) ⟨Nat.le_of_ble_eq_true rfl, Nat.le_of_ble_eq_true rfl⟩) (by decide) rfl rfl rfl rfl (Nat.le_of_ble_eq_true rfl) dX0_byRules_34 (fun r34 M34 q34 => ?_)
          obtain ⟨f34, rfl⟩ := q34
          refine zz_iadd (pc := 37) E dX0_byRules_37 ?_
          refine zz_istore (pc := 38) (lv' := [(0, _), (1, _), (2, _), (3, _), (4, _), (5, _), (6, _)]) E dX0_byRules_38 (by decide) rfl ?_
          refine zn_inc (pc := 40) (lv' := [(0, _), (1, _), (2, _), (3, _), (4, _), (5, _), (6, _)]) E dX0_byRules_40 rfl (by decide) rfl ?_
          refine zz_goto (pc := 43) (tgt := 6) E dX0_byRules_43 (by decide) ?_
          exact zz_to (ih (i + 1) M34 (by omega) (zfr_ct hf f34 (fun _ h => h) (fun _ h => h))) ⟨rfl, rfl, rfl, rfl, by rw [zbr, hq, zrc1_fr hf (zr_lt hzq)]; rfl, rfl, trivial⟩
  exact zz_to (key 3 0 M (by omega) (zfr_rf _ _)) ⟨rfl, rfl, rfl, rfl, rfl, rfl, trivial⟩

theorem inX0_find_X0 : ∀ w ∈ u_ws RX0 TX0 2, w ∈ wsX0_find := by decide +kernel
theorem lkX0_find_11 : Cond.fieldLink RX0 11 RX0 "ofSign" "[[I" ∈ wsX0_find := by decide +kernel
set_option maxHeartbeats 4000000 in
set_option maxRecDepth 100000 in
theorem kkX0_find (l : Launch) (G : zz_C) (hJ : zz_J G) (M : zz_M) (S : Nat → Option Nat) (n : Nat) (hV : zV S) (hS : ztab M 1 S) (hn : n ≤ 12) : Met l yX0_find wsX0_find ({ frames := 4, cells := 0, slots := 0, locals := 94 } : Room) (zz_P G M [.ref (G.2.2 13), .ref (G.2.2 1), .int (nI n)]) (zz_Qv G (fun M1 => zfr [15, 16, 17, 18, 19, 20, 21] M M1 ∧ ∀ x, x < 6 → ∀ i, i ≤ n → M1 (16 + x) i = zcw S (n + 1) x i)) 0 0 (zz_A G) := by
  refine zz_start hJ (by decide) rfl (Nat.le_of_ble_eq_true rfl) ?_
  intro p e s m below meth c E hr hlk
  have hts := E.2.2.2.2.1
  show zz_Z p l e (headSpec wsX0_find ({ frames := 4, cells := 0, slots := 0, locals := 94 } : Room)).room s m ([.ref (G.2.2 13), .ref (G.2.2 1), .int (nI n)] : List Value).toArray below meth c 0 0 (MQ below (zz_Qv G (fun M1 => zfr [15, 16, 17, 18, 19, 20, 21] M M1 ∧ ∀ x, x < 6 → ∀ i, i ≤ n → M1 (16 + x) i = zcw S (n + 1) x i)) ([.ref (G.2.2 13), .ref (G.2.2 1), .int (nI n)] : List Value).toArray s 0 0 (zz_A G)) 5 G (zz_A G) M 0 [(0, .ref (G.2.2 13)), (1, .ref (G.2.2 1)), (2, .int (nI n))] []
  refine zz_iconst (pc := 0) (v := nI 0) E dX0_find_0 (by decide) ?_
  refine zz_istore_n (pc := 1) (lv' := [(0, _), (1, _), (2, _), (3, _)]) E dX0_find_1 (by decide) rfl ?_
  have key : ∀ (j i : Nat) (M2 : zz_M), i + j = n + 1 → zfr [15, 16, 17, 18, 19, 20, 21] M M2 → (∀ x, x < 6 → ∀ q, q < i → M2 (16 + x) q = zcw S i x q) → zz_Z p l e (headSpec wsX0_find ({ frames := 4, cells := 0, slots := 0, locals := 94 } : Room)).room s m ([.ref (G.2.2 13), .ref (G.2.2 1), .int (nI n)] : List Value).toArray below meth c 0 0 (MQ below (zz_Qv G (fun M1 => zfr [15, 16, 17, 18, 19, 20, 21] M M1 ∧ ∀ x, x < 6 → ∀ i, i ≤ n → M1 (16 + x) i = zcw S (n + 1) x i)) ([.ref (G.2.2 13), .ref (G.2.2 1), .int (nI n)] : List Value).toArray s 0 0 (zz_A G)) 5 G (zz_A G) M2 2 [(0, .ref (G.2.2 13)), (1, .ref (G.2.2 1)), (2, .int (nI n)), (3, .int (nI i))] [] := by
    intro j
    induction j with
    | zero =>
      intro i M2 hi hf hc
      refine zz_iload_n (pc := 2) E dX0_find_2 rfl ?_
      refine zz_iload_n (pc := 3) E dX0_find_3 rfl ?_
      refine zn_icmp_gt (pc := 4) (tgt := 54) E dX0_find_4 (by decide) (by omega) (by omega) (fun h4 => ?_) (fun h4 => ?_)
      · exact zz_vret (pc := 54) E hr hlk dX0_find_54 ⟨hf, fun x hx q hq => by rw [show n + 1 = i by omega]; exact hc x hx q (by omega)⟩
      · exact absurd h4 (by omega)
    | succ j ih =>
      intro i M2 hi hf hc
      refine zz_iload_n (pc := 2) E dX0_find_2 rfl ?_
      refine zz_iload_n (pc := 3) E dX0_find_3 rfl ?_
      refine zn_icmp_gt (pc := 4) (tgt := 54) E dX0_find_4 (by decide) (by omega) (by omega) (fun h4 => ?_) (fun h4 => ?_)
      · exact absurd h4 (by omega)
      · refine zz_iload_n (pc := 7) E dX0_find_7 rfl ?_
        refine zz_bipush (pc := 8) (v := nI 12) E dX0_find_8 (by decide) ?_
        refine zn_icmp_gt (pc := 10) (tgt := 54) E dX0_find_10 (by decide) (by omega) (by omega) (fun h10 => ?_) (fun h10 => ?_)
        · exact absurd h10 (by omega)
        · refine zz_iconst (pc := 13) (v := nI 0) E dX0_find_13 (by decide) ?_
          refine zz_istore (pc := 14) (lv' := [(0, _), (1, _), (2, _), (3, _), (4, _)]) E dX0_find_14 (by decide) rfl ?_
          have key2 : ∀ (j2 i2 : Nat) (M3 : zz_M), i2 + j2 = 6 → zfr [15, 16, 17, 18, 19, 20, 21] M M3 → (∀ x, x < 6 → ∀ q, q < i → M3 (16 + x) q = zcw S i x q) → (∀ x, x < i2 → M3 (16 + x) i = zbr S (zcw S i) x i 3) → zz_Z p l e (headSpec wsX0_find ({ frames := 4, cells := 0, slots := 0, locals := 94 } : Room)).room s m ([.ref (G.2.2 13), .ref (G.2.2 1), .int (nI n)] : List Value).toArray below meth c 0 0 (MQ below (zz_Qv G (fun M1 => zfr [15, 16, 17, 18, 19, 20, 21] M M1 ∧ ∀ x, x < 6 → ∀ i, i ≤ n → M1 (16 + x) i = zcw S (n + 1) x i)) ([.ref (G.2.2 13), .ref (G.2.2 1), .int (nI n)] : List Value).toArray s 0 0 (zz_A G)) 5 G (zz_A G) M3 16 [(0, .ref (G.2.2 13)), (1, .ref (G.2.2 1)), (2, .int (nI n)), (3, .int (nI i)), (4, .int (nI i2))] [] := by
            intro j2
            induction j2 with
            | zero =>
              intro i2 M3 hi2 hf3 hc3 hb3
              refine zz_iload (pc := 16) E dX0_find_16 rfl ?_
              refine zz_bipush (pc := 18) (v := nI 6) E dX0_find_18 (by decide) ?_
              refine zn_icmp_ge (pc := 20) (tgt := 48) E dX0_find_20 (by decide) (by omega) (by omega) (fun h20 => ?_) (fun h20 => ?_)
              · refine zn_inc (pc := 48) (lv' := [(0, _), (1, _), (2, _), (3, _), (4, _)]) E dX0_find_48 rfl (by decide) rfl ?_
                refine zz_goto (pc := 51) (tgt := 2) E dX0_find_51 (by decide) ?_
                exact zz_to (ih (i + 1) M3 (by omega) hf3 (fun x hx q hq => by by_cases e : q = i; rw [e, hb3 x (by omega), zcw_at]; rw [zcw_lt e]; exact hc3 x hx q (by omega))) ⟨rfl, rfl, rfl, rfl, trivial⟩
              · exact absurd h20 (by omega)
            | succ j2 ih2 =>
              intro i2 M3 hi2 hf3 hc3 hb3
              have hS3 : ztab M3 1 S := ztab_fr hS hf3 (by decide) (by decide)
              refine zz_iload (pc := 16) E dX0_find_16 rfl ?_
              refine zz_bipush (pc := 18) (v := nI 6) E dX0_find_18 (by decide) ?_
              refine zn_icmp_ge (pc := 20) (tgt := 48) E dX0_find_20 (by decide) (by omega) (by omega) (fun h20 => ?_) (fun h20 => ?_)
              · exact absurd h20 (by omega)
              · refine zz_aload_n (pc := 23) E dX0_find_23 rfl ?_
                refine zz_gf (pc := 24) E 13 (by decide) rfl rfl inX0_find_X0 0 (by decide) lkX0_find_11 (fun _ h => h) rfl dX0_find_24 ?_
                refine zz_iload (pc := 27) E dX0_find_27 rfl ?_
                refine zz_aald (pc := 29) E 14 (i2) (n := 6) (t0 := 3) (f := fun i => G.2.2 (16 + i)) (by decide) rfl rfl rfl rfl (by omega) (by decide) dX0_find_29 ?_
                refine zz_iload_n (pc := 30) E dX0_find_30 rfl ?_
                refine zz_aload_n (pc := 31) E dX0_find_31 rfl ?_
                refine zz_aload_n (pc := 32) E dX0_find_32 rfl ?_
                refine zz_iload (pc := 33) E dX0_find_33 rfl ?_
                refine zz_iload_n (pc := 35) E dX0_find_35 rfl ?_
                refine zz_iconst (pc := 36) (v := nI 1) E dX0_find_36 (by decide) ?_
                refine zz_isub (pc := 37) E dX0_find_37 ?_
                refine zz_eqi (y := zpm i) (zpm_sub i) ?_
                refine zz_ciV (pc := 38) E 13 (kkX0_byRules l G hJ _  S i2 i hV hS3 (by omega) (by omega)) (cwV 3 hts gX0_find_X0_byRules rfl rfl rfl (by decide +kernel) ⟨Nat.le_of_ble_eq_true rfl, Nat.le_of_ble_eq_true rfl⟩) (by decide) rfl rfl rfl rfl (Nat.le_of_ble_eq_true rfl) dX0_find_38 (fun r38 M38 q38 => ?_)
                obtain ⟨f38, rfl⟩ := q38
                refine zz_iast (pc := 41) E (16 + i2) (_) (n := 13) (by omega) (zz_Cx (show i2 < 6 by omega) G) rfl (by omega) (by decide) dX0_find_41 ?_
                refine zn_inc (pc := 42) (lv' := [(0, _), (1, _), (2, _), (3, _), (4, _)]) E dX0_find_42 rfl (by decide) rfl ?_
                refine zz_goto (pc := 45) (tgt := 16) E dX0_find_45 (by decide) ?_
                exact zz_to (ih2 (i2 + 1) _ (by omega) (zfr_up (zfr_ct hf3 f38 (fun _ h => h) (by simp)) (by simp; omega)) (fun x hx q hq => by by_cases e : 16 + x = 16 + i2; rw [e, zz_up_same, upd_ne _ _ (by omega), f38 _ (by simp; omega), ← e]; exact hc3 x hx q hq; rw [zz_up_ne _ _ e, f38 _ (by simp; omega)]; exact hc3 x hx q hq) (fun x hx => by by_cases e : x = i2; rw [e, zz_up_same, upd_same]; exact zbr_congr hV (by omega) (fun y hy q hq => hc3 y hy q hq) 3 (by omega); rw [zz_up_ne _ _ (by omega), f38 _ (by simp; omega)]; exact hb3 x (by omega))) ⟨rfl, rfl, rfl, rfl, rfl, trivial⟩
          exact zz_to (key2 6 0 M2 (by omega) hf hc (fun x hx => absurd hx (by omega))) ⟨rfl, rfl, rfl, rfl, rfl, trivial⟩
  exact zz_to (key (n + 1) 0 M (by omega) (zfr_rf _ _) (fun x _ q hq => absurd hq (by omega))) ⟨rfl, rfl, rfl, rfl, trivial⟩
