/-! a row reads letters -/
def zstep (S : Nat → Option Nat) (L : List Nat) (b : Nat) : Option (List Nat) := match L with
  | [] => none
  | x :: t => (S (3 * x + b)).map (fun r => zr r ++ t)
/-- how many letters are read, and what is left -/
def zrd (S : Nat → Option Nat) : List Nat → List Nat → Nat × List Nat
  | L, [] => (0, L)
  | L, b :: ls => match zstep S L b with
    | none => (0, L)
    | some L1 => ((zrd S L1 ls).1 + 1, (zrd S L1 ls).2)
theorem zstep_ok {S : Nat → Option Nat} (hV : zV S) {L L1 : List Nat} {b : Nat} (hb : b < 3) (hL : ∀ x ∈ L, x < 6) (h : zstep S L b = some L1) : (∀ x ∈ L1, x < 6) ∧ L1.length ≤ L.length + 2 := by
  cases L with
  | nil => cases h
  | cons x t =>
    have h : (S (3 * x + b)).map (fun r => zr r ++ t) = some L1 := h
    have hx : x < 6 := hL x List.mem_cons_self
    cases hs : S (3 * x + b) with
    | none => rw [hs] at h; cases h
    | some r =>
      rw [hs] at h
      cases h
      have hz := hV.1 _ (by omega) r hs
      refine ⟨fun y hy => ?_, ?_⟩
      · rcases List.mem_append.mp hy with hy | hy
        · exact zr_lt hz y hy
        · exact hL y (List.mem_cons_of_mem _ hy)
      · rw [List.length_append, zr_len, List.length_cons]
        have := zok_len hz
        omega
theorem zo_m9 {o : Option Nat} (h : ∀ a, o = some a → a < 2 ^ 31) : zo o = -9 ↔ o = none := by
  cases o with
  | none => exact ⟨fun _ => rfl, fun _ => rfl⟩
  | some a =>
    refine ⟨fun q => ?_, fun q => by cases q⟩
    exfalso
    have hq : nI a = -9 := q
    have e := congrArg Int32.toInt hq
    rw [nI_toInt (h a rfl), show (-9 : Int32).toInt = -9 by decide] at e
    omega
theorem zV_lt {S : Nat → Option Nat} (hV : zV S) {i : Nat} (hi : i < 18) {a : Nat} (h : S i = some a) : a < 1000 := zok_lt (hV.1 i hi a h) (by decide)
theorem zV_lt2 {S : Nat → Option Nat} (hV : zV S) {i : Nat} (hi : i < 6) {a : Nat} (h : S (18 + i) = some a) : a < 1000 := zok_lt (hV.2 i hi a h).1 (by decide)
theorem zrd_le (S : Nat → Option Nat) : ∀ (ls L : List Nat), (zrd S L ls).1 ≤ ls.length
  | [], L => Nat.le_refl _
  | b :: ls, L => by
    rw [zrd]
    cases h : zstep S L b with
    | none => exact Nat.zero_le _
    | some L1 =>
      show (zrd S L1 ls).1 + 1 ≤ ls.length + 1
      have := zrd_le S ls L1
      omega

theorem inX4_start_X4 : ∀ w ∈ u_ws RX4 TX4 2, w ∈ wsX4_start := by decide +kernel
theorem lkX4_start_14 : Cond.fieldLink RX4 14 RX4 "left" "LFirstSigns$Row;" ∈ wsX4_start := by decide +kernel
set_option maxHeartbeats 4000000 in
set_option maxRecDepth 100000 in
theorem kkX4_start (l : Launch) (G : zz_C) (hJ : zz_J G) (M : zz_M) (a kn : Nat) (hz : zok a kn 20 = true) (ha : a < 2 ^ 31) (hc : (zd a).length ≤ 33) : Met l yX4_start wsX4_start ({ frames := 2, cells := 0, slots := 0, locals := 45 } : Room) (zz_P G M [.ref (G.2.2 6), .int (nI a)]) (zz_Qv G (fun M1 => zfr [7, 8] M M1 ∧ zrow M1 7 33 (zr a))) 0 0 (zz_A G) := by
  refine zz_start hJ (by decide) rfl (Nat.le_of_ble_eq_true rfl) ?_
  intro p e s m below meth c E hr hlk
  have hts := E.2.2.2.2.1
  show zz_Z p l e (headSpec wsX4_start ({ frames := 2, cells := 0, slots := 0, locals := 45 } : Room)).room s m ([.ref (G.2.2 6), .int (nI a)] : List Value).toArray below meth c 0 0 (MQ below (zz_Qv G (fun M1 => zfr [7, 8] M M1 ∧ zrow M1 7 33 (zr a))) ([.ref (G.2.2 6), .int (nI a)] : List Value).toArray s 0 0 (zz_A G)) 2 G (zz_A G) M 0 [(0, .ref (G.2.2 6)), (1, .int (nI a))] []
  refine zz_aload_n (pc := 0) E dX4_start_0 rfl ?_
  refine zz_gf (pc := 1) E 6 (by decide) rfl rfl inX4_start_X4 0 (by decide) lkX4_start_14 (fun _ h => h) rfl dX4_start_1 ?_
  refine zz_cvV (pc := 4) E 7 (kkX5_clear l G hJ _ _ _ zz_R7) (cwV 0 hts gX4_start_X5_clear rfl rfl rfl (by decide +kernel) ⟨Nat.le_of_ble_eq_true rfl, Nat.le_of_ble_eq_true rfl⟩) (by decide) rfl rfl rfl rfl (Nat.le_of_ble_eq_true rfl) dX4_start_4 (fun M4 q4 => ?_)
  obtain ⟨f4, w4⟩ := q4
  refine zz_aload_n (pc := 7) E dX4_start_7 rfl ?_
  refine zz_gf (pc := 8) E 6 (by decide) rfl rfl inX4_start_X4 0 (by decide) lkX4_start_14 (fun _ h => h) rfl dX4_start_8 ?_
  refine zz_iload_n (pc := 11) E dX4_start_11 rfl ?_
  refine zn_i2l (pc := 12) E dX4_start_12 (by omega) ?_
  refine zz_cvV (pc := 13) E 7 (kkX5_putRowAhead l G hJ _ _ _ zz_R7 _ _ _ w4 hz (by omega) (by rw [List.length_nil]; omega)) (cwV 1 hts gX4_start_X5_putRowAhead rfl rfl rfl (by decide +kernel) ⟨Nat.le_of_ble_eq_true rfl, Nat.le_of_ble_eq_true rfl⟩) (by decide) rfl rfl rfl rfl (Nat.le_of_ble_eq_true rfl) dX4_start_13 (fun M13 q13 => ?_)
  obtain ⟨f13, w13⟩ := q13
  exact zz_vret (pc := 16) E hr hlk dX4_start_16 ⟨zfr_ct f4 f13 (by simp) (by simp), by rw [List.append_nil] at w13; exact w13⟩

theorem inX4_step_X4 : ∀ w ∈ u_ws RX4 TX4 2, w ∈ wsX4_step := by decide +kernel
theorem lkX4_step_14 : Cond.fieldLink RX4 14 RX4 "left" "LFirstSigns$Row;" ∈ wsX4_step := by decide +kernel
set_option maxHeartbeats 4000000 in
set_option maxRecDepth 100000 in
theorem kkX4_step (l : Launch) (G : zz_C) (hJ : zz_J G) (M : zz_M) (S : Nat → Option Nat) (L : List Nat) (b : Nat) (hV : zV S) (hS : ztab M 1 S) (hL : zrow M 7 33 L) (hb : b < 3) (h6 : ∀ x ∈ L, x < 6) (hc : L.length + 2 ≤ 33) : Met l yX4_step wsX4_step ({ frames := 2, cells := 0, slots := 0, locals := 45 } : Room) (zz_P G M [.ref (G.2.2 6), .ref (G.2.2 1), .int (nI b)]) (zz_Qi G (fun r M1 => zfr [7, 8] M M1 ∧ r = zz_b (zstep S L b).isSome ∧ zrow M1 7 33 ((zstep S L b).getD L))) 0 0 (zz_A G) := by
  refine zz_start hJ (by decide) rfl (Nat.le_of_ble_eq_true rfl) ?_
  intro p e s m below meth c E hr hlk
  have hts := E.2.2.2.2.1
  show zz_Z p l e (headSpec wsX4_step ({ frames := 2, cells := 0, slots := 0, locals := 45 } : Room)).room s m ([.ref (G.2.2 6), .ref (G.2.2 1), .int (nI b)] : List Value).toArray below meth c 0 0 (MQ below (zz_Qi G (fun r M1 => zfr [7, 8] M M1 ∧ r = zz_b (zstep S L b).isSome ∧ zrow M1 7 33 ((zstep S L b).getD L))) ([.ref (G.2.2 6), .ref (G.2.2 1), .int (nI b)] : List Value).toArray s 0 0 (zz_A G)) 4 G (zz_A G) M 0 [(0, .ref (G.2.2 6)), (1, .ref (G.2.2 1)), (2, .int (nI b))] []
  have hrr : zrl M 1 (zo (L[0]?)) (nI b) = zo ((L[0]?).bind (fun x => S (3 * x + b))) := by
    cases L with
    | nil => exact zrl_m9
    | cons x t =>
      have hx := h6 x List.mem_cons_self
      show zrl M 1 (nI x) (nI b) = zo (S (3 * x + b))
      rw [zrl_nI hx hb]
      exact hS.1 _ (by omega)
  have hlt : ∀ a, (L[0]?).bind (fun x => S (3 * x + b)) = some a → a < 2 ^ 31 := by
    intro a ha
    cases L with
    | nil => cases ha
    | cons x t =>
      have hx := h6 x List.mem_cons_self
      have := zV_lt hV (i := 3 * x + b) (by omega) ha
      omega
  refine zz_aload_n (pc := 0) E dX4_step_0 rfl ?_
  refine zz_aload_n (pc := 1) E dX4_step_1 rfl ?_
  refine zz_gf (pc := 2) E 6 (by decide) rfl rfl inX4_step_X4 0 (by decide) lkX4_step_14 (fun _ h => h) rfl dX4_step_2 ?_
  refine zz_iconst (pc := 5) (v := nI 0) E dX4_step_5 (by decide) ?_
  refine zz_ciV (pc := 6) E 7 (kkX5_fromFirst l G hJ _ _ _ zz_R7 0 L hL (by decide)) (cwV 1 hts gX4_step_X5_fromFirst rfl rfl rfl (by decide +kernel) ⟨Nat.le_of_ble_eq_true rfl, Nat.le_of_ble_eq_true rfl⟩) (by decide) rfl rfl rfl rfl (Nat.le_of_ble_eq_true rfl) dX4_step_6 (fun r6 M6 q6 => ?_)
  obtain ⟨rfl, rfl⟩ := q6
  refine zz_iload_n (pc := 9) E dX4_step_9 rfl ?_
  refine zz_ciV (pc := 10) E 1 (kkX6_ruleOf l G hJ _ _ zz_T1 _ _) (cwV 2 hts gX4_step_X6_ruleOf rfl rfl rfl (by decide +kernel) ⟨Nat.le_of_ble_eq_true rfl, Nat.le_of_ble_eq_true rfl⟩) (by decide) rfl rfl rfl rfl (Nat.le_of_ble_eq_true rfl) dX4_step_10 (fun r10 M10 q10 => ?_)
  obtain ⟨rfl, rfl⟩ := q10
  refine zz_eqi (y := zo ((L[0]?).bind (fun x => S (3 * x + b)))) hrr ?_
  refine zz_istore_n (pc := 13) (lv' := [(0, _), (1, _), (2, _), (3, _)]) E dX4_step_13 (by decide) rfl ?_
  refine zz_iload_n (pc := 14) E dX4_step_14 rfl ?_
  refine zz_bipush (pc := 15) (v := -9) E dX4_step_15 (by decide) ?_
  refine zz_icmp_ne (pc := 17) (tgt := 22) E dX4_step_17 (by decide) (fun h17 => ?_) (fun h17 => ?_)
  · obtain ⟨x, t, a, rfl, ha⟩ : ∃ x t a, L = x :: t ∧ S (3 * x + b) = some a := by
      cases L with
      | nil => exact absurd rfl h17
      | cons x t =>
        cases hs : S (3 * x + b) with
        | none => exact absurd (by show zo (S (3 * x + b)) = -9; rw [hs]; rfl) h17
        | some a => exact ⟨x, t, a, rfl, hs⟩
    have hx := h6 x List.mem_cons_self
    have hza := hV.1 (3 * x + b) (by omega) a ha
    have ha1 := zV_lt hV (i := 3 * x + b) (by omega) ha
    have hla := zok_len hza
    rw [List.length_cons] at hc
    refine zz_aload_n (pc := 22) E dX4_step_22 rfl ?_
    refine zz_gf (pc := 23) E 6 (by decide) rfl rfl inX4_step_X4 0 (by decide) lkX4_step_14 (fun _ h => h) rfl dX4_step_23 ?_
    refine zz_cvV (pc := 26) E 7 (kkX5_dropFirst l G hJ _ _ _ zz_R7 _ hL) (cwV 0 hts gX4_step_X5_dropFirst rfl rfl rfl (by decide +kernel) ⟨Nat.le_of_ble_eq_true rfl, Nat.le_of_ble_eq_true rfl⟩) (by decide) rfl rfl rfl rfl (Nat.le_of_ble_eq_true rfl) dX4_step_26 (fun M26 q26 => ?_)
    obtain ⟨f26, w26⟩ := q26
    refine zz_aload_n (pc := 29) E dX4_step_29 rfl ?_
    refine zz_gf (pc := 30) E 6 (by decide) rfl rfl inX4_step_X4 0 (by decide) lkX4_step_14 (fun _ h => h) rfl dX4_step_30 ?_
    refine zz_iload_n (pc := 33) E dX4_step_33 rfl ?_
    refine zz_eqi (y := nI a) (by show zo (S (3 * x + b)) = nI a; rw [ha]; rfl) ?_
    refine zn_i2l (pc := 34) E dX4_step_34 (by omega) ?_
    refine zz_cvV (pc := 35) E 7 (kkX5_putRowAhead l G hJ _ _ _ zz_R7 _ _ _ w26 (zok_mono hza (Nat.le_refl 6) (by decide)) (by omega) (by show _ + t.length ≤ 33; omega)) (cwV 1 hts gX4_step_X5_putRowAhead rfl rfl rfl (by decide +kernel) ⟨Nat.le_of_ble_eq_true rfl, Nat.le_of_ble_eq_true rfl⟩) (by decide) rfl rfl rfl rfl (Nat.le_of_ble_eq_true rfl) dX4_step_35 (fun M35 q35 => ?_)
    obtain ⟨f35, w35⟩ := q35
    refine zz_iconst (pc := 38) (v := nI 1) E dX4_step_38 (by decide) ?_
    exact zz_zret (pc := 39) E hr hlk dX4_step_39 (by decide) ⟨zfr_ct f26 f35 (by simp) (by simp), by show nI 1 = zz_b ((S (3 * x + b)).map (fun r => zr r ++ t)).isSome; rw [ha]; rfl, by show zrow M35 7 33 (((S (3 * x + b)).map (fun r => zr r ++ t)).getD _); rw [ha]; exact w35⟩
  · rw [zo_m9 hlt] at h17
    refine zz_iconst (pc := 20) (v := nI 0) E dX4_step_20 (by decide) ?_
    have hn : zstep S L b = none := by
      cases L with
      | nil => rfl
      | cons x t =>
        have h17 : S (3 * x + b) = none := h17
        show (S (3 * x + b)).map (fun r => zr r ++ t) = none
        rw [h17]
        rfl
    exact zz_zret (pc := 21) E hr hlk dX4_step_21 (by decide) ⟨zfr_rf _ _, by rw [hn]; rfl, by rw [hn]; exact hL⟩

theorem inX4_countRead_X4 : ∀ w ∈ u_ws RX4 TX4 2, w ∈ wsX4_countRead := by decide +kernel
theorem lkX4_countRead_20 : Cond.fieldLink RX4 20 RX4 "ahead" "LFirstSigns$Row;" ∈ wsX4_countRead := by decide +kernel
set_option maxHeartbeats 4000000 in
set_option maxRecDepth 100000 in
theorem kkX4_countRead (l : Launch) (G : zz_C) (hJ : zz_J G) (M : zz_M) (S : Nat → Option Nat) (a d : Nat) (hV : zV S) (hS : ztab M 1 S) (ha : zok a 6 9 = true) (hd : zok d 3 12 = true) : Met l yX4_countRead wsX4_countRead ({ frames := 3, cells := 0, slots := 0, locals := 68 } : Room) (zz_P G M [.ref (G.2.2 6), .ref (G.2.2 1), .int (nI a), .long (lN d)]) (zz_Qi G (fun r M1 => zfr [7, 8, 9, 10] M M1 ∧ r = nI (zrd S (zr a) (zr d)).1 ∧ zrow M1 7 33 (zrd S (zr a) (zr d)).2 ∧ zrow M1 9 12 ((zr d).drop (zrd S (zr a) (zr d)).1))) 0 0 (zz_A G) := by
  refine zz_start hJ (by decide) rfl (Nat.le_of_ble_eq_true rfl) ?_
  intro p e s m below meth c E hr hlk
  have hts := E.2.2.2.2.1
  show zz_Z p l e (headSpec wsX4_countRead ({ frames := 3, cells := 0, slots := 0, locals := 68 } : Room)).room s m ([.ref (G.2.2 6), .ref (G.2.2 1), .int (nI a), .long (lN d)] : List Value).toArray below meth c 0 0 (MQ below (zz_Qi G (fun r M1 => zfr [7, 8, 9, 10] M M1 ∧ r = nI (zrd S (zr a) (zr d)).1 ∧ zrow M1 7 33 (zrd S (zr a) (zr d)).2 ∧ zrow M1 9 12 ((zr d).drop (zrd S (zr a) (zr d)).1))) ([.ref (G.2.2 6), .ref (G.2.2 1), .int (nI a), .long (lN d)] : List Value).toArray s 0 0 (zz_A G)) 6 G (zz_A G) M 0 [(0, .ref (G.2.2 6)), (1, .ref (G.2.2 1)), (2, .int (nI a)), (3, .long (lN d))] []
  have ha1 := zok_lt ha (by decide)
  have hd1 := zok_lt hd (by decide)
  have ha2 := zok_len ha
  have hd2 := zok_len hd
  refine zz_aload_n (pc := 0) E dX4_countRead_0 rfl ?_
  refine zz_iload_n (pc := 1) E dX4_countRead_1 rfl ?_
  refine zz_cvV (pc := 2) E 6 (kkX4_start l G hJ _ _ _ (zok_mono ha (Nat.le_refl 6) (by decide)) (by omega) (by omega)) (cwV 1 hts gX4_countRead_X4_start rfl rfl rfl (by decide +kernel) ⟨Nat.le_of_ble_eq_true rfl, Nat.le_of_ble_eq_true rfl⟩) (by decide) rfl rfl rfl rfl (Nat.le_of_ble_eq_true rfl) dX4_countRead_2 (fun M2 q2 => ?_)
  obtain ⟨f2, w2⟩ := q2
  refine zz_aload_n (pc := 5) E dX4_countRead_5 rfl ?_
  refine zz_gf (pc := 6) E 6 (by decide) rfl rfl inX4_countRead_X4 1 (by decide) lkX4_countRead_20 (fun _ h => h) rfl dX4_countRead_6 ?_
  refine zz_cvV (pc := 9) E 9 (kkX5_clear l G hJ _ _ _ zz_R9) (cwV 0 hts gX4_countRead_X5_clear rfl rfl rfl (by decide +kernel) ⟨Nat.le_of_ble_eq_true rfl, Nat.le_of_ble_eq_true rfl⟩) (by decide) rfl rfl rfl rfl (Nat.le_of_ble_eq_true rfl) dX4_countRead_9 (fun M9 q9 => ?_)
  obtain ⟨f9, w9⟩ := q9
  refine zz_aload_n (pc := 12) E dX4_countRead_12 rfl ?_
  refine zz_gf (pc := 13) E 6 (by decide) rfl rfl inX4_countRead_X4 1 (by decide) lkX4_countRead_20 (fun _ h => h) rfl dX4_countRead_13 ?_
  refine zz_lload_n (pc := 16) E dX4_countRead_16 rfl ?_
  refine zz_cvV (pc := 17) E 9 (kkX5_putRowAhead l G hJ _ _ _ zz_R9 _ _ _ w9 (zok_mono hd (Nat.le_refl 3) (by decide)) (by omega) (by rw [List.length_nil]; omega)) (cwV 1 hts gX4_countRead_X5_putRowAhead rfl rfl rfl (by decide +kernel) ⟨Nat.le_of_ble_eq_true rfl, Nat.le_of_ble_eq_true rfl⟩) (by decide) rfl rfl rfl rfl (Nat.le_of_ble_eq_true rfl) dX4_countRead_17 (fun M17 q17 => ?_)
  obtain ⟨f17, w17⟩ := q17
  refine zz_iconst (pc := 20) (v := nI 0) E dX4_countRead_20 (by decide) ?_
  refine zz_istore (pc := 21) (lv' := [(0, _), (1, _), (2, _), (3, _), (5, _)]) E dX4_countRead_21 (by decide) rfl ?_
  have key : ∀ (j i : Nat) (M2 : zz_M) (L ls : List Nat), i + j = 12 → ls.length ≤ j → L.length ≤ 9 + 2 * i → (∀ x ∈ L, x < 6) → (∀ x ∈ ls, x < 3) → zfr [7, 8, 9, 10] M M2 → zrow M2 7 33 L → zrow M2 9 12 ls → zrd S (zr a) (zr d) = (i + (zrd S L ls).1, (zrd S L ls).2) → ls = (zr d).drop i → zz_Z p l e (headSpec wsX4_countRead ({ frames := 3, cells := 0, slots := 0, locals := 68 } : Room)).room s m ([.ref (G.2.2 6), .ref (G.2.2 1), .int (nI a), .long (lN d)] : List Value).toArray below meth c 0 0 (MQ below (zz_Qi G (fun r M1 => zfr [7, 8, 9, 10] M M1 ∧ r = nI (zrd S (zr a) (zr d)).1 ∧ zrow M1 7 33 (zrd S (zr a) (zr d)).2 ∧ zrow M1 9 12 ((zr d).drop (zrd S (zr a) (zr d)).1))) ([.ref (G.2.2 6), .ref (G.2.2 1), .int (nI a), .long (lN d)] : List Value).toArray s 0 0 (zz_A G)) 6 G (zz_A G) M2 23 [(0, .ref (G.2.2 6)), (1, .ref (G.2.2 1)), (5, .int (nI i))] [] := by
    intro j
    induction j with
    | zero =>
      intro i M2 L ls hi hls hL h6 h3 hf hw hv he hdr
      have hl0 : ls = [] := List.length_eq_zero_iff.mp (by omega)
      subst hl0
      have he1 : (zrd S (zr a) (zr d)).1 = i := by rw [he]; rfl
      have he2 : (zrd S (zr a) (zr d)).2 = L := by rw [he]; rfl
      refine zz_iload (pc := 23) E dX4_countRead_23 rfl ?_
      refine zz_bipush (pc := 25) (v := nI 12) E dX4_countRead_25 (by decide) ?_
      refine zn_icmp_ge (pc := 27) (tgt := 69) E dX4_countRead_27 (by decide) (by omega) (by omega) (fun h27 => ?_) (fun h27 => ?_)
      · refine zz_iload (pc := 69) E dX4_countRead_69 rfl ?_
        exact zz_iret (pc := 71) E hr hlk dX4_countRead_71 ⟨hf, by rw [he1], by rw [he2]; exact hw, by rw [he1, ← hdr]; exact hv⟩
      · exact absurd h27 (by omega)
    | succ j ih =>
      intro i M2 L ls hi hls hL h6 h3 hf hw hv he hdr
      have hS2 : ztab M2 1 S := ztab_fr hS hf (by decide) (by decide)
      refine zz_iload (pc := 23) E dX4_countRead_23 rfl ?_
      refine zz_bipush (pc := 25) (v := nI 12) E dX4_countRead_25 (by decide) ?_
      refine zn_icmp_ge (pc := 27) (tgt := 69) E dX4_countRead_27 (by decide) (by omega) (by omega) (fun h27 => ?_) (fun h27 => ?_)
      · exact absurd h27 (by omega)
      · refine zz_aload_n (pc := 30) E dX4_countRead_30 rfl ?_
        refine zz_gf (pc := 31) E 6 (by decide) rfl rfl inX4_countRead_X4 1 (by decide) lkX4_countRead_20 (fun _ h => h) rfl dX4_countRead_31 ?_
        refine zz_ciV (pc := 34) E 9 (kkX5_size l G hJ _ _ _ zz_R9) (cwV 0 hts gX4_countRead_X5_size rfl rfl rfl (by decide +kernel) ⟨Nat.le_of_ble_eq_true rfl, Nat.le_of_ble_eq_true rfl⟩) (by decide) rfl rfl rfl rfl (Nat.le_of_ble_eq_true rfl) dX4_countRead_34 (fun r34 M34 q34 => ?_)
        obtain ⟨rfl, rfl⟩ := q34
        refine zz_eqi (y := nI ls.length) hv.1 ?_
        refine zn_if_le (pc := 37) (tgt := 69) E dX4_countRead_37 (by decide) (by omega) (fun h37 => ?_) (fun h37 => ?_)
        · have hl0 : ls = [] := List.length_eq_zero_iff.mp (by omega)
          subst hl0
          have he1 : (zrd S (zr a) (zr d)).1 = i := by rw [he]; rfl
          have he2 : (zrd S (zr a) (zr d)).2 = L := by rw [he]; rfl
          refine zz_iload (pc := 69) E dX4_countRead_69 rfl ?_
          exact zz_iret (pc := 71) E hr hlk dX4_countRead_71 ⟨hf, by rw [he1], by rw [he2]; exact hw, by rw [he1, ← hdr]; exact hv⟩
        · obtain ⟨b, t, rfl⟩ : ∃ b t, ls = b :: t := by
            cases ls with
            | nil => exact absurd h37 (by simp)
            | cons b t => exact ⟨b, t, rfl⟩
          have hb3 := h3 b List.mem_cons_self
          refine zz_aload_n (pc := 40) E dX4_countRead_40 rfl ?_
          refine zz_aload_n (pc := 41) E dX4_countRead_41 rfl ?_
          refine zz_aload_n (pc := 42) E dX4_countRead_42 rfl ?_
          refine zz_gf (pc := 43) E 6 (by decide) rfl rfl inX4_countRead_X4 1 (by decide) lkX4_countRead_20 (fun _ h => h) rfl dX4_countRead_43 ?_
          refine zz_iconst (pc := 46) (v := nI 0) E dX4_countRead_46 (by decide) ?_
          refine zz_ciV (pc := 47) E 9 (kkX5_fromFirst l G hJ _ _ _ zz_R9 0 _ hv (by decide)) (cwV 1 hts gX4_countRead_X5_fromFirst rfl rfl rfl (by decide +kernel) ⟨Nat.le_of_ble_eq_true rfl, Nat.le_of_ble_eq_true rfl⟩) (by decide) rfl rfl rfl rfl (Nat.le_of_ble_eq_true rfl) dX4_countRead_47 (fun r47 M47 q47 => ?_)
          obtain ⟨rfl, rfl⟩ := q47
          refine zz_eqi (y := nI b) rfl ?_
          refine zz_ciV (pc := 50) E 6 (kkX4_step l G hJ _  S L b hV hS2 hw hb3 h6 (by omega)) (cwV 2 hts gX4_countRead_X4_step rfl rfl rfl (by decide +kernel) ⟨Nat.le_of_ble_eq_true rfl, Nat.le_of_ble_eq_true rfl⟩) (by decide) rfl rfl rfl rfl (Nat.le_of_ble_eq_true rfl) dX4_countRead_50 (fun r50 M50 q50 => ?_)
          obtain ⟨f50, rfl, w50⟩ := q50
          refine zb_if_eq (pc := 53) (tgt := 69) E dX4_countRead_53 (by decide) (fun h53 => ?_) (fun h53 => ?_)
          · rw [Option.isSome_eq_false_iff, Option.isNone_iff_eq_none] at h53
            rw [h53] at w50
            have he1 : (zrd S (zr a) (zr d)).1 = i := by rw [he, zrd, h53]; rfl
            have he2 : (zrd S (zr a) (zr d)).2 = L := by rw [he, zrd, h53]
            have hf := zfr_ct hf f50 (ks := [7, 8, 9, 10]) (fun _ h => h) (by simp)
            have hw := w50
            have hv := zrow_fr hv f50 (by decide) (by decide)
            refine zz_iload (pc := 69) E dX4_countRead_69 rfl ?_
            exact zz_iret (pc := 71) E hr hlk dX4_countRead_71 ⟨hf, by rw [he1], by rw [he2]; exact hw, by rw [he1, ← hdr]; exact hv⟩
          · obtain ⟨L1, hsm⟩ := Option.isSome_iff_exists.mp h53
            rw [hsm] at w50
            have hv := zrow_fr hv f50 (by decide) (by decide)
            refine zz_aload_n (pc := 56) E dX4_countRead_56 rfl ?_
            refine zz_gf (pc := 57) E 6 (by decide) rfl rfl inX4_countRead_X4 1 (by decide) lkX4_countRead_20 (fun _ h => h) rfl dX4_countRead_57 ?_
            refine zz_cvV (pc := 60) E 9 (kkX5_dropFirst l G hJ _ _ _ zz_R9 _ hv) (cwV 0 hts gX4_countRead_X5_dropFirst rfl rfl rfl (by decide +kernel) ⟨Nat.le_of_ble_eq_true rfl, Nat.le_of_ble_eq_true rfl⟩) (by decide) rfl rfl rfl rfl (Nat.le_of_ble_eq_true rfl) dX4_countRead_60 (fun M60 q60 => ?_)
            obtain ⟨f60, w60⟩ := q60
            refine zn_inc (pc := 63) (lv' := [(0, _), (1, _), (5, _)]) E dX4_countRead_63 rfl (by decide) rfl ?_
            refine zz_goto (pc := 66) (tgt := 23) E dX4_countRead_66 (by decide) ?_
            have hst := zstep_ok hV hb3 h6 hsm
            exact zz_to (ih (i + 1) M60 L1 t (by omega) (by rw [List.length_cons] at hls; omega) (by omega) hst.1 (fun x hx => h3 x (List.mem_cons_of_mem _ hx)) (zfr_ct (zfr_ct hf f50 (fun _ h => h) (by simp)) f60 (fun _ h => h) (by simp)) (zrow_fr w50 f60 (by decide) (by decide)) w60 (by rw [he, zrd, hsm]; show (i + ((zrd S L1 t).1 + 1), _) = _; rw [Nat.add_assoc, Nat.add_comm 1]) (by rw [← List.drop_drop, ← hdr]; rfl)) ⟨rfl, rfl, rfl, trivial⟩
  exact zz_to (key 12 0 M17 (zr a) (zr d) (by omega) (by rw [zr_len]; omega) (by rw [zr_len]; omega) (zr_lt ha) (zr_lt hd) (zfr_ct (zfr_ct f2 f9 (fun _ h => List.mem_append_left _ h) (fun _ h => List.mem_append_right [7, 8] h)) f17 (by simp) (by simp)) (zrow_fr (zrow_fr w2 f9 (by decide) (by decide)) f17 (by decide) (by decide)) (by rw [List.append_nil] at w17; exact w17) (by rw [Nat.zero_add]) rfl) ⟨rfl, rfl, rfl, trivial⟩

theorem inX4_readsToEnd_X4 : ∀ w ∈ u_ws RX4 TX4 2, w ∈ wsX4_readsToEnd := by decide +kernel
theorem lkX4_readsToEnd_20 : Cond.fieldLink RX4 20 RX4 "ahead" "LFirstSigns$Row;" ∈ wsX4_readsToEnd := by decide +kernel
set_option maxHeartbeats 4000000 in
set_option maxRecDepth 100000 in
theorem kkX4_readsToEnd (l : Launch) (G : zz_C) (hJ : zz_J G) (M : zz_M) (K : List Nat) (hK : zrow M 9 12 K) : Met l yX4_readsToEnd wsX4_readsToEnd ({ frames := 1, cells := 0, slots := 0, locals := 20 } : Room) (zz_P G M [.ref (G.2.2 6)]) (zz_Qi G (fun r M1 => M = M1 ∧ r = zz_b (decide (K.length = 0)))) 0 0 (zz_A G) := by
  refine zz_start hJ (by decide) rfl (Nat.le_of_ble_eq_true rfl) ?_
  intro p e s m below meth c E hr hlk
  have hts := E.2.2.2.2.1
  show zz_Z p l e (headSpec wsX4_readsToEnd ({ frames := 1, cells := 0, slots := 0, locals := 20 } : Room)).room s m ([.ref (G.2.2 6)] : List Value).toArray below meth c 0 0 (MQ below (zz_Qi G (fun r M1 => M = M1 ∧ r = zz_b (decide (K.length = 0)))) ([.ref (G.2.2 6)] : List Value).toArray s 0 0 (zz_A G)) 1 G (zz_A G) M 0 [(0, .ref (G.2.2 6))] []
  have hc := hK.2.1
  refine zz_aload_n (pc := 0) E dX4_readsToEnd_0 rfl ?_
  refine zz_gf (pc := 1) E 6 (by decide) rfl rfl inX4_readsToEnd_X4 1 (by decide) lkX4_readsToEnd_20 (fun _ h => h) rfl dX4_readsToEnd_1 ?_
  refine zz_ciV (pc := 4) E 9 (kkX5_size l G hJ _ _ _ zz_R9) (cwV 0 hts gX4_readsToEnd_X5_size rfl rfl rfl (by decide +kernel) ⟨Nat.le_of_ble_eq_true rfl, Nat.le_of_ble_eq_true rfl⟩) (by decide) rfl rfl rfl rfl (Nat.le_of_ble_eq_true rfl) dX4_readsToEnd_4 (fun r4 M4 q4 => ?_)
  obtain ⟨rfl, rfl⟩ := q4
  refine zz_eqi (y := nI K.length) hK.1 ?_
  refine zn_if_ne (pc := 7) (tgt := 14) E dX4_readsToEnd_7 (by decide) (by omega) (fun h7 => ?_) (fun h7 => ?_)
  · refine zz_iconst (pc := 14) (v := nI 0) E dX4_readsToEnd_14 (by decide) ?_
    exact zz_zret (pc := 15) E hr hlk dX4_readsToEnd_15 (by decide) ⟨rfl, by first | (rw [decide_eq_true h7]; rfl) | (rw [decide_eq_false h7]; rfl)⟩
  · refine zz_iconst (pc := 10) (v := nI 1) E dX4_readsToEnd_10 (by decide) ?_
    refine zz_goto (pc := 11) (tgt := 15) E dX4_readsToEnd_11 (by decide) ?_
    exact zz_zret (pc := 15) E hr hlk dX4_readsToEnd_15 (by decide) ⟨rfl, by first | (rw [decide_eq_true h7]; rfl) | (rw [decide_eq_false h7]; rfl)⟩
