theorem inX3_init_X3 : ∀ w ∈ u_ws RX3 TX3 3, w ∈ wsX3_init := by decide +kernel
theorem inX3_init_X6 : ∀ w ∈ u_ws RX6 TX6 2, w ∈ wsX3_init := by decide +kernel
set_option maxRecDepth 100000 in
set_option maxHeartbeats 2000000 in
theorem ktX3_init (l : Launch) (G : zz_C) (b : Nat) : Met l yX3_init wsX3_init ({ frames := 2, cells := 61, slots := 540, locals := 60 } : Room) (yy_C G b [.inr (3, [.null, .int 0, .int 0])] [.ref b]) (yy_Q G b (yy_past G b)) 61 540 (fun q => b ≤ q) := by
  refine yy_start (cc := cX3_init) (maxL := 2) (ws' := _) (by decide +kernel) rfl (Nat.le_of_ble_eq_true rfl) ?_
  intro p e s m below meth c E hr hlk hnm
  have hts := E.2.2.2.2.1
  show yy_Z p l e (headSpec wsX3_init ({ frames := 2, cells := 61, slots := 540, locals := 60 } : Room)).room s m ([.ref b] : List Value).toArray below meth c 0 0 (MQ below (yy_Q G b (yy_past G b)) ([.ref b] : List Value).toArray s (61) (540) (fun q => b ≤ q)) 2 G b [.inr (3, [.null, .int 0, .int 0])] 0 (lv_args 0 [.ref b]) []
  refine yy_aload_n (pc := 0) E dX3_init_0 rfl ?_
  refine yy_obj (pc := 1) E (by decide +kernel) (by decide +kernel) (by decide +kernel) (Nat.le_of_ble_eq_true rfl) (Nat.le_of_ble_eq_true rfl) dX3_init_1 ?_
  refine yy_aload_n (pc := 4) E dX3_init_4 rfl ?_
  refine yy_bipush (pc := 5) (v := nI 20) E dX3_init_5 (by decide) ?_
  refine yy_anew (pc := 7) (t := 2) (cA0 := G.2.1 2) (N := 20) (q := b + 1) E (by decide +kernel) E.2.2.2.2.2.1.2.2.2.1 rfl (by decide) (by decide) (by decide) (Nat.le_of_ble_eq_true rfl) (Nat.le_of_ble_eq_true rfl) dX3_init_7 rfl ?_
  refine yy_pf (pc := 10) (L0 := [yy_rq (G.2.1 2) 20 (fun _ => none)]) E hnm rfl rfl inX3_init_X3 tyX3 tyX3_ok nmX3 0 (by decide) (by decide +kernel) (fun _ h => h) rfl rfl rfl rfl rfl (Nat.le_of_ble_eq_true rfl) dX3_init_10 ?_
  refine yy_iconst (pc := 13) (v := nI 0) E dX3_init_13 (by decide) ?_
  refine yy_istore_n (pc := 14) (lv' := [(0, _), (1, _)]) E dX3_init_14 (by decide) rfl ?_
  have key : ∀ (k i : Nat), i + k = 20 → yy_Z p l e (headSpec wsX3_init ({ frames := 2, cells := 61, slots := 540, locals := 60 } : Room)).room s m ([.ref b] : List Value).toArray below meth c  (1 + 3 * i) (20 + 26 * i) (MQ below (yy_Q G b (yy_past G b)) ([.ref b] : List Value).toArray s 61 540 (fun q => b ≤ q)) 2 G b (.inr (3, [.ref (b + 1), .int 0, .int 0]) :: yy_rq (G.2.1 2) 20 (yy_u i (fun q => b + 2 + 3 * q)) :: yy_tabs G (b + 2) i) 15 [(0, .ref b), (1, .int (nI i))] [] := by
    intro k
    induction k with
    | zero =>
      intro i hi
      obtain rfl : i = 20 := by omega
      refine yy_iload_n (pc := 15) E dX3_init_15 rfl ?_
      refine yy_bipush (pc := 16) (v := nI 20) E dX3_init_16 (by decide) ?_
      refine yn_icmp_ge (pc := 18) (tgt := 40) E dX3_init_18 (by decide) (by omega) (by omega) (fun h7 => ?_) (fun h7 => absurd h7 (by omega))
      exact yy_vret (pc := 40) E hr hlk dX3_init_40 rfl
    | succ k ih =>
      intro i hi
      refine yy_iload_n (pc := 15) E dX3_init_15 rfl ?_
      refine yy_bipush (pc := 16) (v := nI 20) E dX3_init_16 (by decide) ?_
      refine yn_icmp_ge (pc := 18) (tgt := 40) E dX3_init_18 (by decide) (by omega) (by omega) (fun h7 => absurd h7 (by omega)) (fun h7 => ?_)
      refine yy_aload_n (pc := 21) E dX3_init_21 rfl ?_
      refine yy_gf (pc := 22) E 0 rfl rfl rfl inX3_init_X3 0 (by decide) (by decide +kernel) (fun _ h => h) rfl dX3_init_22 ?_
      refine yy_iload_n (pc := 25) E dX3_init_25 rfl ?_
      refine yy_new (pc := 26) (ci := 6) (C := RX6) (T := TX6) (N := 2) (fs := [.null, .null]) (q := b + 2 + 3 * i) E inX3_init_X6 tyX6 tyX6_ok (by decide +kernel) (by decide +kernel) (by decide +kernel) rfl (by decide +kernel) (by show _ ≤ 61; omega) (by show _ ≤ 540; omega) dX3_init_26 (by rw [List.length_cons, List.length_cons, yl_tabs]; omega) ?_
      refine yy_dup (pc := 29) E dX3_init_29 rfl ?_
      refine yy_cI (pc := 30) (As := []) (L0 := (.inr (3, [.ref (b + 1), .int 0, .int 0]) :: yy_rq (G.2.1 2) 20 (yy_u i (fun q => b + 2 + 3 * q)) :: yy_tabs G (b + 2) i)) E (ktX6_init l G (b + 2 + 3 * i)) (cwI 0 hts gX3_init_X6_init rfl rfl rfl (hts (.initialized RX6) (by decide +kernel)) (hts (.methodLink RX3 17 yX6_init) (by decide +kernel)) (hts (.instanceMethod yX6_init) (by decide +kernel)) rfl (by decide +kernel) ⟨Nat.le_of_ble_eq_true rfl, Nat.le_of_ble_eq_true rfl⟩) rfl (by rw [List.length_cons, List.length_cons, yl_tabs]; omega) rfl rfl (Nat.le_of_ble_eq_true rfl) dX3_init_30 ⟨(by show _ ≤ 61; omega), (by show _ ≤ 540; omega)⟩ ?_
      refine yy_aast (pc := 33) (ci := 6) (t := 2) (i := i) (r := (RX6, TX6, 2)) (f := yy_u i (fun q => b + 2 + 3 * q)) E 1 (2 + 3 * i) rfl (by omega) rfl rfl (vs := [.ref (b + 2 + 3 * i + 1), .ref (b + 2 + 3 * i + 2)]) (by rw [List.getElem?_append_right (by rw [List.length_cons, List.length_cons, yl_tabs]; omega), List.length_cons, List.length_cons, yl_tabs, show 2 + 3 * i - (3 * i + 1 + 1) = 0 by omega]; rfl) rfl h7 (by decide) dX3_init_33 ?_
      refine yy_re (L' := (.inr (3, [.ref (b + 1), .int 0, .int 0]) :: yy_rq (G.2.1 2) 20 (yy_u (i + 1) (fun q => b + 2 + 3 * q)) :: yy_tabs G (b + 2) (i + 1))) (cells' := 1 + 3 * (i + 1)) (slots' := 20 + 26 * (i + 1)) (by rw [← yy_u_up i (fun q => b + 2 + 3 * q)]; rfl) (by omega) (by omega) ?_
      refine yy_iinc (pc := 34) (v := nI (i + 1)) (lv' := [(0, _), (1, _)]) E dX3_init_34 rfl (nI_1 i) (by decide) rfl ?_
      refine yy_goto (pc := 37) (tgt := 15) E dX3_init_37 (by decide) ?_
      exact ih (i + 1) (by omega)
  exact key 20 0 (by omega)

theorem inX1_init_X1 : ∀ w ∈ u_ws RX1 TX1 1, w ∈ wsX1_init := by decide +kernel
theorem inX1_init_X5 : ∀ w ∈ u_ws RX5 TX5 2, w ∈ wsX1_init := by decide +kernel
set_option maxRecDepth 100000 in
set_option maxHeartbeats 2000000 in
theorem ktX1_init (l : Launch) (G : zz_C) (b : Nat) : Met l yX1_init wsX1_init ({ frames := 2, cells := 13, slots := 1476, locals := 60 } : Room) (yy_C G b [.inr (1, [.null])] [.ref b]) (yy_Q G b (yy_forms G b)) 13 1476 (fun q => b ≤ q) := by
  refine yy_start (cc := cX1_init) (maxL := 2) (ws' := _) (by decide +kernel) rfl (Nat.le_of_ble_eq_true rfl) ?_
  intro p e s m below meth c E hr hlk hnm
  have hts := E.2.2.2.2.1
  show yy_Z p l e (headSpec wsX1_init ({ frames := 2, cells := 13, slots := 1476, locals := 60 } : Room)).room s m ([.ref b] : List Value).toArray below meth c 0 0 (MQ below (yy_Q G b (yy_forms G b)) ([.ref b] : List Value).toArray s (13) (1476) (fun q => b ≤ q)) 2 G b [.inr (1, [.null])] 0 (lv_args 0 [.ref b]) []
  refine yy_aload_n (pc := 0) E dX1_init_0 rfl ?_
  refine yy_obj (pc := 1) E (by decide +kernel) (by decide +kernel) (by decide +kernel) (Nat.le_of_ble_eq_true rfl) (Nat.le_of_ble_eq_true rfl) dX1_init_1 ?_
  refine yy_aload_n (pc := 4) E dX1_init_4 rfl ?_
  refine yy_bipush (pc := 5) (v := nI 6) E dX1_init_5 (by decide) ?_
  refine yy_anew (pc := 7) (t := 1) (cA0 := G.2.1 1) (N := 6) (q := b + 1) E (by decide +kernel) E.2.2.2.2.2.1.2.2.1 rfl (by decide) (by decide) (by decide) (Nat.le_of_ble_eq_true rfl) (Nat.le_of_ble_eq_true rfl) dX1_init_7 rfl ?_
  refine yy_pf (pc := 10) (L0 := [yy_rq (G.2.1 1) 6 (fun _ => none)]) E hnm rfl rfl inX1_init_X1 tyX1 tyX1_ok nmX1 0 (by decide) (by decide +kernel) (fun _ h => h) rfl rfl rfl rfl rfl (Nat.le_of_ble_eq_true rfl) dX1_init_10 ?_
  refine yy_iconst (pc := 13) (v := nI 0) E dX1_init_13 (by decide) ?_
  refine yy_istore_n (pc := 14) (lv' := [(0, _), (1, _)]) E dX1_init_14 (by decide) rfl ?_
  have key : ∀ (k i : Nat), i + k = 6 → yy_Z p l e (headSpec wsX1_init ({ frames := 2, cells := 13, slots := 1476, locals := 60 } : Room)).room s m ([.ref b] : List Value).toArray below meth c  (1 + 2 * i) (6 + 245 * i) (MQ below (yy_Q G b (yy_forms G b)) ([.ref b] : List Value).toArray s 13 1476 (fun q => b ≤ q)) 2 G b (.inr (1, [.ref (b + 1)]) :: yy_rq (G.2.1 1) 6 (yy_u i (fun q => b + 2 + 2 * q)) :: yy_rows G (b + 2) i) 15 [(0, .ref b), (1, .int (nI i))] [] := by
    intro k
    induction k with
    | zero =>
      intro i hi
      obtain rfl : i = 6 := by omega
      refine yy_iload_n (pc := 15) E dX1_init_15 rfl ?_
      refine yy_bipush (pc := 16) (v := nI 6) E dX1_init_16 (by decide) ?_
      refine yn_icmp_ge (pc := 18) (tgt := 43) E dX1_init_18 (by decide) (by omega) (by omega) (fun h7 => ?_) (fun h7 => absurd h7 (by omega))
      exact yy_vret (pc := 43) E hr hlk dX1_init_43 rfl
    | succ k ih =>
      intro i hi
      refine yy_iload_n (pc := 15) E dX1_init_15 rfl ?_
      refine yy_bipush (pc := 16) (v := nI 6) E dX1_init_16 (by decide) ?_
      refine yn_icmp_ge (pc := 18) (tgt := 43) E dX1_init_18 (by decide) (by omega) (by omega) (fun h7 => absurd h7 (by omega)) (fun h7 => ?_)
      refine yy_aload_n (pc := 21) E dX1_init_21 rfl ?_
      refine yy_gf (pc := 22) E 0 rfl rfl rfl inX1_init_X1 0 (by decide) (by decide +kernel) (fun _ h => h) rfl dX1_init_22 ?_
      refine yy_iload_n (pc := 25) E dX1_init_25 rfl ?_
      refine yy_new (pc := 26) (ci := 5) (C := RX5) (T := TX5) (N := 2) (fs := [.null, .int 0]) (q := b + 2 + 2 * i) E inX1_init_X5 tyX5 tyX5_ok (by decide +kernel) (by decide +kernel) (by decide +kernel) rfl (by decide +kernel) (by show _ ≤ 13; omega) (by show _ ≤ 1476; omega) dX1_init_26 (by rw [List.length_cons, List.length_cons, yl_rows]; omega) ?_
      refine yy_dup (pc := 29) E dX1_init_29 rfl ?_
      refine yy_sipush (pc := 30) (v := nI 243) E dX1_init_30 (by decide) ?_
      refine yy_cI (pc := 33) (As := [.int (nI 243)]) (L0 := (.inr (1, [.ref (b + 1)]) :: yy_rq (G.2.1 1) 6 (yy_u i (fun q => b + 2 + 2 * q)) :: yy_rows G (b + 2) i)) E (ktX5_init l G (b + 2 + 2 * i) 243 (by decide)) (cwI 1 hts gX1_init_X5_init rfl rfl rfl (hts (.initialized RX5) (by decide +kernel)) (hts (.methodLink RX1 17 yX5_init) (by decide +kernel)) (hts (.instanceMethod yX5_init) (by decide +kernel)) rfl (by decide +kernel) ⟨Nat.le_of_ble_eq_true rfl, Nat.le_of_ble_eq_true rfl⟩) rfl (by rw [List.length_cons, List.length_cons, yl_rows]; omega) rfl rfl (Nat.le_of_ble_eq_true rfl) dX1_init_33 ⟨(by show _ ≤ 13; omega), (by show _ ≤ 1476; omega)⟩ ?_
      refine yy_aast (pc := 36) (ci := 5) (t := 1) (i := i) (r := (RX5, TX5, 2)) (f := yy_u i (fun q => b + 2 + 2 * q)) E 1 (2 + 2 * i) rfl (by omega) rfl rfl (vs := [.ref (b + 2 + 2 * i + 1), .int 0]) (by rw [List.getElem?_append_right (by rw [List.length_cons, List.length_cons, yl_rows]; omega), List.length_cons, List.length_cons, yl_rows, show 2 + 2 * i - (2 * i + 1 + 1) = 0 by omega]; rfl) rfl h7 (by decide) dX1_init_36 ?_
      refine yy_re (L' := (.inr (1, [.ref (b + 1)]) :: yy_rq (G.2.1 1) 6 (yy_u (i + 1) (fun q => b + 2 + 2 * q)) :: yy_rows G (b + 2) (i + 1))) (cells' := 1 + 2 * (i + 1)) (slots' := 6 + 245 * (i + 1)) (by rw [← yy_u_up i (fun q => b + 2 + 2 * q)]; rfl) (by omega) (by omega) ?_
      refine yy_iinc (pc := 37) (v := nI (i + 1)) (lv' := [(0, _), (1, _)]) E dX1_init_37 rfl (nI_1 i) (by decide) rfl ?_
      refine yy_goto (pc := 40) (tgt := 15) E dX1_init_40 (by decide) ?_
      exact ih (i + 1) (by omega)
  exact key 6 0 (by omega)

theorem inX7_init_X7 : ∀ w ∈ u_ws RX7 TX7 8, w ∈ wsX7_init := by decide +kernel
theorem inX7_init_X6 : ∀ w ∈ u_ws RX6 TX6 2, w ∈ wsX7_init := by decide +kernel
theorem inX7_init_X3 : ∀ w ∈ u_ws RX3 TX3 3, w ∈ wsX7_init := by decide +kernel
theorem inX7_init_X4 : ∀ w ∈ u_ws RX4 TX4 2, w ∈ wsX7_init := by decide +kernel
theorem inX7_init_X2 : ∀ w ∈ u_ws RX2 TX2 1, w ∈ wsX7_init := by decide +kernel
theorem inX7_init_X0 : ∀ w ∈ u_ws RX0 TX0 2, w ∈ wsX7_init := by decide +kernel
theorem inX7_init_X1 : ∀ w ∈ u_ws RX1 TX1 1, w ∈ wsX7_init := by decide +kernel
theorem inX7_init_X5 : ∀ w ∈ u_ws RX5 TX5 2, w ∈ wsX7_init := by decide +kernel
set_option maxRecDepth 100000 in
set_option maxHeartbeats 2000000 in
theorem ktX7_init (l : Launch) (G : zz_C) (b : Nat) : Met l yX7_init wsX7_init ({ frames := 3, cells := 99, slots := 6581, locals := 100 } : Room) (yy_C G b [.inr (7, [.null, .null, .null, .null, .null, .null, .null, .null])] [.ref b]) (yy_Q G b (yy_own G b)) 99 6581 (fun q => b ≤ q) := by
  refine yy_start (cc := cX7_init) (maxL := 1) (ws' := _) (by decide +kernel) rfl (Nat.le_of_ble_eq_true rfl) ?_
  intro p e s m below meth c E hr hlk hnm
  have hts := E.2.2.2.2.1
  show yy_Z p l e (headSpec wsX7_init ({ frames := 3, cells := 99, slots := 6581, locals := 100 } : Room)).room s m ([.ref b] : List Value).toArray below meth c 0 0 (MQ below (yy_Q G b (yy_own G b)) ([.ref b] : List Value).toArray s (99) (6581) (fun q => b ≤ q)) 1 G b [.inr (7, [.null, .null, .null, .null, .null, .null, .null, .null])] 0 (lv_args 0 [.ref b]) []
  refine yy_aload_n (pc := 0) E dX7_init_0 rfl ?_
  refine yy_obj (pc := 1) E (by decide +kernel) (by decide +kernel) (by decide +kernel) (Nat.le_of_ble_eq_true rfl) (Nat.le_of_ble_eq_true rfl) dX7_init_1 ?_
  refine yy_aload_n (pc := 4) E dX7_init_4 rfl ?_
  refine yy_new (pc := 5) (ci := 6) (C := RX6) (T := TX6) (N := 2) (fs := [.null, .null]) (q := b + 1) E inX7_init_X6 tyX6 tyX6_ok (by decide +kernel) (by decide +kernel) (by decide +kernel) rfl (by decide +kernel) (Nat.le_of_ble_eq_true rfl) (Nat.le_of_ble_eq_true rfl) dX7_init_5 (by simp only [List.length_cons, List.length_append, List.length_nil, yl_tab, yl_past, yl_read, yl_norm, yl_cnt, yl_forms, yl_row]) ?_
  refine yy_dup (pc := 8) E dX7_init_8 rfl ?_
  refine yy_cI (pc := 9) (As := []) (L0 := [.inr (7, [.null, .null, .null, .null, .null, .null, .null, .null])]) E (ktX6_init l G (b + 1)) (cwI 0 hts gX7_init_X6_init rfl rfl rfl (hts (.initialized RX6) (by decide +kernel)) (hts (.methodLink RX7 11 yX6_init) (by decide +kernel)) (hts (.instanceMethod yX6_init) (by decide +kernel)) rfl (by decide +kernel) ⟨Nat.le_of_ble_eq_true rfl, Nat.le_of_ble_eq_true rfl⟩) rfl (by simp only [List.length_cons, List.length_append, List.length_nil, yl_tab, yl_past, yl_read, yl_norm, yl_cnt, yl_forms, yl_row]) rfl rfl (Nat.le_of_ble_eq_true rfl) dX7_init_9 ⟨(Nat.le_of_ble_eq_true rfl), (Nat.le_of_ble_eq_true rfl)⟩ ?_
  refine yy_pf (pc := 12) (L0 := yy_tab G (b + 1)) E hnm rfl rfl inX7_init_X7 tyX7 tyX7_ok nmX7 0 (by decide) (by decide +kernel) (fun _ h => h) rfl rfl rfl rfl rfl (Nat.le_of_ble_eq_true rfl) dX7_init_12 ?_
  refine yy_aload_n (pc := 15) E dX7_init_15 rfl ?_
  refine yy_new (pc := 16) (ci := 3) (C := RX3) (T := TX3) (N := 3) (fs := [.null, .int 0, .int 0]) (q := b + 4) E inX7_init_X3 tyX3 tyX3_ok (by decide +kernel) (by decide +kernel) (by decide +kernel) rfl (by decide +kernel) (Nat.le_of_ble_eq_true rfl) (Nat.le_of_ble_eq_true rfl) dX7_init_16 (by simp only [List.length_cons, List.length_append, List.length_nil, yl_tab, yl_past, yl_read, yl_norm, yl_cnt, yl_forms, yl_row]) ?_
  refine yy_dup (pc := 19) E dX7_init_19 rfl ?_
  refine yy_cI (pc := 20) (As := []) (L0 := .inr (7, [.ref (b + 1), .null, .null, .null, .null, .null, .null, .null]) :: yy_tab G (b + 1)) E (ktX3_init l G (b + 4)) (cwI 0 hts gX7_init_X3_init rfl rfl rfl (hts (.initialized RX3) (by decide +kernel)) (hts (.methodLink RX7 20 yX3_init) (by decide +kernel)) (hts (.instanceMethod yX3_init) (by decide +kernel)) rfl (by decide +kernel) ⟨Nat.le_of_ble_eq_true rfl, Nat.le_of_ble_eq_true rfl⟩) rfl (by simp only [List.length_cons, List.length_append, List.length_nil, yl_tab, yl_past, yl_read, yl_norm, yl_cnt, yl_forms, yl_row]) rfl rfl (Nat.le_of_ble_eq_true rfl) dX7_init_20 ⟨(Nat.le_of_ble_eq_true rfl), (Nat.le_of_ble_eq_true rfl)⟩ ?_
  refine yy_pf (pc := 23) (L0 := (yy_tab G (b + 1) ++ yy_past G (b + 4))) E hnm rfl rfl inX7_init_X7 tyX7 tyX7_ok nmX7 1 (by decide) (by decide +kernel) (fun _ h => h) rfl rfl rfl rfl rfl (Nat.le_of_ble_eq_true rfl) dX7_init_23 ?_
  refine yy_aload_n (pc := 26) E dX7_init_26 rfl ?_
  refine yy_new (pc := 27) (ci := 4) (C := RX4) (T := TX4) (N := 2) (fs := [.null, .null]) (q := b + 66) E inX7_init_X4 tyX4 tyX4_ok (by decide +kernel) (by decide +kernel) (by decide +kernel) rfl (by decide +kernel) (Nat.le_of_ble_eq_true rfl) (Nat.le_of_ble_eq_true rfl) dX7_init_27 (by simp only [List.length_cons, List.length_append, List.length_nil, yl_tab, yl_past, yl_read, yl_norm, yl_cnt, yl_forms, yl_row]) ?_
  refine yy_dup (pc := 30) E dX7_init_30 rfl ?_
  refine yy_cIN (pc := 31) (As := []) (L0 := .inr (7, [.ref (b + 1), .ref (b + 4), .null, .null, .null, .null, .null, .null]) :: (yy_tab G (b + 1) ++ yy_past G (b + 4))) E (ktX4_init l G (b + 66)) ⟨va_cnB 0 hts gX7_init_X4_init_n27 rfl rfl rfl E.2.2.2.2.2.1.2.1.1 (hts (.initialized RX4) (by decide +kernel)) (by decide +kernel) ⟨Nat.le_of_ble_eq_true rfl, Nat.le_of_ble_eq_true rfl⟩, rfl, hts (.instanceMethod yX4_init) (by decide +kernel)⟩ rfl (by simp only [List.length_cons, List.length_append, List.length_nil, yl_tab, yl_past, yl_read, yl_norm, yl_cnt, yl_forms, yl_row]) rfl rfl (Nat.le_of_ble_eq_true rfl) dX7_init_31 ⟨Nat.le_of_ble_eq_true rfl, Nat.le_of_ble_eq_true rfl⟩ ?_
  refine yy_pf (pc := 34) (L0 := ((yy_tab G (b + 1) ++ yy_past G (b + 4)) ++ yy_read G (b + 66))) E hnm rfl rfl inX7_init_X7 tyX7 tyX7_ok nmX7 2 (by decide) (by decide +kernel) (fun _ h => h) rfl rfl rfl rfl rfl (Nat.le_of_ble_eq_true rfl) dX7_init_34 ?_
  refine yy_aload_n (pc := 37) E dX7_init_37 rfl ?_
  refine yy_new (pc := 38) (ci := 2) (C := RX2) (T := TX2) (N := 1) (fs := [.null]) (q := b + 71) E inX7_init_X2 tyX2 tyX2_ok (by decide +kernel) (by decide +kernel) (by decide +kernel) rfl (by decide +kernel) (Nat.le_of_ble_eq_true rfl) (Nat.le_of_ble_eq_true rfl) dX7_init_38 (by simp only [List.length_cons, List.length_append, List.length_nil, yl_tab, yl_past, yl_read, yl_norm, yl_cnt, yl_forms, yl_row]) ?_
  refine yy_dup (pc := 41) E dX7_init_41 rfl ?_
  refine yy_cIN (pc := 42) (As := []) (L0 := .inr (7, [.ref (b + 1), .ref (b + 4), .ref (b + 66), .null, .null, .null, .null, .null]) :: ((yy_tab G (b + 1) ++ yy_past G (b + 4)) ++ yy_read G (b + 66))) E (ktX2_init l G (b + 71)) ⟨va_cnB 0 hts gX7_init_X2_init_n34 rfl rfl rfl E.2.2.2.2.2.1.2.1.2.1 (hts (.initialized RX2) (by decide +kernel)) (by decide +kernel) ⟨Nat.le_of_ble_eq_true rfl, Nat.le_of_ble_eq_true rfl⟩, rfl, hts (.instanceMethod yX2_init) (by decide +kernel)⟩ rfl (by simp only [List.length_cons, List.length_append, List.length_nil, yl_tab, yl_past, yl_read, yl_norm, yl_cnt, yl_forms, yl_row]) rfl rfl (Nat.le_of_ble_eq_true rfl) dX7_init_42 ⟨Nat.le_of_ble_eq_true rfl, Nat.le_of_ble_eq_true rfl⟩ ?_
  refine yy_pf (pc := 45) (L0 := (((yy_tab G (b + 1) ++ yy_past G (b + 4)) ++ yy_read G (b + 66)) ++ yy_norm G (b + 71))) E hnm rfl rfl inX7_init_X7 tyX7 tyX7_ok nmX7 3 (by decide) (by decide +kernel) (fun _ h => h) rfl rfl rfl rfl rfl (Nat.le_of_ble_eq_true rfl) dX7_init_45 ?_
  refine yy_aload_n (pc := 48) E dX7_init_48 rfl ?_
  refine yy_new (pc := 49) (ci := 0) (C := RX0) (T := TX0) (N := 2) (fs := [.null, .null]) (q := b + 73) E inX7_init_X0 tyX0 tyX0_ok (by decide +kernel) (by decide +kernel) (by decide +kernel) rfl (by decide +kernel) (Nat.le_of_ble_eq_true rfl) (Nat.le_of_ble_eq_true rfl) dX7_init_49 (by simp only [List.length_cons, List.length_append, List.length_nil, yl_tab, yl_past, yl_read, yl_norm, yl_cnt, yl_forms, yl_row]) ?_
  refine yy_dup (pc := 52) E dX7_init_52 rfl ?_
  refine yy_cIN (pc := 53) (As := []) (L0 := .inr (7, [.ref (b + 1), .ref (b + 4), .ref (b + 66), .ref (b + 71), .null, .null, .null, .null]) :: (((yy_tab G (b + 1) ++ yy_past G (b + 4)) ++ yy_read G (b + 66)) ++ yy_norm G (b + 71))) E (ktX0_init l G (b + 73)) ⟨va_cnB 0 hts gX7_init_X0_init_n41 rfl rfl rfl E.2.2.2.2.2.1.2.1.2.2 (hts (.initialized RX0) (by decide +kernel)) (by decide +kernel) ⟨Nat.le_of_ble_eq_true rfl, Nat.le_of_ble_eq_true rfl⟩, rfl, hts (.instanceMethod yX0_init) (by decide +kernel)⟩ rfl (by simp only [List.length_cons, List.length_append, List.length_nil, yl_tab, yl_past, yl_read, yl_norm, yl_cnt, yl_forms, yl_row]) rfl rfl (Nat.le_of_ble_eq_true rfl) dX7_init_53 ⟨Nat.le_of_ble_eq_true rfl, Nat.le_of_ble_eq_true rfl⟩ ?_
  refine yy_pf (pc := 56) (L0 := ((((yy_tab G (b + 1) ++ yy_past G (b + 4)) ++ yy_read G (b + 66)) ++ yy_norm G (b + 71)) ++ yy_cnt G (b + 73))) E hnm rfl rfl inX7_init_X7 tyX7 tyX7_ok nmX7 4 (by decide) (by decide +kernel) (fun _ h => h) rfl rfl rfl rfl rfl (Nat.le_of_ble_eq_true rfl) dX7_init_56 ?_
  refine yy_aload_n (pc := 59) E dX7_init_59 rfl ?_
  refine yy_new (pc := 60) (ci := 1) (C := RX1) (T := TX1) (N := 1) (fs := [.null]) (q := b + 82) E inX7_init_X1 tyX1 tyX1_ok (by decide +kernel) (by decide +kernel) (by decide +kernel) rfl (by decide +kernel) (Nat.le_of_ble_eq_true rfl) (Nat.le_of_ble_eq_true rfl) dX7_init_60 (by simp only [List.length_cons, List.length_append, List.length_nil, yl_tab, yl_past, yl_read, yl_norm, yl_cnt, yl_forms, yl_row]) ?_
  refine yy_dup (pc := 63) E dX7_init_63 rfl ?_
  refine yy_cI (pc := 64) (As := []) (L0 := .inr (7, [.ref (b + 1), .ref (b + 4), .ref (b + 66), .ref (b + 71), .ref (b + 73), .null, .null, .null]) :: ((((yy_tab G (b + 1) ++ yy_past G (b + 4)) ++ yy_read G (b + 66)) ++ yy_norm G (b + 71)) ++ yy_cnt G (b + 73))) E (ktX1_init l G (b + 82)) (cwI 0 hts gX7_init_X1_init rfl rfl rfl (hts (.initialized RX1) (by decide +kernel)) (hts (.methodLink RX7 48 yX1_init) (by decide +kernel)) (hts (.instanceMethod yX1_init) (by decide +kernel)) rfl (by decide +kernel) ⟨Nat.le_of_ble_eq_true rfl, Nat.le_of_ble_eq_true rfl⟩) rfl (by simp only [List.length_cons, List.length_append, List.length_nil, yl_tab, yl_past, yl_read, yl_norm, yl_cnt, yl_forms, yl_row]) rfl rfl (Nat.le_of_ble_eq_true rfl) dX7_init_64 ⟨(Nat.le_of_ble_eq_true rfl), (Nat.le_of_ble_eq_true rfl)⟩ ?_
  refine yy_pf (pc := 67) (L0 := (((((yy_tab G (b + 1) ++ yy_past G (b + 4)) ++ yy_read G (b + 66)) ++ yy_norm G (b + 71)) ++ yy_cnt G (b + 73)) ++ yy_forms G (b + 82))) E hnm rfl rfl inX7_init_X7 tyX7 tyX7_ok nmX7 5 (by decide) (by decide +kernel) (fun _ h => h) rfl rfl rfl rfl rfl (Nat.le_of_ble_eq_true rfl) dX7_init_67 ?_
  refine yy_aload_n (pc := 70) E dX7_init_70 rfl ?_
  refine yy_new (pc := 71) (ci := 5) (C := RX5) (T := TX5) (N := 2) (fs := [.null, .int 0]) (q := b + 96) E inX7_init_X5 tyX5 tyX5_ok (by decide +kernel) (by decide +kernel) (by decide +kernel) rfl (by decide +kernel) (Nat.le_of_ble_eq_true rfl) (Nat.le_of_ble_eq_true rfl) dX7_init_71 (by simp only [List.length_cons, List.length_append, List.length_nil, yl_tab, yl_past, yl_read, yl_norm, yl_cnt, yl_forms, yl_row]) ?_
  refine yy_dup (pc := 74) E dX7_init_74 rfl ?_
  refine yy_sipush (pc := 75) (v := nI 2187) E dX7_init_75 (by decide) ?_
  refine yy_cI (pc := 78) (As := [.int (nI 2187)]) (L0 := .inr (7, [.ref (b + 1), .ref (b + 4), .ref (b + 66), .ref (b + 71), .ref (b + 73), .ref (b + 82), .null, .null]) :: (((((yy_tab G (b + 1) ++ yy_past G (b + 4)) ++ yy_read G (b + 66)) ++ yy_norm G (b + 71)) ++ yy_cnt G (b + 73)) ++ yy_forms G (b + 82))) E (ktX5_init l G (b + 96) 2187 (by decide)) (cwI 1 hts gX7_init_X5_init rfl rfl rfl (hts (.initialized RX5) (by decide +kernel)) (hts (.methodLink RX7 55 yX5_init) (by decide +kernel)) (hts (.instanceMethod yX5_init) (by decide +kernel)) rfl (by decide +kernel) ⟨Nat.le_of_ble_eq_true rfl, Nat.le_of_ble_eq_true rfl⟩) rfl (by simp only [List.length_cons, List.length_append, List.length_nil, yl_tab, yl_past, yl_read, yl_norm, yl_cnt, yl_forms, yl_row]) rfl rfl (Nat.le_of_ble_eq_true rfl) dX7_init_78 ⟨(Nat.le_of_ble_eq_true rfl), (Nat.le_of_ble_eq_true rfl)⟩ ?_
  refine yy_pf (pc := 81) (L0 := ((((((yy_tab G (b + 1) ++ yy_past G (b + 4)) ++ yy_read G (b + 66)) ++ yy_norm G (b + 71)) ++ yy_cnt G (b + 73)) ++ yy_forms G (b + 82)) ++ yy_row G (b + 96) 2187)) E hnm rfl rfl inX7_init_X7 tyX7 tyX7_ok nmX7 6 (by decide) (by decide +kernel) (fun _ h => h) rfl rfl rfl rfl rfl (Nat.le_of_ble_eq_true rfl) dX7_init_81 ?_
  refine yy_aload_n (pc := 84) E dX7_init_84 rfl ?_
  refine yy_new (pc := 85) (ci := 5) (C := RX5) (T := TX5) (N := 2) (fs := [.null, .int 0]) (q := b + 98) E inX7_init_X5 tyX5 tyX5_ok (by decide +kernel) (by decide +kernel) (by decide +kernel) rfl (by decide +kernel) (Nat.le_of_ble_eq_true rfl) (Nat.le_of_ble_eq_true rfl) dX7_init_85 (by simp only [List.length_cons, List.length_append, List.length_nil, yl_tab, yl_past, yl_read, yl_norm, yl_cnt, yl_forms, yl_row]) ?_
  refine yy_dup (pc := 88) E dX7_init_88 rfl ?_
  refine yy_sipush (pc := 89) (v := nI 2187) E dX7_init_89 (by decide) ?_
  refine yy_cI (pc := 92) (As := [.int (nI 2187)]) (L0 := .inr (7, [.ref (b + 1), .ref (b + 4), .ref (b + 66), .ref (b + 71), .ref (b + 73), .ref (b + 82), .ref (b + 96), .null]) :: ((((((yy_tab G (b + 1) ++ yy_past G (b + 4)) ++ yy_read G (b + 66)) ++ yy_norm G (b + 71)) ++ yy_cnt G (b + 73)) ++ yy_forms G (b + 82)) ++ yy_row G (b + 96) 2187)) E (ktX5_init l G (b + 98) 2187 (by decide)) (cwI 1 hts gX7_init_X5_init rfl rfl rfl (hts (.initialized RX5) (by decide +kernel)) (hts (.methodLink RX7 55 yX5_init) (by decide +kernel)) (hts (.instanceMethod yX5_init) (by decide +kernel)) rfl (by decide +kernel) ⟨Nat.le_of_ble_eq_true rfl, Nat.le_of_ble_eq_true rfl⟩) rfl (by simp only [List.length_cons, List.length_append, List.length_nil, yl_tab, yl_past, yl_read, yl_norm, yl_cnt, yl_forms, yl_row]) rfl rfl (Nat.le_of_ble_eq_true rfl) dX7_init_92 ⟨(Nat.le_of_ble_eq_true rfl), (Nat.le_of_ble_eq_true rfl)⟩ ?_
  refine yy_pf (pc := 95) (L0 := (((((((yy_tab G (b + 1) ++ yy_past G (b + 4)) ++ yy_read G (b + 66)) ++ yy_norm G (b + 71)) ++ yy_cnt G (b + 73)) ++ yy_forms G (b + 82)) ++ yy_row G (b + 96) 2187) ++ yy_row G (b + 98) 2187)) E hnm rfl rfl inX7_init_X7 tyX7 tyX7_ok nmX7 7 (by decide) (by decide +kernel) (fun _ h => h) rfl rfl rfl rfl rfl (Nat.le_of_ble_eq_true rfl) dX7_init_95 ?_
  exact yy_vret (pc := 98) E hr hlk dX7_init_98 rfl

theorem inX8_init_X8 : ∀ w ∈ u_ws RX8 TX8 14, w ∈ wsX8_init := by decide +kernel
set_option maxRecDepth 100000 in
set_option maxHeartbeats 2000000 in
theorem ktX8_init (l : Launch) (G : zz_C) (b : Nat) : Met l yX8_init wsX8_init ({ frames := 1, cells := 10, slots := 7878, locals := 32 } : Room) (yy_C G b [.inr (8, [.null, .int 0, .null, .int 0, .null, .null, .null, .null, .null, .int 0, .int 0, .null, .null, .null])] [.ref b]) (yy_Q G b (yy_mod G b)) 10 7878 (fun q => b ≤ q) := by
  refine yy_start (cc := cX8_init) (maxL := 2) (ws' := _) (by decide +kernel) rfl (Nat.le_of_ble_eq_true rfl) ?_
  intro p e s m below meth c E hr hlk hnm
  have hts := E.2.2.2.2.1
  show yy_Z p l e (headSpec wsX8_init ({ frames := 1, cells := 10, slots := 7878, locals := 32 } : Room)).room s m ([.ref b] : List Value).toArray below meth c 0 0 (MQ below (yy_Q G b (yy_mod G b)) ([.ref b] : List Value).toArray s (10) (7878) (fun q => b ≤ q)) 2 G b [.inr (8, [.null, .int 0, .null, .int 0, .null, .null, .null, .null, .null, .int 0, .int 0, .null, .null, .null])] 0 (lv_args 0 [.ref b]) []
  refine yy_aload_n (pc := 0) E dX8_init_0 rfl ?_
  refine yy_obj (pc := 1) E (by decide +kernel) (by decide +kernel) (by decide +kernel) (Nat.le_of_ble_eq_true rfl) (Nat.le_of_ble_eq_true rfl) dX8_init_1 ?_
  refine yy_aload_n (pc := 4) E dX8_init_4 rfl ?_
  refine yy_bipush (pc := 5) (v := nI 24) E dX8_init_5 (by decide) ?_
  refine yy_newa (pc := 7) (N := 24) (q := b + 1) E (by decide +kernel) (by decide) (by decide) (by decide) (Nat.le_of_ble_eq_true rfl) (Nat.le_of_ble_eq_true rfl) dX8_init_7 rfl ?_
  refine yy_pf (pc := 9) (L0 := [yy_ar G 24 yy_o]) E hnm rfl rfl inX8_init_X8 tyX8 tyX8_ok nmX8 0 (by decide) (by decide +kernel) (fun _ h => h) rfl rfl rfl rfl rfl (Nat.le_of_ble_eq_true rfl) dX8_init_9 ?_
  refine yy_aload_n (pc := 12) E dX8_init_12 rfl ?_
  refine yy_sipush (pc := 13) (v := nI 480) E dX8_init_13 (by decide) ?_
  refine yy_newa (pc := 16) (N := 480) (q := b + 2) E (by decide +kernel) (by decide) (by decide) (by decide) (Nat.le_of_ble_eq_true rfl) (Nat.le_of_ble_eq_true rfl) dX8_init_16 rfl ?_
  refine yy_pf (pc := 18) (L0 := [yy_ar G 24 yy_o, yy_ar G 480 yy_o]) E hnm rfl rfl inX8_init_X8 tyX8 tyX8_ok nmX8 2 (by decide) (by decide +kernel) (fun _ h => h) rfl rfl rfl rfl rfl (Nat.le_of_ble_eq_true rfl) dX8_init_18 ?_
  refine yy_aload_n (pc := 21) E dX8_init_21 rfl ?_
  refine yy_bipush (pc := 22) (v := nI 64) E dX8_init_22 (by decide) ?_
  refine yy_newa (pc := 24) (N := 64) (q := b + 3) E (by decide +kernel) (by decide) (by decide) (by decide) (Nat.le_of_ble_eq_true rfl) (Nat.le_of_ble_eq_true rfl) dX8_init_24 rfl ?_
  refine yy_pf (pc := 26) (L0 := [yy_ar G 24 yy_o, yy_ar G 480 yy_o, yy_ar G 64 yy_o]) E hnm rfl rfl inX8_init_X8 tyX8 tyX8_ok nmX8 4 (by decide) (by decide +kernel) (fun _ h => h) rfl rfl rfl rfl rfl (Nat.le_of_ble_eq_true rfl) dX8_init_26 ?_
  refine yy_aload_n (pc := 29) E dX8_init_29 rfl ?_
  refine yy_bipush (pc := 30) (v := nI 6) E dX8_init_30 (by decide) ?_
  refine yy_newa (pc := 32) (N := 6) (q := b + 4) E (by decide +kernel) (by decide) (by decide) (by decide) (Nat.le_of_ble_eq_true rfl) (Nat.le_of_ble_eq_true rfl) dX8_init_32 rfl ?_
  refine yy_pf (pc := 34) (L0 := [yy_ar G 24 yy_o, yy_ar G 480 yy_o, yy_ar G 64 yy_o, yy_ar G 6 yy_o]) E hnm rfl rfl inX8_init_X8 tyX8 tyX8_ok nmX8 5 (by decide) (by decide +kernel) (fun _ h => h) rfl rfl rfl rfl rfl (Nat.le_of_ble_eq_true rfl) dX8_init_34 ?_
  refine yy_aload_n (pc := 37) E dX8_init_37 rfl ?_
  refine yy_bipush (pc := 38) (v := nI 78) E dX8_init_38 (by decide) ?_
  refine yy_newa (pc := 40) (N := 78) (q := b + 5) E (by decide +kernel) (by decide) (by decide) (by decide) (Nat.le_of_ble_eq_true rfl) (Nat.le_of_ble_eq_true rfl) dX8_init_40 rfl ?_
  refine yy_pf (pc := 42) (L0 := [yy_ar G 24 yy_o, yy_ar G 480 yy_o, yy_ar G 64 yy_o, yy_ar G 6 yy_o, yy_ar G 78 yy_o]) E hnm rfl rfl inX8_init_X8 tyX8 tyX8_ok nmX8 6 (by decide) (by decide +kernel) (fun _ h => h) rfl rfl rfl rfl rfl (Nat.le_of_ble_eq_true rfl) dX8_init_42 ?_
  refine yy_aload_n (pc := 45) E dX8_init_45 rfl ?_
  refine yy_bipush (pc := 46) (v := nI 13) E dX8_init_46 (by decide) ?_
  refine yy_newa (pc := 48) (N := 13) (q := b + 6) E (by decide +kernel) (by decide) (by decide) (by decide) (Nat.le_of_ble_eq_true rfl) (Nat.le_of_ble_eq_true rfl) dX8_init_48 rfl ?_
  refine yy_pf (pc := 50) (L0 := [yy_ar G 24 yy_o, yy_ar G 480 yy_o, yy_ar G 64 yy_o, yy_ar G 6 yy_o, yy_ar G 78 yy_o, yy_ar G 13 yy_o]) E hnm rfl rfl inX8_init_X8 tyX8 tyX8_ok nmX8 7 (by decide) (by decide +kernel) (fun _ h => h) rfl rfl rfl rfl rfl (Nat.le_of_ble_eq_true rfl) dX8_init_50 ?_
  refine yy_aload_n (pc := 53) E dX8_init_53 rfl ?_
  refine yy_bipush (pc := 54) (v := nI 13) E dX8_init_54 (by decide) ?_
  refine yy_newa (pc := 56) (N := 13) (q := b + 7) E (by decide +kernel) (by decide) (by decide) (by decide) (Nat.le_of_ble_eq_true rfl) (Nat.le_of_ble_eq_true rfl) dX8_init_56 rfl ?_
  refine yy_pf (pc := 58) (L0 := [yy_ar G 24 yy_o, yy_ar G 480 yy_o, yy_ar G 64 yy_o, yy_ar G 6 yy_o, yy_ar G 78 yy_o, yy_ar G 13 yy_o, yy_ar G 13 yy_o]) E hnm rfl rfl inX8_init_X8 tyX8 tyX8_ok nmX8 8 (by decide) (by decide +kernel) (fun _ h => h) rfl rfl rfl rfl rfl (Nat.le_of_ble_eq_true rfl) dX8_init_58 ?_
  refine yy_aload_n (pc := 61) E dX8_init_61 rfl ?_
  refine yy_sipush (pc := 62) (v := nI 2400) E dX8_init_62 (by decide) ?_
  refine yy_newa (pc := 65) (N := 2400) (q := b + 8) E (by decide +kernel) (by decide) (by decide) (by decide) (Nat.le_of_ble_eq_true rfl) (Nat.le_of_ble_eq_true rfl) dX8_init_65 rfl ?_
  refine yy_pf (pc := 67) (L0 := [yy_ar G 24 yy_o, yy_ar G 480 yy_o, yy_ar G 64 yy_o, yy_ar G 6 yy_o, yy_ar G 78 yy_o, yy_ar G 13 yy_o, yy_ar G 13 yy_o, yy_ar G 2400 yy_o]) E hnm rfl rfl inX8_init_X8 tyX8 tyX8_ok nmX8 11 (by decide) (by decide +kernel) (fun _ h => h) rfl rfl rfl rfl rfl (Nat.le_of_ble_eq_true rfl) dX8_init_67 ?_
  refine yy_aload_n (pc := 70) E dX8_init_70 rfl ?_
  refine yy_sipush (pc := 71) (v := nI 2400) E dX8_init_71 (by decide) ?_
  refine yy_newa (pc := 74) (N := 2400) (q := b + 9) E (by decide +kernel) (by decide) (by decide) (by decide) (Nat.le_of_ble_eq_true rfl) (Nat.le_of_ble_eq_true rfl) dX8_init_74 rfl ?_
  refine yy_pf (pc := 76) (L0 := [yy_ar G 24 yy_o, yy_ar G 480 yy_o, yy_ar G 64 yy_o, yy_ar G 6 yy_o, yy_ar G 78 yy_o, yy_ar G 13 yy_o, yy_ar G 13 yy_o, yy_ar G 2400 yy_o, yy_ar G 2400 yy_o]) E hnm rfl rfl inX8_init_X8 tyX8 tyX8_ok nmX8 12 (by decide) (by decide +kernel) (fun _ h => h) rfl rfl rfl rfl rfl (Nat.le_of_ble_eq_true rfl) dX8_init_76 ?_
  refine yy_aload_n (pc := 79) E dX8_init_79 rfl ?_
  refine yy_sipush (pc := 80) (v := nI 2400) E dX8_init_80 (by decide) ?_
  refine yy_newa (pc := 83) (N := 2400) (q := b + 10) E (by decide +kernel) (by decide) (by decide) (by decide) (Nat.le_of_ble_eq_true rfl) (Nat.le_of_ble_eq_true rfl) dX8_init_83 rfl ?_
  refine yy_pf (pc := 85) (L0 := [yy_ar G 24 yy_o, yy_ar G 480 yy_o, yy_ar G 64 yy_o, yy_ar G 6 yy_o, yy_ar G 78 yy_o, yy_ar G 13 yy_o, yy_ar G 13 yy_o, yy_ar G 2400 yy_o, yy_ar G 2400 yy_o, yy_ar G 2400 yy_o]) E hnm rfl rfl inX8_init_X8 tyX8 tyX8_ok nmX8 13 (by decide) (by decide +kernel) (fun _ h => h) rfl rfl rfl rfl rfl (Nat.le_of_ble_eq_true rfl) dX8_init_85 ?_
  refine yy_iconst (pc := 88) (v := nI 0) E dX8_init_88 (by decide) ?_
  refine yy_istore_n (pc := 89) (lv' := [(0, _), (1, _)]) E dX8_init_89 (by decide) rfl ?_
  have key : ∀ (k i : Nat), i + k = 24 → yy_Z p l e (headSpec wsX8_init ({ frames := 1, cells := 10, slots := 7878, locals := 32 } : Room)).room s m ([.ref b] : List Value).toArray below meth c 10 7878 (MQ below (yy_Q G b (yy_mod G b)) ([.ref b] : List Value).toArray s 10 7878 (fun q => b ≤ q)) 2 G b (.inr (8, [.ref (b + 1), .int 0, .ref (b + 2), .int 0, .ref (b + 3), .ref (b + 4), .ref (b + 5), .ref (b + 6), .ref (b + 7), .int 0, .int 0, .ref (b + 8), .ref (b + 9), .ref (b + 10)]) :: yy_ar G 24 (yy_f i (-9) yy_o) :: [yy_ar G 480 yy_o, yy_ar G 64 yy_o, yy_ar G 6 yy_o, yy_ar G 78 yy_o, yy_ar G 13 yy_o, yy_ar G 13 yy_o, yy_ar G 2400 yy_o, yy_ar G 2400 yy_o, yy_ar G 2400 yy_o]) 90 [(0, .ref b), (1, .int (nI i))] [] := by
    intro k
    induction k with
    | zero =>
      intro i hi
      obtain rfl : i = 24 := by omega
      refine yy_iload_n (pc := 90) E dX8_init_90 rfl ?_
      refine yy_bipush (pc := 91) (v := nI 24) E dX8_init_91 (by decide) ?_
      refine yn_icmp_ge (pc := 93) (tgt := 110) E dX8_init_93 (by decide) (by omega) (by omega) (fun h7 => ?_) (fun h7 => absurd h7 (by omega))
      exact yy_vret (pc := 110) E hr hlk dX8_init_110 rfl
    | succ k ih =>
      intro i hi
      refine yy_iload_n (pc := 90) E dX8_init_90 rfl ?_
      refine yy_bipush (pc := 91) (v := nI 24) E dX8_init_91 (by decide) ?_
      refine yn_icmp_ge (pc := 93) (tgt := 110) E dX8_init_93 (by decide) (by omega) (by omega) (fun h7 => absurd h7 (by omega)) (fun h7 => ?_)
      refine yy_aload_n (pc := 96) E dX8_init_96 rfl ?_
      refine yy_gf (pc := 97) E 0 rfl rfl rfl inX8_init_X8 0 (by decide) (by decide +kernel) (fun _ h => h) rfl dX8_init_97 ?_
      refine yy_iload_n (pc := 100) E dX8_init_100 rfl ?_
      refine yy_bipush (pc := 101) (v := -9) E dX8_init_101 (by decide) ?_
      refine yy_iast (pc := 103) (f := yy_f i (-9) yy_o) E 1 rfl rfl h7 (by decide) dX8_init_103 ?_
      refine yy_re (L' := (.inr (8, [.ref (b + 1), .int 0, .ref (b + 2), .int 0, .ref (b + 3), .ref (b + 4), .ref (b + 5), .ref (b + 6), .ref (b + 7), .int 0, .int 0, .ref (b + 8), .ref (b + 9), .ref (b + 10)]) :: yy_ar G 24 (yy_f (i + 1) (-9) yy_o) :: [yy_ar G 480 yy_o, yy_ar G 64 yy_o, yy_ar G 6 yy_o, yy_ar G 78 yy_o, yy_ar G 13 yy_o, yy_ar G 13 yy_o, yy_ar G 2400 yy_o, yy_ar G 2400 yy_o, yy_ar G 2400 yy_o])) (by rw [← yy_f_upd]; rfl) rfl rfl ?_
      refine yy_iinc (pc := 104) (v := nI (i + 1)) (lv' := [(0, _), (1, _)]) E dX8_init_104 rfl (nI_1 i) (by decide) rfl ?_
      refine yy_goto (pc := 107) (tgt := 90) E dX8_init_107 (by decide) ?_
      exact ih (i + 1) (by omega)
  exact key 24 0 (by omega)
