/-! WHAT THE CONSTRUCTORS MAKE -/
abbrev yy_ar (G : zz_C) (n : Nat) (f : Nat → Int32) : va_E := .inl (G.2.1 0, n, .inl f)
abbrev yy_rq (c : ClassId) (n : Nat) (f : Nat → Option Nat) : va_E := .inl (c, n, .inr (.inr (.inr (.inr f))))
def yy_o : Nat → Int32 := fun _ => 0
def yy_f (n : Nat) (x : Int32) (f : Nat → Int32) : Nat → Int32 := fun q => if q < n then x else f q
def yy_u (n : Nat) (f : Nat → Nat) : Nat → Option Nat := fun q => if q < n then some (f q) else none
theorem yy_f_upd (i : Nat) (x : Int32) (f : Nat → Int32) : upd (yy_f i x f) i x = yy_f (i + 1) x f := by
  funext q
  by_cases h : q = i
  · subst h; rw [upd_same]; unfold yy_f; rw [if_pos (by omega)]
  · rw [upd_ne _ _ h]; unfold yy_f
    by_cases h2 : q < i
    · rw [if_pos h2, if_pos (by omega)]
    · rw [if_neg h2, if_neg (by omega)]
theorem yy_u_up (i : Nat) (f : Nat → Nat) : va_up (yy_u i f) i (some (f i)) = yy_u (i + 1) f := by
  funext q
  by_cases h : q = i
  · subst h; unfold va_up yy_u; rw [if_pos rfl, if_pos (by omega)]
  · unfold va_up yy_u; rw [if_neg h]
    by_cases h2 : q < i
    · rw [if_pos h2, if_pos (by omega)]
    · rw [if_neg h2, if_neg (by omega)]
def yy_row (G : zz_C) (b n : Nat) : List va_E := [.inr (5, [.ref (b + 1), .int 0]), yy_ar G n yy_o]
def yy_tab (G : zz_C) (b : Nat) : List va_E := [.inr (6, [.ref (b + 1), .ref (b + 2)]), yy_ar G 18 (yy_f 18 (-9) yy_o), yy_ar G 6 (yy_f 6 (-9) yy_o)]
def yy_tabs (G : zz_C) (b : Nat) : Nat → List va_E
  | 0 => []
  | k + 1 => yy_tabs G b k ++ yy_tab G (b + 3 * k)
def yy_rows (G : zz_C) (b : Nat) : Nat → List va_E
  | 0 => []
  | k + 1 => yy_rows G b k ++ yy_row G (b + 2 * k) 243
def yy_past (G : zz_C) (b : Nat) : List va_E := .inr (3, [.ref (b + 1), .int 0, .int 0]) :: yy_rq (G.2.1 2) 20 (yy_u 20 (fun q => b + 2 + 3 * q)) :: yy_tabs G (b + 2) 20
def yy_forms (G : zz_C) (b : Nat) : List va_E := .inr (1, [.ref (b + 1)]) :: yy_rq (G.2.1 1) 6 (yy_u 6 (fun q => b + 2 + 2 * q)) :: yy_rows G (b + 2) 6
def yy_read (G : zz_C) (b : Nat) : List va_E := .inr (4, [.ref (b + 1), .ref (b + 3)]) :: (yy_row G (b + 1) 33 ++ yy_row G (b + 3) 12)
def yy_norm (G : zz_C) (b : Nat) : List va_E := [.inr (2, [.ref (b + 1)]), yy_ar G 6 yy_o]
def yy_cnt (G : zz_C) (b : Nat) : List va_E := .inr (0, [.ref (b + 1), .ref (b + 8)]) :: (yy_rq (G.2.1 3) 6 (fun i => if i < 6 then some (b + 1 + 1 + i) else none) :: List.replicate 6 (yy_ar G 13 yy_o) ++ [yy_ar G 13 yy_o])
def yy_own (G : zz_C) (b : Nat) : List va_E := .inr (7, [.ref (b + 1), .ref (b + 4), .ref (b + 66), .ref (b + 71), .ref (b + 73), .ref (b + 82), .ref (b + 96), .ref (b + 98)]) :: (((((((yy_tab G (b + 1) ++ yy_past G (b + 4)) ++ yy_read G (b + 66)) ++ yy_norm G (b + 71)) ++ yy_cnt G (b + 73)) ++ yy_forms G (b + 82)) ++ yy_row G (b + 96) 2187) ++ yy_row G (b + 98) 2187)
def yy_mod (G : zz_C) (b : Nat) : List va_E := [.inr (8, [.ref (b + 1), .int 0, .ref (b + 2), .int 0, .ref (b + 3), .ref (b + 4), .ref (b + 5), .ref (b + 6), .ref (b + 7), .int 0, .int 0, .ref (b + 8), .ref (b + 9), .ref (b + 10)]), yy_ar G 24 (yy_f 24 (-9) yy_o), yy_ar G 480 yy_o, yy_ar G 64 yy_o, yy_ar G 6 yy_o, yy_ar G 78 yy_o, yy_ar G 13 yy_o, yy_ar G 13 yy_o, yy_ar G 2400 yy_o, yy_ar G 2400 yy_o, yy_ar G 2400 yy_o]
theorem yl_row (G : zz_C) (b n : Nat) : (yy_row G b n).length = 2 := rfl
theorem yl_tab (G : zz_C) (b : Nat) : (yy_tab G b).length = 3 := rfl
theorem yl_tabs (G : zz_C) (b : Nat) : ∀ k, (yy_tabs G b k).length = 3 * k
  | 0 => rfl
  | k + 1 => by show (yy_tabs G b k ++ yy_tab G (b + 3 * k)).length = _; rw [List.length_append, yl_tabs G b k, yl_tab]; omega
theorem yl_rows (G : zz_C) (b : Nat) : ∀ k, (yy_rows G b k).length = 2 * k
  | 0 => rfl
  | k + 1 => by show (yy_rows G b k ++ yy_row G (b + 2 * k) 243).length = _; rw [List.length_append, yl_rows G b k, yl_row]; omega
theorem yl_past (G : zz_C) (b : Nat) : (yy_past G b).length = 62 := by unfold yy_past; rw [List.length_cons, List.length_cons, yl_tabs]
theorem yl_forms (G : zz_C) (b : Nat) : (yy_forms G b).length = 14 := by unfold yy_forms; rw [List.length_cons, List.length_cons, yl_rows]
theorem yl_read (G : zz_C) (b : Nat) : (yy_read G b).length = 5 := rfl
theorem yl_norm (G : zz_C) (b : Nat) : (yy_norm G b).length = 2 := rfl
theorem yl_cnt (G : zz_C) (b : Nat) : (yy_cnt G b).length = 9 := rfl
theorem yy_eqi {p : Program} {l : Launch} {e : Env} {R : Room} {s : State} {m : MethodId} {args : Array Value} {below : List Frame} {meth : Method} {c : Code} {cells slots : Nat} {Q : State → Prop} {nL : Nat} {G : zz_C} {a : Nat} {L : List va_E} {pc : Nat} {lv : List (Nat × Value)} {st : List Value} {x y : Int32} (h : x = y) (k : yy_Z p l e R s m args below meth c cells slots Q nL G a L pc lv (.int y :: st)) : yy_Z p l e R s m args below meth c cells slots Q nL G a L pc lv (.int x :: st) := h ▸ k
theorem yy_set_same {L : List va_E} {j : Nat} {e : va_E} (h : L[j]? = some e) : L = L.set j e := by
  apply List.ext_getElem?
  intro i
  by_cases c : i = j
  · subst c
    rw [List.getElem?_set_self (List.getElem?_eq_some_iff.mp h).1, h]
  · rw [List.getElem?_set_ne (Ne.symm c)]
set_option maxRecDepth 100000 in
set_option maxHeartbeats 2000000 in
theorem ktJ7_fill (l : Launch) (G : zz_C) (b : Nat) (L : List va_E) (j n : Nat) (f : Nat → Int32) (x : Int32) (he : L[j]? = some (yy_ar G n f)) (hn : n < 2 ^ 31) : Met l yJ7_fill_53178 wsJ7_fill_53178 ({ frames := 0, cells := 0, slots := 0, locals := 0 } : Room) (yy_C G b L [.ref (b + j), .int x]) (yy_Q G b (L.set j (yy_ar G n (yy_f n x f)))) 0 0 (fun q => b ≤ q) := by
  refine yy_start (cc := cJ7_fill_53178) (maxL := 4) (ws' := _) (by decide +kernel) rfl (Nat.le_of_ble_eq_true rfl) ?_
  intro p e s m below meth c E hr hlk hnm
  have hl : j < L.length := (List.getElem?_eq_some_iff.mp he).1
  show yy_Z p l e (headSpec wsJ7_fill_53178 ({ frames := 0, cells := 0, slots := 0, locals := 0 } : Room)).room s m ([.ref (b + j), .int x] : List Value).toArray below meth c 0 0 (MQ below (yy_Q G b (L.set j (yy_ar G n (yy_f n x f)))) ([.ref (b + j), .int x] : List Value).toArray s 0 0 (fun q => b ≤ q)) 4 G b L 0 [(0, .ref (b + j)), (1, .int x)] []
  refine yy_iconst (pc := 0) (v := nI 0) E dJ7_fill_53178_0 (by decide) ?_
  refine yy_istore_n (pc := 1) (lv' := [(0, _), (1, _), (2, _)]) E dJ7_fill_53178_1 (by decide) rfl ?_
  refine yy_aload_n (pc := 2) E dJ7_fill_53178_2 rfl ?_
  refine yy_alen (pc := 3) E j rfl he dJ7_fill_53178_3 ?_
  refine yy_istore_n (pc := 4) (lv' := [(0, _), (1, _), (2, _), (3, _)]) E dJ7_fill_53178_4 (by decide) rfl ?_
  have key : ∀ (k i : Nat), i + k = n → yy_Z p l e (headSpec wsJ7_fill_53178 ({ frames := 0, cells := 0, slots := 0, locals := 0 } : Room)).room s m ([.ref (b + j), .int x] : List Value).toArray below meth c 0 0 (MQ below (yy_Q G b (L.set j (yy_ar G n (yy_f n x f)))) ([.ref (b + j), .int x] : List Value).toArray s 0 0 (fun q => b ≤ q)) 4 G b (L.set j (yy_ar G n (yy_f i x f))) 5 [(0, .ref (b + j)), (1, .int x), (2, .int (nI i)), (3, .int (nI n))] [] := by
    intro k
    induction k with
    | zero =>
      intro i hi
      refine yy_iload_n (pc := 5) E dJ7_fill_53178_5 rfl ?_
      refine yy_iload_n (pc := 6) E dJ7_fill_53178_6 rfl ?_
      refine yn_icmp_ge (pc := 7) (tgt := 20) E dJ7_fill_53178_7 (by decide) (by omega) (by omega) (fun h7 => ?_) (fun h7 => absurd h7 (by omega))
      exact yy_vret (pc := 20) E hr hlk dJ7_fill_53178_20 (by rw [show i = n by omega])
    | succ k ih =>
      intro i hi
      refine yy_iload_n (pc := 5) E dJ7_fill_53178_5 rfl ?_
      refine yy_iload_n (pc := 6) E dJ7_fill_53178_6 rfl ?_
      refine yn_icmp_ge (pc := 7) (tgt := 20) E dJ7_fill_53178_7 (by decide) (by omega) (by omega) (fun h7 => absurd h7 (by omega)) (fun h7 => ?_)
      refine yy_aload_n (pc := 10) E dJ7_fill_53178_10 rfl ?_
      refine yy_iload_n (pc := 11) E dJ7_fill_53178_11 rfl ?_
      refine yy_iload_n (pc := 12) E dJ7_fill_53178_12 rfl ?_
      refine yy_iast (pc := 13) E j rfl (List.getElem?_set_self hl) h7 hn dJ7_fill_53178_13 ?_
      refine yy_re (L' := L.set j (yy_ar G n (yy_f (i + 1) x f))) (by rw [List.set_set, yy_f_upd]) rfl rfl ?_
      refine yy_iinc (pc := 14) (v := nI (i + 1)) (lv' := [(0, _), (1, _), (2, _), (3, _)]) E dJ7_fill_53178_14 rfl (nI_1 i) (by decide) rfl ?_
      refine yy_goto (pc := 17) (tgt := 5) E dJ7_fill_53178_17 (by decide) ?_
      exact ih (i + 1) (by omega)
  refine yy_re (L' := L.set j (yy_ar G n (yy_f 0 x f))) ?_ rfl rfl (key n 0 (by omega))
  rw [show yy_f 0 x f = f from rfl]
  exact yy_set_same he

theorem inX5_init_X5 : ∀ w ∈ u_ws RX5 TX5 2, w ∈ wsX5_init := by decide +kernel
set_option maxRecDepth 100000 in
set_option maxHeartbeats 2000000 in
theorem ktX5_init (l : Launch) (G : zz_C) (b : Nat) (n : Nat) (hn : n < 100000) : Met l yX5_init wsX5_init ({ frames := 1, cells := 1, slots := n, locals := 32 } : Room) (yy_C G b [.inr (5, [.null, .int 0])] [.ref b, .int (nI n)]) (yy_Q G b (yy_row G b n)) 1 n (fun q => b ≤ q) := by
  refine yy_start (cc := cX5_init) (maxL := 2) (ws' := _) (by decide +kernel) rfl (Nat.le_of_ble_eq_true rfl) ?_
  intro p e s m below meth c E hr hlk hnm
  have hts := E.2.2.2.2.1
  show yy_Z p l e (headSpec wsX5_init ({ frames := 1, cells := 1, slots := n, locals := 32 } : Room)).room s m ([.ref b, .int (nI n)] : List Value).toArray below meth c 0 0 (MQ below (yy_Q G b (yy_row G b n)) ([.ref b, .int (nI n)] : List Value).toArray s (1) (n) (fun q => b ≤ q)) 2 G b [.inr (5, [.null, .int 0])] 0 (lv_args 0 [.ref b, .int (nI n)]) []
  refine yy_aload_n (pc := 0) E dX5_init_0 rfl ?_
  refine yy_obj (pc := 1) E (by decide +kernel) (by decide +kernel) (by decide +kernel) (Nat.le_of_ble_eq_true rfl) (Nat.le_of_ble_eq_true rfl) dX5_init_1 ?_
  refine yy_aload_n (pc := 4) E dX5_init_4 rfl ?_
  refine yy_iload_n (pc := 5) E dX5_init_5 rfl ?_
  refine yy_iconst (pc := 6) (v := nI 0) E dX5_init_6 (by decide) ?_
  refine yy_max (pc := 7) E (by decide +kernel) (by decide +kernel) (by decide +kernel) (by decide +kernel) (Nat.le_of_ble_eq_true rfl) (Nat.le_of_ble_eq_true rfl) (Nat.zero_le _) (Nat.zero_le _) dX5_init_7 ?_
  refine yy_eqi (y := nI n) (if_neg (nI_pos (by omega))) ?_
  refine yy_newa (pc := 10) (N := n) (q := b + 1) E (by decide +kernel) (nI_pos (by omega)) (nI_clamp (by omega)) (by omega) (Nat.le_of_ble_eq_true rfl) (by show 0 + n ≤ n; omega) dX5_init_10 rfl ?_
  refine yy_re rfl rfl (Nat.zero_add n) ?_
  refine yy_pf (pc := 12) (L0 := [yy_ar G n yy_o]) E hnm rfl rfl inX5_init_X5 tyX5 tyX5_ok nmX5 0 (by decide) (by decide +kernel) (fun _ h => h) rfl rfl rfl rfl rfl (Nat.le_of_ble_eq_true rfl) dX5_init_12 ?_
  exact yy_vret (pc := 15) E hr hlk dX5_init_15 rfl

theorem inX6_init_X6 : ∀ w ∈ u_ws RX6 TX6 2, w ∈ wsX6_init := by decide +kernel
set_option maxRecDepth 100000 in
set_option maxHeartbeats 2000000 in
theorem ktX6_init (l : Launch) (G : zz_C) (b : Nat) : Met l yX6_init wsX6_init ({ frames := 1, cells := 2, slots := 24, locals := 32 } : Room) (yy_C G b [.inr (6, [.null, .null])] [.ref b]) (yy_Q G b (yy_tab G b)) 2 24 (fun q => b ≤ q) := by
  refine yy_start (cc := cX6_init) (maxL := 1) (ws' := _) (by decide +kernel) rfl (Nat.le_of_ble_eq_true rfl) ?_
  intro p e s m below meth c E hr hlk hnm
  have hts := E.2.2.2.2.1
  show yy_Z p l e (headSpec wsX6_init ({ frames := 1, cells := 2, slots := 24, locals := 32 } : Room)).room s m ([.ref b] : List Value).toArray below meth c 0 0 (MQ below (yy_Q G b (yy_tab G b)) ([.ref b] : List Value).toArray s (2) (24) (fun q => b ≤ q)) 1 G b [.inr (6, [.null, .null])] 0 (lv_args 0 [.ref b]) []
  refine yy_aload_n (pc := 0) E dX6_init_0 rfl ?_
  refine yy_obj (pc := 1) E (by decide +kernel) (by decide +kernel) (by decide +kernel) (Nat.le_of_ble_eq_true rfl) (Nat.le_of_ble_eq_true rfl) dX6_init_1 ?_
  refine yy_aload_n (pc := 4) E dX6_init_4 rfl ?_
  refine yy_bipush (pc := 5) (v := nI 18) E dX6_init_5 (by decide) ?_
  refine yy_newa (pc := 7) (N := 18) (q := b + 1) E (by decide +kernel) (by decide) (by decide) (by decide) (Nat.le_of_ble_eq_true rfl) (Nat.le_of_ble_eq_true rfl) dX6_init_7 rfl ?_
  refine yy_pf (pc := 9) (L0 := [yy_ar G 18 yy_o]) E hnm rfl rfl inX6_init_X6 tyX6 tyX6_ok nmX6 0 (by decide) (by decide +kernel) (fun _ h => h) rfl rfl rfl rfl rfl (Nat.le_of_ble_eq_true rfl) dX6_init_9 ?_
  refine yy_aload_n (pc := 12) E dX6_init_12 rfl ?_
  refine yy_bipush (pc := 13) (v := nI 6) E dX6_init_13 (by decide) ?_
  refine yy_newa (pc := 15) (N := 6) (q := b + 2) E (by decide +kernel) (by decide) (by decide) (by decide) (Nat.le_of_ble_eq_true rfl) (Nat.le_of_ble_eq_true rfl) dX6_init_15 rfl ?_
  refine yy_pf (pc := 17) (L0 := [yy_ar G 18 yy_o, yy_ar G 6 yy_o]) E hnm rfl rfl inX6_init_X6 tyX6 tyX6_ok nmX6 1 (by decide) (by decide +kernel) (fun _ h => h) rfl rfl rfl rfl rfl (Nat.le_of_ble_eq_true rfl) dX6_init_17 ?_
  refine yy_aload_n (pc := 20) E dX6_init_20 rfl ?_
  refine yy_gf (pc := 21) E 0 rfl rfl rfl inX6_init_X6 0 (by decide) (by decide +kernel) (fun _ h => h) rfl dX6_init_21 ?_
  refine yy_bipush (pc := 24) (v := -9) E dX6_init_24 (by decide) ?_
  refine yy_cS (pc := 26) (As := [.ref (b + 1), .int (-9)]) E (ktJ7_fill l G b _ 1 18 yy_o (-9) rfl (by decide)) (va_cwS 2 hts gX6_init_J7_fill_53178 rfl rfl rfl (by decide +kernel) ⟨Nat.le_of_ble_eq_true rfl, Nat.le_of_ble_eq_true rfl⟩) rfl rfl (Nat.le_of_ble_eq_true rfl) dX6_init_26 ⟨Nat.le_of_ble_eq_true rfl, Nat.le_of_ble_eq_true rfl⟩ ?_
  refine yy_re (L' := [.inr (6, [.ref (b + 1), .ref (b + 2)]), yy_ar G 18 (yy_f 18 (-9) yy_o), yy_ar G 6 yy_o]) rfl rfl rfl ?_
  refine yy_aload_n (pc := 29) E dX6_init_29 rfl ?_
  refine yy_gf (pc := 30) E 0 rfl rfl rfl inX6_init_X6 1 (by decide) (by decide +kernel) (fun _ h => h) rfl dX6_init_30 ?_
  refine yy_bipush (pc := 33) (v := -9) E dX6_init_33 (by decide) ?_
  refine yy_cS (pc := 35) (As := [.ref (b + 2), .int (-9)]) E (ktJ7_fill l G b _ 2 6 yy_o (-9) rfl (by decide)) (va_cwS 2 hts gX6_init_J7_fill_53178 rfl rfl rfl (by decide +kernel) ⟨Nat.le_of_ble_eq_true rfl, Nat.le_of_ble_eq_true rfl⟩) rfl rfl (Nat.le_of_ble_eq_true rfl) dX6_init_35 ⟨Nat.le_of_ble_eq_true rfl, Nat.le_of_ble_eq_true rfl⟩ ?_
  exact yy_vret (pc := 38) E hr hlk dX6_init_38 rfl

theorem inX2_init_X2 : ∀ w ∈ u_ws RX2 TX2 1, w ∈ wsX2_init := by decide +kernel
set_option maxRecDepth 100000 in
set_option maxHeartbeats 2000000 in
theorem ktX2_init (l : Launch) (G : zz_C) (b : Nat) : Met l yX2_init wsX2_init ({ frames := 1, cells := 1, slots := 6, locals := 32 } : Room) (yy_C G b [.inr (2, [.null])] [.ref b]) (yy_Q G b (yy_norm G b)) 1 6 (fun q => b ≤ q) := by
  refine yy_start (cc := cX2_init) (maxL := 1) (ws' := _) (by decide +kernel) rfl (Nat.le_of_ble_eq_true rfl) ?_
  intro p e s m below meth c E hr hlk hnm
  have hts := E.2.2.2.2.1
  show yy_Z p l e (headSpec wsX2_init ({ frames := 1, cells := 1, slots := 6, locals := 32 } : Room)).room s m ([.ref b] : List Value).toArray below meth c 0 0 (MQ below (yy_Q G b (yy_norm G b)) ([.ref b] : List Value).toArray s (1) (6) (fun q => b ≤ q)) 1 G b [.inr (2, [.null])] 0 (lv_args 0 [.ref b]) []
  refine yy_aload_n (pc := 0) E dX2_init_0 rfl ?_
  refine yy_obj (pc := 1) E (by decide +kernel) (by decide +kernel) (by decide +kernel) (Nat.le_of_ble_eq_true rfl) (Nat.le_of_ble_eq_true rfl) dX2_init_1 ?_
  refine yy_aload_n (pc := 4) E dX2_init_4 rfl ?_
  refine yy_bipush (pc := 5) (v := nI 6) E dX2_init_5 (by decide) ?_
  refine yy_newa (pc := 7) (N := 6) (q := b + 1) E (by decide +kernel) (by decide) (by decide) (by decide) (Nat.le_of_ble_eq_true rfl) (Nat.le_of_ble_eq_true rfl) dX2_init_7 rfl ?_
  refine yy_pf (pc := 9) (L0 := [yy_ar G 6 yy_o]) E hnm rfl rfl inX2_init_X2 tyX2 tyX2_ok nmX2 0 (by decide) (by decide +kernel) (fun _ h => h) rfl rfl rfl rfl rfl (Nat.le_of_ble_eq_true rfl) dX2_init_9 ?_
  exact yy_vret (pc := 12) E hr hlk dX2_init_12 rfl

theorem inX0_init_X0 : ∀ w ∈ u_ws RX0 TX0 2, w ∈ wsX0_init := by decide +kernel
set_option maxRecDepth 100000 in
set_option maxHeartbeats 2000000 in
theorem ktX0_init (l : Launch) (G : zz_C) (b : Nat) : Met l yX0_init wsX0_init ({ frames := 1, cells := 8, slots := 97, locals := 32 } : Room) (yy_C G b [.inr (0, [.null, .null])] [.ref b]) (yy_Q G b (yy_cnt G b)) 8 97 (fun q => b ≤ q) := by
  refine yy_start (cc := cX0_init) (maxL := 1) (ws' := _) (by decide +kernel) rfl (Nat.le_of_ble_eq_true rfl) ?_
  intro p e s m below meth c E hr hlk hnm
  have hts := E.2.2.2.2.1
  show yy_Z p l e (headSpec wsX0_init ({ frames := 1, cells := 8, slots := 97, locals := 32 } : Room)).room s m ([.ref b] : List Value).toArray below meth c 0 0 (MQ below (yy_Q G b (yy_cnt G b)) ([.ref b] : List Value).toArray s (8) (97) (fun q => b ≤ q)) 1 G b [.inr (0, [.null, .null])] 0 (lv_args 0 [.ref b]) []
  refine yy_aload_n (pc := 0) E dX0_init_0 rfl ?_
  refine yy_obj (pc := 1) E (by decide +kernel) (by decide +kernel) (by decide +kernel) (Nat.le_of_ble_eq_true rfl) (Nat.le_of_ble_eq_true rfl) dX0_init_1 ?_
  refine yy_aload_n (pc := 4) E dX0_init_4 rfl ?_
  refine yy_bipush (pc := 5) (v := nI 6) E dX0_init_5 (by decide) ?_
  refine yy_bipush (pc := 7) (v := nI 13) E dX0_init_7 (by decide) ?_
  refine yy_mna (pc := 9) (N := 6) (K := 13) (q := b + 1) E (by decide +kernel) (by decide +kernel) (by decide) (by decide) (by decide) (by decide) (by decide) (by decide) (Nat.le_of_ble_eq_true rfl) (Nat.le_of_ble_eq_true rfl) dX0_init_9 rfl ?_
  refine yy_pf (pc := 13) (L0 := yy_rq (G.2.1 3) 6 (fun i => if i < 6 then some (b + 1 + 1 + i) else none) :: List.replicate 6 (yy_ar G 13 yy_o)) E hnm rfl rfl inX0_init_X0 tyX0 tyX0_ok nmX0 0 (by decide) (by decide +kernel) (fun _ h => h) rfl rfl rfl rfl rfl (Nat.le_of_ble_eq_true rfl) dX0_init_13 ?_
  refine yy_aload_n (pc := 16) E dX0_init_16 rfl ?_
  refine yy_bipush (pc := 17) (v := nI 13) E dX0_init_17 (by decide) ?_
  refine yy_newa (pc := 19) (N := 13) (q := b + 8) E (by decide +kernel) (by decide) (by decide) (by decide) (Nat.le_of_ble_eq_true rfl) (Nat.le_of_ble_eq_true rfl) dX0_init_19 rfl ?_
  refine yy_pf (pc := 21) (L0 := yy_rq (G.2.1 3) 6 (fun i => if i < 6 then some (b + 1 + 1 + i) else none) :: List.replicate 6 (yy_ar G 13 yy_o) ++ [yy_ar G 13 yy_o]) E hnm rfl rfl inX0_init_X0 tyX0 tyX0_ok nmX0 1 (by decide) (by decide +kernel) (fun _ h => h) rfl rfl rfl rfl rfl (Nat.le_of_ble_eq_true rfl) dX0_init_21 ?_
  exact yy_vret (pc := 24) E hr hlk dX0_init_24 rfl

theorem inX4_init_X4 : ∀ w ∈ u_ws RX4 TX4 2, w ∈ wsX4_init := by decide +kernel
theorem inX4_init_X5 : ∀ w ∈ u_ws RX5 TX5 2, w ∈ wsX4_init := by decide +kernel
set_option maxRecDepth 100000 in
set_option maxHeartbeats 2000000 in
theorem ktX4_init (l : Launch) (G : zz_C) (b : Nat) : Met l yX4_init wsX4_init ({ frames := 2, cells := 4, slots := 49, locals := 60 } : Room) (yy_C G b [.inr (4, [.null, .null])] [.ref b]) (yy_Q G b (yy_read G b)) 4 49 (fun q => b ≤ q) := by
  refine yy_start (cc := cX4_init) (maxL := 1) (ws' := _) (by decide +kernel) rfl (Nat.le_of_ble_eq_true rfl) ?_
  intro p e s m below meth c E hr hlk hnm
  have hts := E.2.2.2.2.1
  show yy_Z p l e (headSpec wsX4_init ({ frames := 2, cells := 4, slots := 49, locals := 60 } : Room)).room s m ([.ref b] : List Value).toArray below meth c 0 0 (MQ below (yy_Q G b (yy_read G b)) ([.ref b] : List Value).toArray s (4) (49) (fun q => b ≤ q)) 1 G b [.inr (4, [.null, .null])] 0 (lv_args 0 [.ref b]) []
  refine yy_aload_n (pc := 0) E dX4_init_0 rfl ?_
  refine yy_obj (pc := 1) E (by decide +kernel) (by decide +kernel) (by decide +kernel) (Nat.le_of_ble_eq_true rfl) (Nat.le_of_ble_eq_true rfl) dX4_init_1 ?_
  refine yy_aload_n (pc := 4) E dX4_init_4 rfl ?_
  refine yy_new (pc := 5) (ci := 5) (C := RX5) (T := TX5) (N := 2) (fs := [.null, .int 0]) (q := b + 1) E inX4_init_X5 tyX5 tyX5_ok (by decide +kernel) (by decide +kernel) (by decide +kernel) rfl (by decide +kernel) (Nat.le_of_ble_eq_true rfl) (Nat.le_of_ble_eq_true rfl) dX4_init_5 rfl ?_
  refine yy_dup (pc := 8) E dX4_init_8 rfl ?_
  refine yy_bipush (pc := 9) (v := nI 33) E dX4_init_9 (by decide) ?_
  refine yy_cI (pc := 11) (As := [.int (nI 33)]) (L0 := [.inr (4, [.null, .null])]) E (ktX5_init l G (b + 1) 33 (by decide)) (cwI 1 hts gX4_init_X5_init rfl rfl rfl (hts (.initialized RX5) (by decide +kernel)) (hts (.methodLink RX4 11 yX5_init) (by decide +kernel)) (hts (.instanceMethod yX5_init) (by decide +kernel)) rfl (by decide +kernel) ⟨Nat.le_of_ble_eq_true rfl, Nat.le_of_ble_eq_true rfl⟩) rfl rfl rfl rfl (Nat.le_of_ble_eq_true rfl) dX4_init_11 ⟨(Nat.le_of_ble_eq_true rfl), (Nat.le_of_ble_eq_true rfl)⟩ ?_
  refine yy_pf (pc := 14) (L0 := yy_row G (b + 1) 33) E hnm rfl rfl inX4_init_X4 tyX4 tyX4_ok nmX4 0 (by decide) (by decide +kernel) (fun _ h => h) rfl rfl rfl rfl rfl (Nat.le_of_ble_eq_true rfl) dX4_init_14 ?_
  refine yy_aload_n (pc := 17) E dX4_init_17 rfl ?_
  refine yy_new (pc := 18) (ci := 5) (C := RX5) (T := TX5) (N := 2) (fs := [.null, .int 0]) (q := b + 3) E inX4_init_X5 tyX5 tyX5_ok (by decide +kernel) (by decide +kernel) (by decide +kernel) rfl (by decide +kernel) (Nat.le_of_ble_eq_true rfl) (Nat.le_of_ble_eq_true rfl) dX4_init_18 rfl ?_
  refine yy_dup (pc := 21) E dX4_init_21 rfl ?_
  refine yy_bipush (pc := 22) (v := nI 12) E dX4_init_22 (by decide) ?_
  refine yy_cI (pc := 24) (As := [.int (nI 12)]) (L0 := .inr (4, [.ref (b + 1), .null]) :: yy_row G (b + 1) 33) E (ktX5_init l G (b + 3) 12 (by decide)) (cwI 1 hts gX4_init_X5_init rfl rfl rfl (hts (.initialized RX5) (by decide +kernel)) (hts (.methodLink RX4 11 yX5_init) (by decide +kernel)) (hts (.instanceMethod yX5_init) (by decide +kernel)) rfl (by decide +kernel) ⟨Nat.le_of_ble_eq_true rfl, Nat.le_of_ble_eq_true rfl⟩) rfl rfl rfl rfl (Nat.le_of_ble_eq_true rfl) dX4_init_24 ⟨(Nat.le_of_ble_eq_true rfl), (Nat.le_of_ble_eq_true rfl)⟩ ?_
  refine yy_pf (pc := 27) (L0 := yy_row G (b + 1) 33 ++ yy_row G (b + 3) 12) E hnm rfl rfl inX4_init_X4 tyX4 tyX4_ok nmX4 1 (by decide) (by decide +kernel) (fun _ h => h) rfl rfl rfl rfl rfl (Nat.le_of_ble_eq_true rfl) dX4_init_27 ?_
  exact yy_vret (pc := 30) E hr hlk dX4_init_30 rfl
