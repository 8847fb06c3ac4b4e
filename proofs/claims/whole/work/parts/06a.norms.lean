def zush (x y : Int32) : Int32 := (x.toUInt32 >>> (y.toUInt32 &&& Int32.toUInt32 31)).toInt32
def zbc5 (d : Int32) : Int32 := (d + zush d (nI 16)) &&& nI 63
def zbc4 (c : Int32) : Int32 := zbc5 (c + zush c (nI 8))
def zbc3 (b : Int32) : Int32 := zbc4 ((b + zush b (nI 4)) &&& 252645135)
def zbc2 (a : Int32) : Int32 := zbc3 ((a &&& 858993459) + (zush a (nI 2) &&& 858993459))
def zbcf (x : Int32) : Int32 := zbc2 (x - (zush x (nI 1) &&& 1431655765))
theorem zbc_ok : ∀ w, w < 64 → zbcf (nI w) = nI (zpc w) := by decide +kernel

theorem ciJ6_bitCount_0f7a4_265 : Cond.constant RJ6 265 (1431655765) ∈ wsJ6_bitCount_0f7a4 := by decide +kernel
theorem ciJ6_bitCount_0f7a4_266 : Cond.constant RJ6 266 (858993459) ∈ wsJ6_bitCount_0f7a4 := by decide +kernel
theorem ciJ6_bitCount_0f7a4_267 : Cond.constant RJ6 267 (252645135) ∈ wsJ6_bitCount_0f7a4 := by decide +kernel
set_option maxHeartbeats 4000000 in
set_option maxRecDepth 100000 in
theorem kkJ6_bitCount_0f7a4 (l : Launch) (G : zz_C) (hJ : zz_J G) (M : zz_M) (w : Nat) (hw : w < 64) : Met l yJ6_bitCount_0f7a4 wsJ6_bitCount_0f7a4 ({ frames := 0, cells := 0, slots := 0, locals := 0 } : Room) (zz_P G M [.int (nI w)]) (zz_Qi G (fun r M1 => M = M1 ∧ r = nI (zpc w))) 0 0 (zz_A G) := by
  refine zz_start hJ (by decide) rfl (Nat.le_of_ble_eq_true rfl) ?_
  intro p e s m below meth c E hr hlk
  have hts := E.2.2.2.2.1
  show zz_Z p l e (headSpec wsJ6_bitCount_0f7a4 ({ frames := 0, cells := 0, slots := 0, locals := 0 } : Room)).room s m ([.int (nI w)] : List Value).toArray below meth c 0 0 (MQ below (zz_Qi G (fun r M1 => M = M1 ∧ r = nI (zpc w))) ([.int (nI w)] : List Value).toArray s 0 0 (zz_A G)) 1 G (zz_A G) M 0 [(0, .int (nI w))] []
  refine zz_iload_n (pc := 0) E dJ6_bitCount_0f7a4_0 rfl ?_
  refine zz_iload_n (pc := 1) E dJ6_bitCount_0f7a4_1 rfl ?_
  refine zz_iconst (pc := 2) (v := nI 1) E dJ6_bitCount_0f7a4_2 (by decide) ?_
  refine zz_iushr (pc := 3) E dJ6_bitCount_0f7a4_3 rfl ?_
  refine zz_ldcw (pc := 4) (v := 1431655765) E ciJ6_bitCount_0f7a4_265 dJ6_bitCount_0f7a4_4 ?_
  refine zz_iand (pc := 7) E dJ6_bitCount_0f7a4_7 ?_
  refine zz_isub (pc := 8) E dJ6_bitCount_0f7a4_8 ?_
  refine zz_istore_n (pc := 9) (lv' := [(0, _)]) E dJ6_bitCount_0f7a4_9 (by decide) rfl ?_
  refine zz_iload_n (pc := 10) E dJ6_bitCount_0f7a4_10 rfl ?_
  refine zz_ldcw (pc := 11) (v := 858993459) E ciJ6_bitCount_0f7a4_266 dJ6_bitCount_0f7a4_11 ?_
  refine zz_iand (pc := 14) E dJ6_bitCount_0f7a4_14 ?_
  refine zz_iload_n (pc := 15) E dJ6_bitCount_0f7a4_15 rfl ?_
  refine zz_iconst (pc := 16) (v := nI 2) E dJ6_bitCount_0f7a4_16 (by decide) ?_
  refine zz_iushr (pc := 17) E dJ6_bitCount_0f7a4_17 rfl ?_
  refine zz_ldcw (pc := 18) (v := 858993459) E ciJ6_bitCount_0f7a4_266 dJ6_bitCount_0f7a4_18 ?_
  refine zz_iand (pc := 21) E dJ6_bitCount_0f7a4_21 ?_
  refine zz_iadd (pc := 22) E dJ6_bitCount_0f7a4_22 ?_
  refine zz_istore_n (pc := 23) (lv' := [(0, _)]) E dJ6_bitCount_0f7a4_23 (by decide) rfl ?_
  refine zz_iload_n (pc := 24) E dJ6_bitCount_0f7a4_24 rfl ?_
  refine zz_iload_n (pc := 25) E dJ6_bitCount_0f7a4_25 rfl ?_
  refine zz_iconst (pc := 26) (v := nI 4) E dJ6_bitCount_0f7a4_26 (by decide) ?_
  refine zz_iushr (pc := 27) E dJ6_bitCount_0f7a4_27 rfl ?_
  refine zz_iadd (pc := 28) E dJ6_bitCount_0f7a4_28 ?_
  refine zz_ldcw (pc := 29) (v := 252645135) E ciJ6_bitCount_0f7a4_267 dJ6_bitCount_0f7a4_29 ?_
  refine zz_iand (pc := 32) E dJ6_bitCount_0f7a4_32 ?_
  refine zz_istore_n (pc := 33) (lv' := [(0, _)]) E dJ6_bitCount_0f7a4_33 (by decide) rfl ?_
  refine zz_iload_n (pc := 34) E dJ6_bitCount_0f7a4_34 rfl ?_
  refine zz_iload_n (pc := 35) E dJ6_bitCount_0f7a4_35 rfl ?_
  refine zz_bipush (pc := 36) (v := nI 8) E dJ6_bitCount_0f7a4_36 (by decide) ?_
  refine zz_iushr (pc := 38) E dJ6_bitCount_0f7a4_38 rfl ?_
  refine zz_iadd (pc := 39) E dJ6_bitCount_0f7a4_39 ?_
  refine zz_istore_n (pc := 40) (lv' := [(0, _)]) E dJ6_bitCount_0f7a4_40 (by decide) rfl ?_
  refine zz_iload_n (pc := 41) E dJ6_bitCount_0f7a4_41 rfl ?_
  refine zz_iload_n (pc := 42) E dJ6_bitCount_0f7a4_42 rfl ?_
  refine zz_bipush (pc := 43) (v := nI 16) E dJ6_bitCount_0f7a4_43 (by decide) ?_
  refine zz_iushr (pc := 45) E dJ6_bitCount_0f7a4_45 rfl ?_
  refine zz_iadd (pc := 46) E dJ6_bitCount_0f7a4_46 ?_
  refine zz_istore_n (pc := 47) (lv' := [(0, _)]) E dJ6_bitCount_0f7a4_47 (by decide) rfl ?_
  refine zz_iload_n (pc := 48) E dJ6_bitCount_0f7a4_48 rfl ?_
  refine zz_bipush (pc := 49) (v := nI 63) E dJ6_bitCount_0f7a4_49 (by decide) ?_
  refine zz_iand (pc := 51) E dJ6_bitCount_0f7a4_51 ?_
  exact zz_iret (pc := 52) E hr hlk dJ6_bitCount_0f7a4_52 ⟨rfl, zbc_ok w hw⟩

set_option maxHeartbeats 4000000 in
set_option maxRecDepth 100000 in
theorem kkJ7_fill_53178 (l : Launch) (G : zz_C) (hJ : zz_J G) (M : zz_M) (k n : Nat) (x : Int32) (hk : k < 111) (hF : ∀ f, zz_F G k f = .inl (G.2.1 0, n, .inl f)) (hn : n < 2 ^ 31) : Met l yJ7_fill_53178 wsJ7_fill_53178 ({ frames := 0, cells := 0, slots := 0, locals := 0 } : Room) (zz_P G M [.ref (G.2.2 k), .int x]) (zz_Qv G (fun M1 => zfr [k] M M1 ∧ ∀ i, i < n → M1 k i = x)) 0 0 (zz_A G) := by
  refine zz_start hJ (by decide) rfl (Nat.le_of_ble_eq_true rfl) ?_
  intro p e s m below meth c E hr hlk
  have hts := E.2.2.2.2.1
  show zz_Z p l e (headSpec wsJ7_fill_53178 ({ frames := 0, cells := 0, slots := 0, locals := 0 } : Room)).room s m ([.ref (G.2.2 k), .int x] : List Value).toArray below meth c 0 0 (MQ below (zz_Qv G (fun M1 => zfr [k] M M1 ∧ ∀ i, i < n → M1 k i = x)) ([.ref (G.2.2 k), .int x] : List Value).toArray s 0 0 (zz_A G)) 4 G (zz_A G) M 0 [(0, .ref (G.2.2 k)), (1, .int x)] []
  refine zz_iconst (pc := 0) (v := nI 0) E dJ7_fill_53178_0 (by decide) ?_
  refine zz_istore_n (pc := 1) (lv' := [(0, _), (1, _), (2, _)]) E dJ7_fill_53178_1 (by decide) rfl ?_
  refine zz_aload_n (pc := 2) E dJ7_fill_53178_2 rfl ?_
  refine zz_alen (pc := 3) E k (n := n) hk (hF _) dJ7_fill_53178_3 ?_
  refine zz_istore_n (pc := 4) (lv' := [(0, _), (1, _), (2, _), (3, _)]) E dJ7_fill_53178_4 (by decide) rfl ?_
  have key : ∀ (j i : Nat) (M2 : zz_M), i + j = n → zfr [k] M M2 → (∀ q, q < i → M2 k q = x) → zz_Z p l e (headSpec wsJ7_fill_53178 ({ frames := 0, cells := 0, slots := 0, locals := 0 } : Room)).room s m ([.ref (G.2.2 k), .int x] : List Value).toArray below meth c 0 0 (MQ below (zz_Qv G (fun M1 => zfr [k] M M1 ∧ ∀ i, i < n → M1 k i = x)) ([.ref (G.2.2 k), .int x] : List Value).toArray s 0 0 (zz_A G)) 4 G (zz_A G) M2 5 [(0, .ref (G.2.2 k)), (1, .int x), (2, .int (nI i)), (3, .int (nI n))] [] := by
    intro j
    induction j with
    | zero =>
      intro i M2 hi hf hq
      refine zz_iload_n (pc := 5) E dJ7_fill_53178_5 rfl ?_
      refine zz_iload_n (pc := 6) E dJ7_fill_53178_6 rfl ?_
      refine zn_icmp_ge (pc := 7) (tgt := 20) E dJ7_fill_53178_7 (by decide) (by omega) (by omega) (fun h7 => ?_) (fun h7 => ?_)
      · exact zz_vret (pc := 20) E hr hlk dJ7_fill_53178_20 ⟨hf, fun q hq2 => hq q (by omega)⟩
      · exact absurd h7 (by omega)
    | succ j ih =>
      intro i M2 hi hf hq
      refine zz_iload_n (pc := 5) E dJ7_fill_53178_5 rfl ?_
      refine zz_iload_n (pc := 6) E dJ7_fill_53178_6 rfl ?_
      refine zn_icmp_ge (pc := 7) (tgt := 20) E dJ7_fill_53178_7 (by decide) (by omega) (by omega) (fun h7 => ?_) (fun h7 => ?_)
      · exact absurd h7 (by omega)
      · refine zz_aload_n (pc := 10) E dJ7_fill_53178_10 rfl ?_
        refine zz_iload_n (pc := 11) E dJ7_fill_53178_11 rfl ?_
        refine zz_iload_n (pc := 12) E dJ7_fill_53178_12 rfl ?_
        refine zz_iast (pc := 13) E k (_) (n := n) hk hF rfl (by omega) hn dJ7_fill_53178_13 ?_
        refine zn_inc (pc := 14) (lv' := [(0, _), (1, _), (2, _), (3, _)]) E dJ7_fill_53178_14 rfl (by decide) rfl ?_
        refine zz_goto (pc := 17) (tgt := 5) E dJ7_fill_53178_17 (by decide) ?_
        exact zz_to (ih (i + 1) _ (by omega) (zfr_up hf (by simp)) (fun q hq2 => by rw [zz_up_same]; by_cases e : q = i; rw [e, upd_same]; rw [upd_ne _ _ e]; exact hq q (by omega))) ⟨rfl, rfl, rfl, rfl, trivial⟩
  exact zz_to (key n 0 M (by omega) (zfr_rf _ _) (fun q h => absurd h (by omega))) ⟨rfl, rfl, rfl, rfl, trivial⟩

/-! norms: none is no word -/
def zoa (a b : Option Nat) : Option Nat := match a, b with
  | some x, some y => some (x + y)
  | _, _ => none
def znorm (v : Nat → Option Nat) : List Nat → Option Nat
  | [] => some 0
  | x :: t => zoa (v x) (znorm v t)
/-- by a letter, if there is one -/
def zby (S v : Nat → Option Nat) (s : Nat) (ol : Option Nat) : Option Nat := match ol with
  | none => none
  | some a => match S (3 * s + a) with
    | none => none
    | some r => (znorm v (zr r)).map (· + 1)
/-- the best of the letters below l: the letter, the norm -/
def zbest (S v : Nat → Option Nat) (s : Nat) : Nat → Option Nat × Option Nat
  | 0 => (none, none)
  | l + 1 => match zby S v s (some l) with
    | none => zbest S v s l
    | some m => match (zbest S v s l).2 with
      | none => (some l, some m)
      | some n => if m < n then (some l, some m) else zbest S v s l
def zmin (S v : Nat → Option Nat) (s : Nat) : Option Nat := (zbest S v s 3).2
theorem zbest_by (S v : Nat → Option Nat) (s : Nat) : ∀ l, zby S v s (zbest S v s l).1 = (zbest S v s l).2
  | 0 => rfl
  | l + 1 => by
    rw [zbest]
    cases h : zby S v s (some l) with
    | none => exact zbest_by S v s l
    | some m =>
      cases h2 : (zbest S v s l).2 with
      | none => exact h
      | some n =>
        show zby S v s (if m < n then (some l, some m) else zbest S v s l).1 = (if m < n then (some l, some m) else zbest S v s l).2
        by_cases hm : m < n
        · rw [if_pos hm]; exact h
        · rw [if_neg hm]; exact zbest_by S v s l
theorem zbest_lt (S v : Nat → Option Nat) (s : Nat) : ∀ l a, (zbest S v s l).1 = some a → a < l
  | 0, a, h => by cases h
  | l + 1, a, h => by
    rw [zbest] at h
    cases h1 : zby S v s (some l) with
    | none => rw [h1] at h; have := zbest_lt S v s l a h; omega
    | some m =>
      rw [h1] at h
      cases h2 : (zbest S v s l).2 with
      | none =>
        rw [h2] at h
        have h : some l = some a := h
        cases h
        omega
      | some n =>
        rw [h2] at h
        have h : (if m < n then (some l, some m) else zbest S v s l).1 = some a := h
        by_cases hm : m < n
        · rw [if_pos hm] at h
          have h : some l = some a := h
          cases h
          omega
        · rw [if_neg hm] at h
          have := zbest_lt S v s l a h
          omega
theorem znorm_app (v : Nat → Option Nat) : ∀ (L K : List Nat), znorm v (L ++ K) = zoa (znorm v L) (znorm v K)
  | [], K => by
    show znorm v K = zoa (some 0) (znorm v K)
    cases znorm v K with
    | none => rfl
    | some k => show some k = some (0 + k); rw [Nat.zero_add]
  | x :: L, K => by
    show zoa (v x) (znorm v (L ++ K)) = zoa (zoa (v x) (znorm v L)) (znorm v K)
    rw [znorm_app v L K]
    cases v x <;> cases znorm v L <;> cases znorm v K <;> simp [zoa, Nat.add_assoc]
theorem znorm_none {v : Nat → Option Nat} {x : Nat} : ∀ {L : List Nat}, x ∈ L → v x = none → znorm v L = none
  | y :: L, h, hx => by
    rcases List.mem_cons.mp h with rfl | h
    · show zoa (v x) _ = none
      rw [hx]
      rfl
    · show zoa _ (znorm v L) = none
      rw [znorm_none h hx]
      cases v y <;> rfl
theorem znorm_le {v : Nat → Option Nat} {B : Nat} (hB : ∀ s, s < 6 → ∀ n, v s = some n → n ≤ B) : ∀ {L : List Nat} {n : Nat}, (∀ x ∈ L, x < 6) → znorm v L = some n → n ≤ B * L.length
  | [], n, _, h => by cases h; exact Nat.zero_le _
  | x :: L, n, h6, h => by
    have h : zoa (v x) (znorm v L) = some n := h
    cases hv : v x with
    | none => rw [hv] at h; cases h
    | some a =>
      cases hn : znorm v L with
      | none => rw [hv, hn] at h; cases h
      | some b =>
        rw [hv, hn] at h
        cases h
        have h1 := hB x (h6 x List.mem_cons_self) a hv
        have h2 := znorm_le hB (fun y hy => h6 y (List.mem_cons_of_mem _ hy)) hn
        rw [List.length_cons, Nat.mul_add, Nat.mul_one]
        omega
def znm (M : zz_M) (v : Nat → Option Nat) : Prop := ∀ s, s < 6 → M 12 s = zo (v s)
def zbd (v : Nat → Option Nat) (B : Nat) : Prop := ∀ s, s < 6 → ∀ n, v s = some n → n ≤ B

theorem niX2_of_X7_isSign : Cond.initialized RX7 ∈ wsX2_of := by decide +kernel
theorem nsX2_of_X7_isSign : Cond.static yX7_isSign ∈ wsX2_of := by decide +kernel
theorem inX2_of_X2 : ∀ w ∈ u_ws RX2 TX2 1, w ∈ wsX2_of := by decide +kernel
theorem lkX2_of_9 : Cond.fieldLink RX2 9 RX2 "ofSign" "[I" ∈ wsX2_of := by decide +kernel
set_option maxHeartbeats 4000000 in
set_option maxRecDepth 100000 in
theorem kkX2_of (l : Launch) (G : zz_C) (hJ : zz_J G) (M : zz_M) (v : Nat → Option Nat) (s0 : Nat) (hv : znm M v) (hs0 : s0 < 6) : Met l yX2_of wsX2_of ({ frames := 1, cells := 0, slots := 0, locals := 20 } : Room) (zz_P G M [.ref (G.2.2 11), .int (nI s0)]) (zz_Qi G (fun r M1 => M = M1 ∧ r = zo (v s0))) 0 0 (zz_A G) := by
  refine zz_start hJ (by decide) rfl (Nat.le_of_ble_eq_true rfl) ?_
  intro p e s m below meth c E hr hlk
  have hts := E.2.2.2.2.1
  show zz_Z p l e (headSpec wsX2_of ({ frames := 1, cells := 0, slots := 0, locals := 20 } : Room)).room s m ([.ref (G.2.2 11), .int (nI s0)] : List Value).toArray below meth c 0 0 (MQ below (zz_Qi G (fun r M1 => M = M1 ∧ r = zo (v s0))) ([.ref (G.2.2 11), .int (nI s0)] : List Value).toArray s 0 0 (zz_A G)) 2 G (zz_A G) M 0 [(0, .ref (G.2.2 11)), (1, .int (nI s0))] []
  refine zz_iload_n (pc := 0) E dX2_of_0 rfl ?_
  refine zz_ciN (pc := 1) E (kkX7_isSign l G hJ _ _ ) ⟨va_cnB 1 hts gX2_of_X7_isSign_n42 rfl rfl rfl E.2.2.2.2.2.2.1.2.2.2.1 (hts _ niX2_of_X7_isSign) (by decide +kernel) ⟨Nat.le_of_ble_eq_true rfl, Nat.le_of_ble_eq_true rfl⟩, hts _ nsX2_of_X7_isSign, trivial⟩ rfl rfl (Nat.le_of_ble_eq_true rfl) dX2_of_1 (fun r1 M1 q1 => ?_)
  obtain ⟨rfl, rfl⟩ := q1
  refine zb_if_eq (pc := 4) (tgt := 16) E dX2_of_4 (by decide) (fun h4 => ?_) (fun h4 => ?_)
  · rw [zp_in_nI (by omega), decide_eq_true hs0] at h4
    cases h4
  · refine zz_aload_n (pc := 7) E dX2_of_7 rfl ?_
    refine zz_gf (pc := 8) E 11 (by decide) rfl rfl inX2_of_X2 0 (by decide) lkX2_of_9 (fun _ h => h) rfl dX2_of_8 ?_
    refine zz_iload_n (pc := 11) E dX2_of_11 rfl ?_
    refine zz_iald (pc := 12) E 12 (_) (n := 6) (by decide) rfl rfl (by omega) (by decide) dX2_of_12 ?_
    refine zz_goto (pc := 13) (tgt := 18) E dX2_of_13 (by decide) ?_
    exact zz_iret (pc := 18) E hr hlk dX2_of_18 ⟨rfl, hv s0 hs0⟩

set_option maxHeartbeats 4000000 in
set_option maxRecDepth 100000 in
theorem kkX2_ofRow (l : Launch) (G : zz_C) (hJ : zz_J G) (M : zz_M) (v : Nat → Option Nat) (a kn mo B : Nat) (hv : znm M v) (hB : zbd v B) (hBs : B < 100000) (hz : zok a 6 mo = true) (hmo : mo < 10) : Met l yX2_ofRow wsX2_ofRow ({ frames := 2, cells := 0, slots := 0, locals := 41 } : Room) (zz_P G M [.ref (G.2.2 11), .int (nI a)]) (zz_Qi G (fun r M1 => M = M1 ∧ r = zo (znorm v (zr a)))) 0 0 (zz_A G) := by
  refine zz_start hJ (by decide) rfl (Nat.le_of_ble_eq_true rfl) ?_
  intro p e s m below meth c E hr hlk
  have hts := E.2.2.2.2.1
  show zz_Z p l e (headSpec wsX2_ofRow ({ frames := 2, cells := 0, slots := 0, locals := 41 } : Room)).room s m ([.ref (G.2.2 11), .int (nI a)] : List Value).toArray below meth c 0 0 (MQ below (zz_Qi G (fun r M1 => M = M1 ∧ r = zo (znorm v (zr a)))) ([.ref (G.2.2 11), .int (nI a)] : List Value).toArray s 0 0 (zz_A G)) 5 G (zz_A G) M 0 [(0, .ref (G.2.2 11)), (1, .int (nI a))] []
  have ha : a < 2 ^ 31 := by
    have h1 := zok_lt hz (by omega)
    have h2 : 10 ^ mo ≤ 10 ^ 9 := Nat.pow_le_pow_right (by decide) (by omega)
    omega
  refine zz_iconst (pc := 0) (v := nI 0) E dX2_ofRow_0 (by decide) ?_
  refine zz_istore_n (pc := 1) (lv' := [(0, _), (1, _), (2, _)]) E dX2_ofRow_1 (by decide) rfl ?_
  refine zz_iload_n (pc := 2) E dX2_ofRow_2 rfl ?_
  refine zz_istore_n (pc := 3) (lv' := [(0, _), (1, _), (2, _), (3, _)]) E dX2_ofRow_3 (by decide) rfl ?_
  have key : ∀ (j b n : Nat) (K : List Nat), (zd b).length = j → b < 2 ^ 31 → zok b 6 mo = true → zr a = zr b ++ K → znorm v K = some n → zz_Z p l e (headSpec wsX2_ofRow ({ frames := 2, cells := 0, slots := 0, locals := 41 } : Room)).room s m ([.ref (G.2.2 11), .int (nI a)] : List Value).toArray below meth c 0 0 (MQ below (zz_Qi G (fun r M1 => M = M1 ∧ r = zo (znorm v (zr a)))) ([.ref (G.2.2 11), .int (nI a)] : List Value).toArray s 0 0 (zz_A G)) 5 G (zz_A G) M 4 [(0, .ref (G.2.2 11)), (2, .int (nI n)), (3, .int (nI b))] [] := by
    intro j
    induction j with
    | zero =>
      intro b n K hj hb hzb he hn
      have hb0 := zd_len0 hj (by omega)
      subst hb0
      refine zz_iload_n (pc := 4) E dX2_ofRow_4 rfl ?_
      refine zn_if_le (pc := 5) (tgt := 43) E dX2_ofRow_5 (by decide) (by omega) (fun h5 => ?_) (fun h5 => ?_)
      · refine zz_iload_n (pc := 43) E dX2_ofRow_43 rfl ?_
        exact zz_iret (pc := 44) E hr hlk dX2_ofRow_44 ⟨rfl, by rw [he, zr_0, List.nil_append, hn]; rfl⟩
      · exact absurd h5 (by omega)
    | succ j ih =>
      intro b n K hj hb hzb he hn
      have h0 : 0 < b := by
        rcases Nat.eq_zero_or_pos b with h | h
        · rw [h] at hj; cases hj
        · exact h
      have hd := zok_digit hzb h0 (by omega)
      rw [zd_pos h0 (by omega), List.length_cons] at hj
      have hlt : ∀ q, v (b % 10 - 1) = some q → q < 2 ^ 31 := fun q hq => by have := hB _ (by omega) q hq; omega
      rw [zr_pos h0 (by omega)] at he
      refine zz_iload_n (pc := 4) E dX2_ofRow_4 rfl ?_
      refine zn_if_le (pc := 5) (tgt := 43) E dX2_ofRow_5 (by decide) (by omega) (fun h5 => ?_) (fun h5 => ?_)
      · exact absurd h5 (by omega)
      · refine zz_aload_n (pc := 8) E dX2_ofRow_8 rfl ?_
        refine zz_iload_n (pc := 9) E dX2_ofRow_9 rfl ?_
        refine zz_bipush (pc := 10) (v := nI 10) E dX2_ofRow_10 (by decide) ?_
        refine zn_irem (pc := 12) E dX2_ofRow_12 (by omega) (by omega) (by omega) ?_
        refine zz_iconst (pc := 13) (v := nI 1) E dX2_ofRow_13 (by decide) ?_
        refine zn_isub (pc := 14) E dX2_ofRow_14 (by omega) ?_
        refine zz_ciV (pc := 15) E 11 (kkX2_of l G hJ _  v _ hv (by omega)) (cwV 1 hts gX2_ofRow_X2_of rfl rfl rfl (by decide +kernel) ⟨Nat.le_of_ble_eq_true rfl, Nat.le_of_ble_eq_true rfl⟩) (by decide) rfl rfl rfl rfl (Nat.le_of_ble_eq_true rfl) dX2_ofRow_15 (fun r15 M15 q15 => ?_)
        obtain ⟨rfl, rfl⟩ := q15
        refine zz_istore (pc := 18) (lv' := [(0, _), (2, _), (3, _), (4, _)]) E dX2_ofRow_18 (by decide) rfl ?_
        refine zz_iload (pc := 20) E dX2_ofRow_20 rfl ?_
        refine zz_bipush (pc := 22) (v := -9) E dX2_ofRow_22 (by decide) ?_
        refine zz_icmp_ne (pc := 24) (tgt := 30) E dX2_ofRow_24 (by decide) (fun h24 => ?_) (fun h24 => ?_)
        · obtain ⟨q, hq⟩ : ∃ q, v (b % 10 - 1) = some q := by
            cases hv2 : v (b % 10 - 1) with
            | none => exact absurd (by rw [hv2]; rfl) h24
            | some q => exact ⟨q, rfl⟩
          refine zz_iload_n (pc := 30) E dX2_ofRow_30 rfl ?_
          refine zz_iload (pc := 31) E dX2_ofRow_31 rfl ?_
          refine zz_eqi (y := nI q) (by rw [hq]; rfl) ?_
          refine zn_iadd (pc := 33) E dX2_ofRow_33 ?_
          refine zz_istore_n (pc := 34) (lv' := [(0, _), (2, _), (3, _), (4, _)]) E dX2_ofRow_34 (by decide) rfl ?_
          refine zz_iload_n (pc := 35) E dX2_ofRow_35 rfl ?_
          refine zz_bipush (pc := 36) (v := nI 10) E dX2_ofRow_36 (by decide) ?_
          refine zn_idiv (pc := 38) E dX2_ofRow_38 (by omega) (by omega) (by omega) ?_
          refine zz_istore_n (pc := 39) (lv' := [(0, _), (2, _), (3, _), (4, _)]) E dX2_ofRow_39 (by decide) rfl ?_
          refine zz_goto (pc := 40) (tgt := 4) E dX2_ofRow_40 (by decide) ?_
          exact zz_to (ih (b / 10) (n + q) ((b % 10 - 1) :: K) (by omega) (by omega) (zok_half hzb (by omega)) (by rw [he]; simp) (by show zoa (v (b % 10 - 1)) (znorm v K) = _; rw [hq, hn, Nat.add_comm n]; rfl)) ⟨rfl, rfl, rfl, trivial⟩
        · rw [zo_m9 hlt] at h24
          refine zz_bipush (pc := 27) (v := -9) E dX2_ofRow_27 (by decide) ?_
          exact zz_iret (pc := 29) E hr hlk dX2_ofRow_29 ⟨rfl, by rw [he, znorm_none (x := b % 10 - 1) (by simp) h24]; rfl⟩
  exact zz_to (key _ a 0 [] rfl ha hz (by simp) rfl) ⟨rfl, rfl, rfl, trivial⟩

set_option maxHeartbeats 4000000 in
set_option maxRecDepth 100000 in
theorem kkX2_byLetter (l : Launch) (G : zz_C) (hJ : zz_J G) (M : zz_M) (S v : Nat → Option Nat) (s0 : Nat) (ol : Option Nat) (B : Nat) (hV : zV S) (hS : ztab M 1 S) (hv : znm M v) (hB : zbd v B) (hBs : B < 100000) (hs0 : s0 < 6) (hol : ∀ a, ol = some a → a < 3) : Met l yX2_byLetter wsX2_byLetter ({ frames := 3, cells := 0, slots := 0, locals := 65 } : Room) (zz_P G M [.ref (G.2.2 11), .ref (G.2.2 1), .int (nI s0), .int (zo ol)]) (zz_Qi G (fun r M1 => M = M1 ∧ r = zo (zby S v s0 ol))) 0 0 (zz_A G) := by
  refine zz_start hJ (by decide) rfl (Nat.le_of_ble_eq_true rfl) ?_
  intro p e s m below meth c E hr hlk
  have hts := E.2.2.2.2.1
  show zz_Z p l e (headSpec wsX2_byLetter ({ frames := 3, cells := 0, slots := 0, locals := 65 } : Room)).room s m ([.ref (G.2.2 11), .ref (G.2.2 1), .int (nI s0), .int (zo ol)] : List Value).toArray below meth c 0 0 (MQ below (zz_Qi G (fun r M1 => M = M1 ∧ r = zo (zby S v s0 ol))) ([.ref (G.2.2 11), .ref (G.2.2 1), .int (nI s0), .int (zo ol)] : List Value).toArray s 0 0 (zz_A G)) 6 G (zz_A G) M 0 [(0, .ref (G.2.2 11)), (1, .ref (G.2.2 1)), (2, .int (nI s0)), (3, .int (zo ol))] []
  have hrr : zrl M 1 (nI s0) (zo ol) = zo (ol.bind (fun a => S (3 * s0 + a))) := by
    cases ol with
    | none => exact zrl_m9'
    | some a =>
      have ha := hol a rfl
      show zrl M 1 (nI s0) (nI a) = zo (S (3 * s0 + a))
      rw [zrl_nI hs0 ha]
      exact hS.1 _ (by omega)
  have hok : ∀ r, ol.bind (fun a => S (3 * s0 + a)) = some r → zok r 6 3 = true ∧ r < 1000 := by
    intro r hr2
    cases ol with
    | none => cases hr2
    | some a =>
      have ha := hol a rfl
      exact ⟨hV.1 _ (by omega) r hr2, zV_lt hV (by omega) hr2⟩
  have hby : zby S v s0 ol = match ol.bind (fun a => S (3 * s0 + a)) with
    | none => none
    | some r => (znorm v (zr r)).map (· + 1) := by
    cases ol with
    | none => rfl
    | some a => rfl
  generalize ol.bind (fun a => S (3 * s0 + a)) = rl at hrr hok hby
  refine zz_aload_n (pc := 0) E dX2_byLetter_0 rfl ?_
  refine zz_iload_n (pc := 1) E dX2_byLetter_1 rfl ?_
  refine zz_iload_n (pc := 2) E dX2_byLetter_2 rfl ?_
  refine zz_ciV (pc := 3) E 1 (kkX6_ruleOf l G hJ _ _ zz_T1 _ _) (cwV 2 hts gX2_byLetter_X6_ruleOf rfl rfl rfl (by decide +kernel) ⟨Nat.le_of_ble_eq_true rfl, Nat.le_of_ble_eq_true rfl⟩) (by decide) rfl rfl rfl rfl (Nat.le_of_ble_eq_true rfl) dX2_byLetter_3 (fun r3 M3 q3 => ?_)
  obtain ⟨rfl, rfl⟩ := q3
  refine zz_eqi (y := zo rl) hrr ?_
  refine zz_istore (pc := 6) (lv' := [(0, _), (1, _), (2, _), (3, _), (4, _)]) E dX2_byLetter_6 (by decide) rfl ?_
  refine zz_iload (pc := 8) E dX2_byLetter_8 rfl ?_
  refine zz_bipush (pc := 10) (v := -9) E dX2_byLetter_10 (by decide) ?_
  refine zz_icmp_ne (pc := 12) (tgt := 20) E dX2_byLetter_12 (by decide) (fun h12 => ?_) (fun h12 => ?_)
  · obtain ⟨r, rfl⟩ : ∃ r, rl = some r := by
      cases rl with
      | none => exact absurd rfl h12
      | some r => exact ⟨r, rfl⟩
    have hok := hok r rfl
    have hby : zby S v s0 ol = (znorm v (zr r)).map (· + 1) := hby
    have hnb : ∀ q, znorm v (zr r) = some q → q < 2 ^ 31 := fun q hq => by
      have h1 := znorm_le hB (zr_lt hok.1) hq
      have h2 := zok_len hok.1
      rw [zr_len] at h1
      have h3 : B * (zd r).length ≤ B * 3 := Nat.mul_le_mul_left _ h2
      omega
    refine zz_aload_n (pc := 20) E dX2_byLetter_20 rfl ?_
    refine zz_iload (pc := 21) E dX2_byLetter_21 rfl ?_
    refine zz_eqi (y := nI r) rfl ?_
    refine zz_ciV (pc := 23) E 11 (kkX2_ofRow l G hJ _  v r 6 3 B hv hB hBs hok.1 (by decide)) (cwV 1 hts gX2_byLetter_X2_ofRow rfl rfl rfl (by decide +kernel) ⟨Nat.le_of_ble_eq_true rfl, Nat.le_of_ble_eq_true rfl⟩) (by decide) rfl rfl rfl rfl (Nat.le_of_ble_eq_true rfl) dX2_byLetter_23 (fun r23 M23 q23 => ?_)
    obtain ⟨rfl, rfl⟩ := q23
    refine zz_istore (pc := 26) (lv' := [(0, _), (1, _), (2, _), (3, _), (4, _), (5, _)]) E dX2_byLetter_26 (by decide) rfl ?_
    refine zz_iload (pc := 28) E dX2_byLetter_28 rfl ?_
    refine zz_bipush (pc := 30) (v := -9) E dX2_byLetter_30 (by decide) ?_
    refine zz_icmp_ne (pc := 32) (tgt := 40) E dX2_byLetter_32 (by decide) (fun h32 => ?_) (fun h32 => ?_)
    · obtain ⟨q, hq⟩ : ∃ q, znorm v (zr r) = some q := by
        cases hv2 : znorm v (zr r) with
        | none => exact absurd (by rw [hv2]; rfl) h32
        | some q => exact ⟨q, rfl⟩
      refine zz_iload (pc := 40) E dX2_byLetter_40 rfl ?_
      refine zz_eqi (y := nI q) (by rw [hq]; rfl) ?_
      refine zz_iconst (pc := 42) (v := nI 1) E dX2_byLetter_42 (by decide) ?_
      refine zn_iadd (pc := 43) E dX2_byLetter_43 ?_
      exact zz_iret (pc := 44) E hr hlk dX2_byLetter_44 ⟨rfl, by first | (rw [hby, hq]; rfl) | (rw [hby, h32]; rfl)⟩
    · rw [zo_m9 hnb] at h32
      refine zz_bipush (pc := 35) (v := -9) E dX2_byLetter_35 (by decide) ?_
      refine zz_goto (pc := 37) (tgt := 44) E dX2_byLetter_37 (by decide) ?_
      exact zz_iret (pc := 44) E hr hlk dX2_byLetter_44 ⟨rfl, by first | (rw [hby, hq]; rfl) | (rw [hby, h32]; rfl)⟩
  · rw [zo_m9 (fun r hr2 => by have := (hok r hr2).2; omega)] at h12
    subst h12
    have hby : zby S v s0 ol = none := hby
    refine zz_bipush (pc := 15) (v := -9) E dX2_byLetter_15 (by decide) ?_
    refine zz_goto (pc := 17) (tgt := 26) E dX2_byLetter_17 (by decide) ?_
    refine zz_istore (pc := 26) (lv' := [(0, _), (1, _), (2, _), (3, _), (4, _), (5, _)]) E dX2_byLetter_26 (by decide) rfl ?_
    refine zz_iload (pc := 28) E dX2_byLetter_28 rfl ?_
    refine zz_bipush (pc := 30) (v := -9) E dX2_byLetter_30 (by decide) ?_
    refine zz_icmp_ne (pc := 32) (tgt := 40) E dX2_byLetter_32 (by decide) (fun h32 => ?_) (fun h32 => ?_)
    · exact absurd rfl h32
    · refine zz_bipush (pc := 35) (v := -9) E dX2_byLetter_35 (by decide) ?_
      refine zz_goto (pc := 37) (tgt := 44) E dX2_byLetter_37 (by decide) ?_
      exact zz_iret (pc := 44) E hr hlk dX2_byLetter_44 ⟨rfl, by rw [hby]; rfl⟩

theorem zby_le {S v : Nat → Option Nat} {s0 B : Nat} {ol : Option Nat} (hV : zV S) (hB : zbd v B) (hs0 : s0 < 6) (hol : ∀ a, ol = some a → a < 3) {n : Nat} (h : zby S v s0 ol = some n) : n ≤ 3 * B + 1 := by
  cases ol with
  | none => cases h
  | some a =>
    have ha := hol a rfl
    have h : (match S (3 * s0 + a) with | none => none | some r => (znorm v (zr r)).map (· + 1)) = some n := h
    cases hs : S (3 * s0 + a) with
    | none => rw [hs] at h; cases h
    | some r =>
      rw [hs] at h
      have h : (znorm v (zr r)).map (· + 1) = some n := h
      cases hn : znorm v (zr r) with
      | none => rw [hn] at h; cases h
      | some q =>
        rw [hn] at h
        cases h
        have hz := hV.1 _ (by omega) r hs
        have h1 := znorm_le hB (zr_lt hz) hn
        have h2 := zok_len hz
        rw [zr_len] at h1
        have h3 : B * (zd r).length ≤ B * 3 := Nat.mul_le_mul_left _ h2
        show q + 1 ≤ 3 * B + 1
        omega
theorem zbest_le {S v : Nat → Option Nat} {s0 B : Nat} (hV : zV S) (hB : zbd v B) (hs0 : s0 < 6) {l n : Nat} (hl : l ≤ 3) (h : (zbest S v s0 l).2 = some n) : n ≤ 3 * B + 1 := by
  rw [← zbest_by] at h
  exact zby_le hV hB hs0 (fun a ha => by have := zbest_lt S v s0 l a ha; omega) h

set_option maxHeartbeats 4000000 in
set_option maxRecDepth 100000 in
theorem kkX2_leastLetter (l : Launch) (G : zz_C) (hJ : zz_J G) (M : zz_M) (S v : Nat → Option Nat) (B : Nat) (hV : zV S) (hS : ztab M 1 S) (hv : znm M v) (hB : zbd v B) (hBs : B < 100000) (s0 : Nat) (hs0 : s0 < 6) : Met l yX2_leastLetter wsX2_leastLetter ({ frames := 4, cells := 0, slots := 0, locals := 90 } : Room) (zz_P G M [.ref (G.2.2 11), .ref (G.2.2 1), .int (nI s0)]) (zz_Qi G (fun r M1 => M = M1 ∧ r = zo (zbest S v s0 3).1)) 0 0 (zz_A G) := by
  refine zz_start hJ (by decide) rfl (Nat.le_of_ble_eq_true rfl) ?_
  intro p e s m below meth c E hr hlk
  have hts := E.2.2.2.2.1
  show zz_Z p l e (headSpec wsX2_leastLetter ({ frames := 4, cells := 0, slots := 0, locals := 90 } : Room)).room s m ([.ref (G.2.2 11), .ref (G.2.2 1), .int (nI s0)] : List Value).toArray below meth c 0 0 (MQ below (zz_Qi G (fun r M1 => M = M1 ∧ r = zo (zbest S v s0 3).1)) ([.ref (G.2.2 11), .ref (G.2.2 1), .int (nI s0)] : List Value).toArray s 0 0 (zz_A G)) 7 G (zz_A G) M 0 [(0, .ref (G.2.2 11)), (1, .ref (G.2.2 1)), (2, .int (nI s0))] []
  refine zz_bipush (pc := 0) (v := -9) E dX2_leastLetter_0 (by decide) ?_
  refine zz_istore_n (pc := 2) (lv' := [(0, _), (1, _), (2, _), (3, _)]) E dX2_leastLetter_2 (by decide) rfl ?_
  refine zz_bipush (pc := 3) (v := -9) E dX2_leastLetter_3 (by decide) ?_
  refine zz_istore (pc := 5) (lv' := [(0, _), (1, _), (2, _), (3, _), (4, _)]) E dX2_leastLetter_5 (by decide) rfl ?_
  refine zz_iconst (pc := 7) (v := nI 0) E dX2_leastLetter_7 (by decide) ?_
  refine zz_istore (pc := 8) (lv' := [(0, _), (1, _), (2, _), (3, _), (4, _), (5, _)]) E dX2_leastLetter_8 (by decide) rfl ?_
  have key : ∀ (j i : Nat), i + j = 3 → zz_Z p l e (headSpec wsX2_leastLetter ({ frames := 4, cells := 0, slots := 0, locals := 90 } : Room)).room s m ([.ref (G.2.2 11), .ref (G.2.2 1), .int (nI s0)] : List Value).toArray below meth c 0 0 (MQ below (zz_Qi G (fun r M1 => M = M1 ∧ r = zo (zbest S v s0 3).1)) ([.ref (G.2.2 11), .ref (G.2.2 1), .int (nI s0)] : List Value).toArray s 0 0 (zz_A G)) 7 G (zz_A G) M 10 [(0, .ref (G.2.2 11)), (1, .ref (G.2.2 1)), (2, .int (nI s0)), (3, .int (zo (zbest S v s0 i).1)), (4, .int (zo (zbest S v s0 i).2)), (5, .int (nI i))] [] := by
    intro j
    induction j with
    | zero =>
      intro i hi
      refine zz_iload (pc := 10) E dX2_leastLetter_10 rfl ?_
      refine zz_iconst (pc := 12) (v := nI 3) E dX2_leastLetter_12 (by decide) ?_
      refine zn_icmp_ge (pc := 13) (tgt := 60) E dX2_leastLetter_13 (by decide) (by omega) (by omega) (fun h13 => ?_) (fun h13 => ?_)
      · refine zz_iload_n (pc := 60) E dX2_leastLetter_60 rfl ?_
        exact zz_iret (pc := 61) E hr hlk dX2_leastLetter_61 ⟨rfl, by rw [show i = 3 by omega]⟩
      · exact absurd h13 (by omega)
    | succ j ih =>
      intro i hi
      have hlm : ∀ q, zby S v s0 (some i) = some q → q < 2 ^ 31 := fun q hq => by have := zby_le hV hB hs0 (fun a ha => by cases ha; omega) hq; omega
      have hlb : ∀ q, (zbest S v s0 i).2 = some q → q < 2 ^ 31 := fun q hq => by have := zbest_le hV hB hs0 (by omega) hq; omega
      have he : zbest S v s0 (i + 1) = match zby S v s0 (some i) with
        | none => zbest S v s0 i
        | some m => match (zbest S v s0 i).2 with
          | none => (some i, some m)
          | some n => if m < n then (some i, some m) else zbest S v s0 i := rfl
      refine zz_iload (pc := 10) E dX2_leastLetter_10 rfl ?_
      refine zz_iconst (pc := 12) (v := nI 3) E dX2_leastLetter_12 (by decide) ?_
      refine zn_icmp_ge (pc := 13) (tgt := 60) E dX2_leastLetter_13 (by decide) (by omega) (by omega) (fun h13 => ?_) (fun h13 => ?_)
      · exact absurd h13 (by omega)
      · refine zz_aload_n (pc := 16) E dX2_leastLetter_16 rfl ?_
        refine zz_aload_n (pc := 17) E dX2_leastLetter_17 rfl ?_
        refine zz_iload_n (pc := 18) E dX2_leastLetter_18 rfl ?_
        refine zz_iload (pc := 19) E dX2_leastLetter_19 rfl ?_
        refine zz_ciV (pc := 21) E 11 (kkX2_byLetter l G hJ _  S v s0 (some i) B hV hS hv hB hBs hs0 (fun a ha => by cases ha; omega)) (cwV 3 hts gX2_leastLetter_X2_byLetter rfl rfl rfl (by decide +kernel) ⟨Nat.le_of_ble_eq_true rfl, Nat.le_of_ble_eq_true rfl⟩) (by decide) rfl rfl rfl rfl (Nat.le_of_ble_eq_true rfl) dX2_leastLetter_21 (fun r21 M21 q21 => ?_)
        obtain ⟨rfl, rfl⟩ := q21
        refine zz_istore (pc := 24) (lv' := [(0, _), (1, _), (2, _), (3, _), (4, _), (5, _), (6, _)]) E dX2_leastLetter_24 (by decide) rfl ?_
        refine zz_iload (pc := 26) E dX2_leastLetter_26 rfl ?_
        refine zz_bipush (pc := 28) (v := -9) E dX2_leastLetter_28 (by decide) ?_
        refine zz_icmp_eq (pc := 30) (tgt := 54) E dX2_leastLetter_30 (by decide) (fun h30 => ?_) (fun h30 => ?_)
        · rw [zo_m9 hlm] at h30
          have hh : zbest S v s0 (i + 1) = zbest S v s0 i := by rw [he, h30]
          refine zn_inc (pc := 54) (lv' := [(0, _), (1, _), (2, _), (3, _), (4, _), (5, _), (6, _)]) E dX2_leastLetter_54 rfl (by decide) rfl ?_
          refine zz_goto (pc := 57) (tgt := 10) E dX2_leastLetter_57 (by decide) ?_
          exact zz_to (ih (i + 1) (by omega)) ⟨rfl, rfl, rfl, by rw [hh]; rfl, by rw [hh]; rfl, rfl, trivial⟩
        · obtain ⟨q, hq⟩ : ∃ q, zby S v s0 (some i) = some q := by
            cases hv2 : zby S v s0 (some i) with
            | none => exact absurd (by rw [hv2]; rfl) h30
            | some q => exact ⟨q, rfl⟩
          have hq31 := hlm q hq
          rw [hq] at he ⊢
          refine zz_iload (pc := 33) E dX2_leastLetter_33 rfl ?_
          refine zz_bipush (pc := 35) (v := -9) E dX2_leastLetter_35 (by decide) ?_
          refine zz_icmp_eq (pc := 37) (tgt := 47) E dX2_leastLetter_37 (by decide) (fun h37 => ?_) (fun h37 => ?_)
          · rw [zo_m9 hlb] at h37
            have hh : zbest S v s0 (i + 1) = (some i, some q) := by rw [he, h37]
            refine zz_iload (pc := 47) E dX2_leastLetter_47 rfl ?_
            refine zz_istore_n (pc := 49) (lv' := [(0, _), (1, _), (2, _), (3, _), (4, _), (5, _), (6, _)]) E dX2_leastLetter_49 (by decide) rfl ?_
            refine zz_iload (pc := 50) E dX2_leastLetter_50 rfl ?_
            refine zz_istore (pc := 52) (lv' := [(0, _), (1, _), (2, _), (3, _), (4, _), (5, _), (6, _)]) E dX2_leastLetter_52 (by decide) rfl ?_
            refine zn_inc (pc := 54) (lv' := [(0, _), (1, _), (2, _), (3, _), (4, _), (5, _), (6, _)]) E dX2_leastLetter_54 rfl (by decide) rfl ?_
            refine zz_goto (pc := 57) (tgt := 10) E dX2_leastLetter_57 (by decide) ?_
            exact zz_to (ih (i + 1) (by omega)) ⟨rfl, rfl, rfl, by rw [hh]; rfl, by rw [hh]; rfl, rfl, trivial⟩
          · obtain ⟨n, hn⟩ : ∃ q, (zbest S v s0 i).2 = some q := by
              cases hv2 : (zbest S v s0 i).2 with
              | none => exact absurd (by rw [hv2]; rfl) h37
              | some q => exact ⟨q, rfl⟩
            have hn31 := hlb n hn
            rw [hn] at he
            refine zz_iload (pc := 40) E dX2_leastLetter_40 rfl ?_
            refine zz_eqi (y := nI q) rfl ?_
            refine zz_iload (pc := 42) E dX2_leastLetter_42 rfl ?_
            refine zz_eqi (y := nI n) (by rw [hn]; rfl) ?_
            refine zn_icmp_ge (pc := 44) (tgt := 54) E dX2_leastLetter_44 (by decide) (by omega) (by omega) (fun h44 => ?_) (fun h44 => ?_)
            · have hh : zbest S v s0 (i + 1) = zbest S v s0 i := by rw [he]; exact if_neg (by omega)
              refine zn_inc (pc := 54) (lv' := [(0, _), (1, _), (2, _), (3, _), (4, _), (5, _), (6, _)]) E dX2_leastLetter_54 rfl (by decide) rfl ?_
              refine zz_goto (pc := 57) (tgt := 10) E dX2_leastLetter_57 (by decide) ?_
              exact zz_to (ih (i + 1) (by omega)) ⟨rfl, rfl, rfl, by rw [hh]; rfl, by rw [hh]; rfl, rfl, trivial⟩
            · have hh : zbest S v s0 (i + 1) = (some i, some q) := by rw [he]; exact if_pos h44
              refine zz_iload (pc := 47) E dX2_leastLetter_47 rfl ?_
              refine zz_istore_n (pc := 49) (lv' := [(0, _), (1, _), (2, _), (3, _), (4, _), (5, _), (6, _)]) E dX2_leastLetter_49 (by decide) rfl ?_
              refine zz_iload (pc := 50) E dX2_leastLetter_50 rfl ?_
              refine zz_istore (pc := 52) (lv' := [(0, _), (1, _), (2, _), (3, _), (4, _), (5, _), (6, _)]) E dX2_leastLetter_52 (by decide) rfl ?_
              refine zn_inc (pc := 54) (lv' := [(0, _), (1, _), (2, _), (3, _), (4, _), (5, _), (6, _)]) E dX2_leastLetter_54 rfl (by decide) rfl ?_
              refine zz_goto (pc := 57) (tgt := 10) E dX2_leastLetter_57 (by decide) ?_
              exact zz_to (ih (i + 1) (by omega)) ⟨rfl, rfl, rfl, by rw [hh]; rfl, by rw [hh]; rfl, rfl, trivial⟩
  exact zz_to (key 3 0 (by omega)) ⟨rfl, rfl, rfl, rfl, rfl, rfl, trivial⟩

theorem inX2_countFound_X2 : ∀ w ∈ u_ws RX2 TX2 1, w ∈ wsX2_countFound := by decide +kernel
theorem lkX2_countFound_9 : Cond.fieldLink RX2 9 RX2 "ofSign" "[I" ∈ wsX2_countFound := by decide +kernel
set_option maxHeartbeats 4000000 in
set_option maxRecDepth 100000 in
theorem kkX2_countFound (l : Launch) (G : zz_C) (hJ : zz_J G) (M : zz_M)  : Met l yX2_countFound wsX2_countFound ({ frames := 0, cells := 0, slots := 0, locals := 0 } : Room) (zz_P G M [.ref (G.2.2 11)]) (zz_Qi G (fun r M1 => M = M1 ∧ r = nI (zcnt (M 12) 6))) 0 0 (zz_A G) := by
  refine zz_start hJ (by decide) rfl (Nat.le_of_ble_eq_true rfl) ?_
  intro p e s m below meth c E hr hlk
  have hts := E.2.2.2.2.1
  show zz_Z p l e (headSpec wsX2_countFound ({ frames := 0, cells := 0, slots := 0, locals := 0 } : Room)).room s m ([.ref (G.2.2 11)] : List Value).toArray below meth c 0 0 (MQ below (zz_Qi G (fun r M1 => M = M1 ∧ r = nI (zcnt (M 12) 6))) ([.ref (G.2.2 11)] : List Value).toArray s 0 0 (zz_A G)) 6 G (zz_A G) M 0 [(0, .ref (G.2.2 11))] []
  refine zz_iconst (pc := 0) (v := nI 0) E dX2_countFound_0 (by decide) ?_
  refine zz_istore_n (pc := 1) (lv' := [(0, _), (1, _)]) E dX2_countFound_1 (by decide) rfl ?_
  refine zz_aload_n (pc := 2) E dX2_countFound_2 rfl ?_
  refine zz_gf (pc := 3) E 11 (by decide) rfl rfl inX2_countFound_X2 0 (by decide) lkX2_countFound_9 (fun _ h => h) rfl dX2_countFound_3 ?_
  refine zz_astore_n (pc := 6) (lv' := [(0, _), (1, _), (2, _)]) E dX2_countFound_6 (by decide) rfl ?_
  refine zz_aload_n (pc := 7) E dX2_countFound_7 rfl ?_
  refine zz_alen (pc := 8) E 12 (n := 6) (by decide) rfl dX2_countFound_8 ?_
  refine zz_istore_n (pc := 9) (lv' := [(0, _), (1, _), (2, _), (3, _)]) E dX2_countFound_9 (by decide) rfl ?_
  refine zz_iconst (pc := 10) (v := nI 0) E dX2_countFound_10 (by decide) ?_
  refine zz_istore (pc := 11) (lv' := [(0, _), (1, _), (2, _), (3, _), (4, _)]) E dX2_countFound_11 (by decide) rfl ?_
  have key : ∀ (j i : Nat), i + j = 6 → zz_Z p l e (headSpec wsX2_countFound ({ frames := 0, cells := 0, slots := 0, locals := 0 } : Room)).room s m ([.ref (G.2.2 11)] : List Value).toArray below meth c 0 0 (MQ below (zz_Qi G (fun r M1 => M = M1 ∧ r = nI (zcnt (M 12) 6))) ([.ref (G.2.2 11)] : List Value).toArray s 0 0 (zz_A G)) 6 G (zz_A G) M 13 [(1, .int (nI (zcnt (M 12) i))), (2, .ref (G.2.2 12)), (3, .int (nI 6)), (4, .int (nI i))] [] := by
    intro j
    induction j with
    | zero =>
      intro i hi
      refine zz_iload (pc := 13) E dX2_countFound_13 rfl ?_
      refine zz_iload_n (pc := 15) E dX2_countFound_15 rfl ?_
      refine zn_icmp_ge (pc := 16) (tgt := 41) E dX2_countFound_16 (by decide) (by omega) (by omega) (fun h16 => ?_) (fun h16 => ?_)
      · refine zz_iload_n (pc := 41) E dX2_countFound_41 rfl ?_
        exact zz_iret (pc := 42) E hr hlk dX2_countFound_42 ⟨rfl, by rw [show i = 6 by omega]⟩
      · exact absurd h16 (by omega)
    | succ j ih =>
      intro i hi
      refine zz_iload (pc := 13) E dX2_countFound_13 rfl ?_
      refine zz_iload_n (pc := 15) E dX2_countFound_15 rfl ?_
      refine zn_icmp_ge (pc := 16) (tgt := 41) E dX2_countFound_16 (by decide) (by omega) (by omega) (fun h16 => ?_) (fun h16 => ?_)
      · exact absurd h16 (by omega)
      · refine zz_aload_n (pc := 19) E dX2_countFound_19 rfl ?_
        refine zz_iload (pc := 20) E dX2_countFound_20 rfl ?_
        refine zz_iald (pc := 22) E 12 (_) (n := 6) (by decide) rfl rfl (by omega) (by decide) dX2_countFound_22 ?_
        refine zz_istore (pc := 23) (lv' := [(1, _), (2, _), (3, _), (4, _), (5, _)]) E dX2_countFound_23 (by decide) rfl ?_
        refine zz_iload (pc := 25) E dX2_countFound_25 rfl ?_
        refine zz_bipush (pc := 27) (v := -9) E dX2_countFound_27 (by decide) ?_
        refine zz_icmp_eq (pc := 29) (tgt := 35) E dX2_countFound_29 (by decide) (fun h29 => ?_) (fun h29 => ?_)
        · refine zn_inc (pc := 35) (lv' := [(1, _), (2, _), (3, _), (4, _), (5, _)]) E dX2_countFound_35 rfl (by decide) rfl ?_
          refine zz_goto (pc := 38) (tgt := 13) E dX2_countFound_38 (by decide) ?_
          exact zz_to (ih (i + 1) (by omega)) ⟨by rw [zcnt]; first | (rw [if_pos h29]; rfl) | (rw [if_neg h29]; rfl), rfl, rfl, rfl, trivial⟩
        · refine zn_inc (pc := 32) (lv' := [(1, _), (2, _), (3, _), (4, _), (5, _)]) E dX2_countFound_32 rfl (by decide) rfl ?_
          refine zn_inc (pc := 35) (lv' := [(1, _), (2, _), (3, _), (4, _), (5, _)]) E dX2_countFound_35 rfl (by decide) rfl ?_
          refine zz_goto (pc := 38) (tgt := 13) E dX2_countFound_38 (by decide) ?_
          exact zz_to (ih (i + 1) (by omega)) ⟨by rw [zcnt]; first | (rw [if_pos h29]; rfl) | (rw [if_neg h29]; rfl), rfl, rfl, rfl, trivial⟩
  exact zz_to (key 6 0 (by omega)) ⟨rfl, rfl, rfl, rfl, trivial⟩

/-! sets of signs -/
def zfw (v : Nat → Option Nat) : List Nat → Nat
  | [] => 0
  | x :: t => match v x with
    | none => 2 ^ x
    | some _ => zfw v t ||| 2 ^ x
theorem zshl_ok : ∀ x, x < 6 → nI 1 <<< (nI x &&& 31) = nI (2 ^ x) := by decide +kernel
theorem zor_ok : ∀ w, w < 64 → ∀ u, u < 64 → nI w ||| nI u = nI (w ||| u) := by decide +kernel
theorem zpw_lt : ∀ x, x < 6 → 2 ^ x < 64 := by decide
theorem zor_lt {w u : Nat} (hw : w < 64) (hu : u < 64) : w ||| u < 64 := Nat.or_lt_two_pow (n := 6) hw hu
theorem zfw_lt (v : Nat → Option Nat) : ∀ (L : List Nat), (∀ x ∈ L, x < 6) → zfw v L < 64
  | [], _ => (show 0 < 64 by decide)
  | x :: t, h => by
    rw [zfw]
    have hx := zpw_lt x (h x List.mem_cons_self)
    cases v x with
    | none => exact hx
    | some _ => exact zor_lt (zfw_lt v t (fun y hy => h y (List.mem_cons_of_mem _ hy))) hx

set_option maxHeartbeats 4000000 in
set_option maxRecDepth 100000 in
theorem kkX2_firstsWithin (l : Launch) (G : zz_C) (hJ : zz_J G) (M : zz_M) (v : Nat → Option Nat) (a mo B : Nat) (hv : znm M v) (hB : zbd v B) (hBs : B < 100000) (hz : zok a 6 mo = true) (hmo : mo < 10) : Met l yX2_firstsWithin wsX2_firstsWithin ({ frames := 2, cells := 0, slots := 0, locals := 41 } : Room) (zz_P G M [.ref (G.2.2 11), .int (nI a)]) (zz_Qi G (fun r M1 => M = M1 ∧ r = nI (zfw v (zr a)))) 0 0 (zz_A G) := by
  refine zz_start hJ (by decide) rfl (Nat.le_of_ble_eq_true rfl) ?_
  intro p e s m below meth c E hr hlk
  have hts := E.2.2.2.2.1
  show zz_Z p l e (headSpec wsX2_firstsWithin ({ frames := 2, cells := 0, slots := 0, locals := 41 } : Room)).room s m ([.ref (G.2.2 11), .int (nI a)] : List Value).toArray below meth c 0 0 (MQ below (zz_Qi G (fun r M1 => M = M1 ∧ r = nI (zfw v (zr a)))) ([.ref (G.2.2 11), .int (nI a)] : List Value).toArray s 0 0 (zz_A G)) 5 G (zz_A G) M 0 [(0, .ref (G.2.2 11)), (1, .int (nI a))] []
  have ha : a < 2 ^ 31 := by
    have h1 := zok_lt hz (by omega)
    have h2 : 10 ^ mo ≤ 10 ^ 9 := Nat.pow_le_pow_right (by decide) (by omega)
    omega
  refine zz_iconst (pc := 0) (v := nI 0) E dX2_firstsWithin_0 (by decide) ?_
  refine zz_istore_n (pc := 1) (lv' := [(0, _), (1, _), (2, _)]) E dX2_firstsWithin_1 (by decide) rfl ?_
  refine zz_iload_n (pc := 2) E dX2_firstsWithin_2 rfl ?_
  refine zz_istore_n (pc := 3) (lv' := [(0, _), (1, _), (2, _), (3, _)]) E dX2_firstsWithin_3 (by decide) rfl ?_
  have key : ∀ (j b : Nat) (K : List Nat), (zd b).length = j → b < 2 ^ 31 → zok b 6 mo = true → zr a = zr b ++ K → zz_Z p l e (headSpec wsX2_firstsWithin ({ frames := 2, cells := 0, slots := 0, locals := 41 } : Room)).room s m ([.ref (G.2.2 11), .int (nI a)] : List Value).toArray below meth c 0 0 (MQ below (zz_Qi G (fun r M1 => M = M1 ∧ r = nI (zfw v (zr a)))) ([.ref (G.2.2 11), .int (nI a)] : List Value).toArray s 0 0 (zz_A G)) 5 G (zz_A G) M 4 [(0, .ref (G.2.2 11)), (2, .int (nI (zfw v K))), (3, .int (nI b))] [] := by
    intro j
    induction j with
    | zero =>
      intro b K hj hb hzb he
      have hb0 := zd_len0 hj (by omega)
      subst hb0
      refine zz_iload_n (pc := 4) E dX2_firstsWithin_4 rfl ?_
      refine zn_if_le (pc := 5) (tgt := 49) E dX2_firstsWithin_5 (by decide) (by omega) (fun h5 => ?_) (fun h5 => ?_)
      · refine zz_iload_n (pc := 49) E dX2_firstsWithin_49 rfl ?_
        exact zz_iret (pc := 50) E hr hlk dX2_firstsWithin_50 ⟨rfl, by rw [he, zr_0, List.nil_append]⟩
      · exact absurd h5 (by omega)
    | succ j ih =>
      intro b K hj hb hzb he
      have h0 : 0 < b := by
        rcases Nat.eq_zero_or_pos b with h | h
        · rw [h] at hj; cases hj
        · exact h
      have hd := zok_digit hzb h0 (by omega)
      rw [zd_pos h0 (by omega), List.length_cons] at hj
      have hlt : ∀ q, v (b % 10 - 1) = some q → q < 2 ^ 31 := fun q hq => by have := hB _ (by omega) q hq; omega
      have hK6 : ∀ x ∈ K, x < 6 := fun x hx => zr_lt hz x (by rw [he]; exact List.mem_append_right _ hx)
      rw [zr_pos h0 (by omega)] at he
      refine zz_iload_n (pc := 4) E dX2_firstsWithin_4 rfl ?_
      refine zn_if_le (pc := 5) (tgt := 49) E dX2_firstsWithin_5 (by decide) (by omega) (fun h5 => ?_) (fun h5 => ?_)
      · exact absurd h5 (by omega)
      · refine zz_iload_n (pc := 8) E dX2_firstsWithin_8 rfl ?_
        refine zz_bipush (pc := 9) (v := nI 10) E dX2_firstsWithin_9 (by decide) ?_
        refine zn_irem (pc := 11) E dX2_firstsWithin_11 (by omega) (by omega) (by omega) ?_
        refine zz_iconst (pc := 12) (v := nI 1) E dX2_firstsWithin_12 (by decide) ?_
        refine zn_isub (pc := 13) E dX2_firstsWithin_13 (by omega) ?_
        refine zz_istore (pc := 14) (lv' := [(0, _), (2, _), (3, _), (4, _)]) E dX2_firstsWithin_14 (by decide) rfl ?_
        refine zz_aload_n (pc := 16) E dX2_firstsWithin_16 rfl ?_
        refine zz_iload (pc := 17) E dX2_firstsWithin_17 rfl ?_
        refine zz_ciV (pc := 19) E 11 (kkX2_of l G hJ _  v _ hv (by omega)) (cwV 1 hts gX2_firstsWithin_X2_of rfl rfl rfl (by decide +kernel) ⟨Nat.le_of_ble_eq_true rfl, Nat.le_of_ble_eq_true rfl⟩) (by decide) rfl rfl rfl rfl (Nat.le_of_ble_eq_true rfl) dX2_firstsWithin_19 (fun r19 M19 q19 => ?_)
        obtain ⟨rfl, rfl⟩ := q19
        refine zz_bipush (pc := 22) (v := -9) E dX2_firstsWithin_22 (by decide) ?_
        refine zz_icmp_ne (pc := 24) (tgt := 34) E dX2_firstsWithin_24 (by decide) (fun h24 => ?_) (fun h24 => ?_)
        · obtain ⟨q, hq⟩ : ∃ q, v (b % 10 - 1) = some q := by
            cases hv2 : v (b % 10 - 1) with
            | none => exact absurd (by rw [hv2]; rfl) h24
            | some q => exact ⟨q, rfl⟩
          refine zz_iload_n (pc := 34) E dX2_firstsWithin_34 rfl ?_
          refine zz_iconst (pc := 35) (v := nI 1) E dX2_firstsWithin_35 (by decide) ?_
          refine zz_iload (pc := 36) E dX2_firstsWithin_36 rfl ?_
          refine zz_ishl (pc := 38) E dX2_firstsWithin_38 ?_
          refine zz_eqi (y := nI (2 ^ (b % 10 - 1))) (zshl_ok _ (by omega)) ?_
          refine zz_ior (pc := 39) E dX2_firstsWithin_39 ?_
          refine zz_eqi (y := nI (zfw v K ||| 2 ^ (b % 10 - 1))) (zor_ok _ (zfw_lt v K hK6) _ (zpw_lt _ (by omega))) ?_
          refine zz_istore_n (pc := 40) (lv' := [(0, _), (2, _), (3, _), (4, _)]) E dX2_firstsWithin_40 (by decide) rfl ?_
          refine zz_iload_n (pc := 41) E dX2_firstsWithin_41 rfl ?_
          refine zz_bipush (pc := 42) (v := nI 10) E dX2_firstsWithin_42 (by decide) ?_
          refine zn_idiv (pc := 44) E dX2_firstsWithin_44 (by omega) (by omega) (by omega) ?_
          refine zz_istore_n (pc := 45) (lv' := [(0, _), (2, _), (3, _), (4, _)]) E dX2_firstsWithin_45 (by decide) rfl ?_
          refine zz_goto (pc := 46) (tgt := 4) E dX2_firstsWithin_46 (by decide) ?_
          exact zz_to (ih (b / 10) ((b % 10 - 1) :: K) (by omega) (by omega) (zok_half hzb (by omega)) (by rw [he]; simp)) ⟨rfl, by first | (rw [zfw, h24]; rfl) | (rw [zfw, hq]; rfl), rfl, trivial⟩
        · rw [zo_m9 hlt] at h24
          refine zz_iconst (pc := 27) (v := nI 1) E dX2_firstsWithin_27 (by decide) ?_
          refine zz_iload (pc := 28) E dX2_firstsWithin_28 rfl ?_
          refine zz_ishl (pc := 30) E dX2_firstsWithin_30 ?_
          refine zz_eqi (y := nI (2 ^ (b % 10 - 1))) (zshl_ok _ (by omega)) ?_
          refine zz_goto (pc := 31) (tgt := 40) E dX2_firstsWithin_31 (by decide) ?_
          refine zz_istore_n (pc := 40) (lv' := [(0, _), (2, _), (3, _), (4, _)]) E dX2_firstsWithin_40 (by decide) rfl ?_
          refine zz_iload_n (pc := 41) E dX2_firstsWithin_41 rfl ?_
          refine zz_bipush (pc := 42) (v := nI 10) E dX2_firstsWithin_42 (by decide) ?_
          refine zn_idiv (pc := 44) E dX2_firstsWithin_44 (by omega) (by omega) (by omega) ?_
          refine zz_istore_n (pc := 45) (lv' := [(0, _), (2, _), (3, _), (4, _)]) E dX2_firstsWithin_45 (by decide) rfl ?_
          refine zz_goto (pc := 46) (tgt := 4) E dX2_firstsWithin_46 (by decide) ?_
          exact zz_to (ih (b / 10) ((b % 10 - 1) :: K) (by omega) (by omega) (zok_half hzb (by omega)) (by rw [he]; simp)) ⟨rfl, by first | (rw [zfw, h24]; rfl) | (rw [zfw, hq]; rfl), rfl, trivial⟩
  exact zz_to (key _ a [] rfl ha hz (by simp)) ⟨rfl, rfl, rfl, trivial⟩
