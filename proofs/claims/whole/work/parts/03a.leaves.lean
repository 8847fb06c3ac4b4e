/-! ints in a range -/
def zp_in (x : Int32) (n : Nat) : Bool := decide (0 ≤ x.toInt ∧ x.toInt < (n : Int))
theorem zp_in_f1 {x : Int32} {n : Nat} (h : x < 0) : zp_in x n = false := by
  rw [Int32.lt_iff_toInt_lt] at h
  have h : x.toInt < 0 := h
  unfold zp_in
  rw [decide_eq_false_iff_not]
  omega
theorem zp_in_f2 {x : Int32} {n : Nat} (h : nI n ≤ x) (hn : n < 2 ^ 31) : zp_in x n = false := by
  rw [Int32.le_iff_toInt_le, nI_toInt hn] at h
  unfold zp_in
  rw [decide_eq_false_iff_not]
  omega
theorem zp_in_t {x : Int32} {n : Nat} (h : ¬ x < 0) (h2 : ¬ nI n ≤ x) (hn : n < 2 ^ 31) : zp_in x n = true := by
  rw [Int32.lt_iff_toInt_lt] at h
  have h : ¬ x.toInt < 0 := h
  rw [Int32.le_iff_toInt_le, nI_toInt hn] at h2
  unfold zp_in
  rw [decide_eq_true_iff]
  omega
theorem zp_in_nI {a n : Nat} (ha : a < 2 ^ 31) : zp_in (nI a) n = decide (a < n) := by
  unfold zp_in
  rw [nI_toInt ha]
  simp
theorem zp_in_of {x : Int32} {n : Nat} (h : zp_in x n = true) (hn : n < 2 ^ 31) : ∃ a, a < n ∧ x = nI a := by
  unfold zp_in at h
  rw [decide_eq_true_iff] at h
  have hx : ¬ x < 0 := by
    rw [Int32.lt_iff_toInt_lt]
    show ¬ x.toInt < 0
    omega
  obtain ⟨j, hj, rfl⟩ := nI_of hx
  rw [nI_toInt hj] at h
  exact ⟨j, by omega, rfl⟩
def zp_w (x a b : Int32) : Bool := decide (a.toInt ≤ x.toInt ∧ x.toInt ≤ b.toInt)
theorem zp_w_f1 {x a b : Int32} (h : x < a) : zp_w x a b = false := by
  rw [Int32.lt_iff_toInt_lt] at h
  unfold zp_w
  rw [decide_eq_false_iff_not]
  omega
theorem zp_w_f2 {x a b : Int32} (h : b < x) : zp_w x a b = false := by
  rw [Int32.lt_iff_toInt_lt] at h
  unfold zp_w
  rw [decide_eq_false_iff_not]
  omega
theorem zp_w_t {x a b : Int32} (h : ¬ x < a) (h2 : ¬ b < x) : zp_w x a b = true := by
  rw [Int32.lt_iff_toInt_lt] at h h2
  unfold zp_w
  rw [decide_eq_true_iff]
  omega
theorem zp_w_nI {x a b : Nat} (hx : x < 2 ^ 31) (ha : a < 2 ^ 31) (hb : b < 2 ^ 31) : zp_w (nI x) (nI a) (nI b) = decide (a ≤ x ∧ x ≤ b) := by
  unfold zp_w
  rw [nI_toInt hx, nI_toInt ha, nI_toInt hb]
  apply decide_eq_decide.mpr
  omega
theorem zp_w_0 {x : Int32} {n : Nat} (hn : n + 1 < 2 ^ 31) : zp_w x (nI 0) (nI n) = zp_in x (n + 1) := by
  unfold zp_w zp_in
  rw [nI_toInt (by omega), nI_toInt (by omega)]
  apply decide_eq_decide.mpr
  omega
theorem zp_w_m9 {a b : Nat} (ha : a < 2 ^ 31) : zp_w (-9) (nI a) (nI b) = false := by
  unfold zp_w
  rw [decide_eq_false_iff_not, nI_toInt ha, show (-9 : Int32).toInt = -9 by decide]
  omega
theorem zl_cases (x : Int64) : (∃ n, n < 2 ^ 63 ∧ x = lN n) ∨ x < lN 0 := by
  by_cases h : x < lN 0
  · exact Or.inr h
  · left
    rw [Int64.lt_iff_toInt_lt, zl_toInt (by omega)] at h
    have h1 := Int64.toInt_lt x
    refine ⟨x.toInt.toNat, by omega, ?_⟩
    apply Int64.toInt_inj.mp
    rw [zl_toInt (by omega)]
    omega
/-! digits of a number, the lowest first -/
def zdf : Nat → Nat → List Nat
  | 0, _ => []
  | f + 1, n => if n = 0 then [] else n % 10 :: zdf f (n / 10)
def zd (n : Nat) : List Nat := zdf 20 n
theorem zdf_more : ∀ (f n : Nat), n < 10 ^ f → zdf (f + 1) n = zdf f n
  | 0, n, h => by
    have : n = 0 := by simpa using h
    subst this
    rfl
  | f + 1, n, h => by
    show (if n = 0 then [] else n % 10 :: zdf (f + 1) (n / 10)) = (if n = 0 then [] else n % 10 :: zdf f (n / 10))
    by_cases h0 : n = 0
    · rw [if_pos h0, if_pos h0]
    · rw [if_neg h0, if_neg h0, zdf_more f (n / 10) (by rw [Nat.pow_succ] at h; omega)]
theorem zd_0 : zd 0 = [] := rfl
theorem zd_pos {n : Nat} (h : 0 < n) (hn : n < 2 ^ 63) : zd n = n % 10 :: zd (n / 10) := by
  show zdf 20 n = n % 10 :: zdf 20 (n / 10)
  rw [zdf, if_neg (by omega), zdf_more 19 (n / 10) (by have : (2 : Nat) ^ 63 < 10 ^ 20 := by decide
                                                       have : (10 : Nat) ^ 20 = 10 ^ 19 * 10 := by decide
                                                       omega)]
/-- digits 1 to kinds, at most so many -/
def zok (n kinds most : Nat) : Bool := (zd n).all (fun d => decide (1 ≤ d ∧ d ≤ kinds)) && decide ((zd n).length ≤ most)
theorem zok_0 (kinds most : Nat) : zok 0 kinds most = true := by simp [zok, zd_0]
theorem zok_pos0 {n kinds : Nat} (h : 0 < n) (hn : n < 2 ^ 63) : zok n kinds 0 = false := by
  unfold zok
  rw [zd_pos h hn]
  simp
theorem zok_step {n kinds most : Nat} (h : 0 < n) (hn : n < 2 ^ 63) : zok n kinds (most + 1) = (decide (1 ≤ n % 10 ∧ n % 10 ≤ kinds) && zok (n / 10) kinds most) := by
  unfold zok
  rw [zd_pos h hn]
  simp [Bool.and_assoc]
/-- a long is a row -/
def zs_row (x : Int64) (kinds most : Nat) : Bool := decide (lN 0 ≤ x) && zok x.toInt.toNat kinds most
theorem zs_row_lN {n kinds most : Nat} (hn : n < 2 ^ 63) : zs_row (lN n) kinds most = zok n kinds most := by
  unfold zs_row
  rw [zl_toInt hn, decide_eq_true ((zl_le (by omega) hn).mpr (Nat.zero_le _))]
  simp
theorem zs_row_neg {x : Int64} {kinds most : Nat} (h : x < lN 0) : zs_row x kinds most = false := by
  unfold zs_row
  rw [decide_eq_false (Int64.not_le.mpr h)]
  rfl

set_option maxHeartbeats 4000000 in
set_option maxRecDepth 100000 in
theorem kkX7_isSign (l : Launch) (G : zz_C) (hJ : zz_J G) (M : zz_M) (x0 : Int32) : Met l yX7_isSign wsX7_isSign ({ frames := 0, cells := 0, slots := 0, locals := 0 } : Room) (zz_P G M [.int x0]) (zz_Qi G (fun r M1 => M = M1 ∧ r = zz_b (zp_in x0 6))) 0 0 (zz_A G) := by
  refine zz_start hJ (by decide) rfl (Nat.le_of_ble_eq_true rfl) ?_
  intro p e s m below meth c E hr hlk
  have hts := E.2.2.2.2.1
  show zz_Z p l e (headSpec wsX7_isSign ({ frames := 0, cells := 0, slots := 0, locals := 0 } : Room)).room s m ([.int x0] : List Value).toArray below meth c 0 0 (MQ below (zz_Qi G (fun r M1 => M = M1 ∧ r = zz_b (zp_in x0 6))) ([.int x0] : List Value).toArray s 0 0 (zz_A G)) 1 G (zz_A G) M 0 [(0, .int x0)] []
  refine zz_iload_n (pc := 0) E dX7_isSign_0 rfl ?_
  refine zz_if_lt (pc := 1) (tgt := 14) E dX7_isSign_1 (by decide) (fun h1 => ?_) (fun h1 => ?_)
  · refine zz_iconst (pc := 14) (v := nI 0) E dX7_isSign_14 (by decide) ?_
    exact zz_zret (pc := 15) E hr hlk dX7_isSign_15 (by decide) ⟨rfl, by first | (rw [zp_in_f1 h1]; rfl) | (rw [zp_in_t h1 ‹_› (by decide)]; rfl) | (rw [zp_in_f2 ‹_› (by decide)]; rfl)⟩
  · refine zz_iload_n (pc := 4) E dX7_isSign_4 rfl ?_
    refine zz_bipush (pc := 5) (v := nI 6) E dX7_isSign_5 (by decide) ?_
    refine zz_icmp_ge (pc := 7) (tgt := 14) E dX7_isSign_7 (by decide) (fun h7 => ?_) (fun h7 => ?_)
    · refine zz_iconst (pc := 14) (v := nI 0) E dX7_isSign_14 (by decide) ?_
      exact zz_zret (pc := 15) E hr hlk dX7_isSign_15 (by decide) ⟨rfl, by first | (rw [zp_in_f1 h1]; rfl) | (rw [zp_in_t h1 ‹_› (by decide)]; rfl) | (rw [zp_in_f2 ‹_› (by decide)]; rfl)⟩
    · refine zz_iconst (pc := 10) (v := nI 1) E dX7_isSign_10 (by decide) ?_
      refine zz_goto (pc := 11) (tgt := 15) E dX7_isSign_11 (by decide) ?_
      exact zz_zret (pc := 15) E hr hlk dX7_isSign_15 (by decide) ⟨rfl, by first | (rw [zp_in_f1 h1]; rfl) | (rw [zp_in_t h1 ‹_› (by decide)]; rfl) | (rw [zp_in_f2 ‹_› (by decide)]; rfl)⟩

set_option maxHeartbeats 4000000 in
set_option maxRecDepth 100000 in
theorem kkX7_isLetter (l : Launch) (G : zz_C) (hJ : zz_J G) (M : zz_M) (x0 : Int32) : Met l yX7_isLetter wsX7_isLetter ({ frames := 0, cells := 0, slots := 0, locals := 0 } : Room) (zz_P G M [.int x0]) (zz_Qi G (fun r M1 => M = M1 ∧ r = zz_b (zp_in x0 3))) 0 0 (zz_A G) := by
  refine zz_start hJ (by decide) rfl (Nat.le_of_ble_eq_true rfl) ?_
  intro p e s m below meth c E hr hlk
  have hts := E.2.2.2.2.1
  show zz_Z p l e (headSpec wsX7_isLetter ({ frames := 0, cells := 0, slots := 0, locals := 0 } : Room)).room s m ([.int x0] : List Value).toArray below meth c 0 0 (MQ below (zz_Qi G (fun r M1 => M = M1 ∧ r = zz_b (zp_in x0 3))) ([.int x0] : List Value).toArray s 0 0 (zz_A G)) 1 G (zz_A G) M 0 [(0, .int x0)] []
  refine zz_iload_n (pc := 0) E dX7_isLetter_0 rfl ?_
  refine zz_if_lt (pc := 1) (tgt := 13) E dX7_isLetter_1 (by decide) (fun h1 => ?_) (fun h1 => ?_)
  · refine zz_iconst (pc := 13) (v := nI 0) E dX7_isLetter_13 (by decide) ?_
    exact zz_zret (pc := 14) E hr hlk dX7_isLetter_14 (by decide) ⟨rfl, by first | (rw [zp_in_f1 h1]; rfl) | (rw [zp_in_t h1 ‹_› (by decide)]; rfl) | (rw [zp_in_f2 ‹_› (by decide)]; rfl)⟩
  · refine zz_iload_n (pc := 4) E dX7_isLetter_4 rfl ?_
    refine zz_iconst (pc := 5) (v := nI 3) E dX7_isLetter_5 (by decide) ?_
    refine zz_icmp_ge (pc := 6) (tgt := 13) E dX7_isLetter_6 (by decide) (fun h6 => ?_) (fun h6 => ?_)
    · refine zz_iconst (pc := 13) (v := nI 0) E dX7_isLetter_13 (by decide) ?_
      exact zz_zret (pc := 14) E hr hlk dX7_isLetter_14 (by decide) ⟨rfl, by first | (rw [zp_in_f1 h1]; rfl) | (rw [zp_in_t h1 ‹_› (by decide)]; rfl) | (rw [zp_in_f2 ‹_› (by decide)]; rfl)⟩
    · refine zz_iconst (pc := 9) (v := nI 1) E dX7_isLetter_9 (by decide) ?_
      refine zz_goto (pc := 10) (tgt := 14) E dX7_isLetter_10 (by decide) ?_
      exact zz_zret (pc := 14) E hr hlk dX7_isLetter_14 (by decide) ⟨rfl, by first | (rw [zp_in_f1 h1]; rfl) | (rw [zp_in_t h1 ‹_› (by decide)]; rfl) | (rw [zp_in_f2 ‹_› (by decide)]; rfl)⟩

set_option maxHeartbeats 4000000 in
set_option maxRecDepth 100000 in
theorem kkX8_within (l : Launch) (G : zz_C) (hJ : zz_J G) (M : zz_M) (x0 x1 x2 : Int32) : Met l yX8_within wsX8_within ({ frames := 0, cells := 0, slots := 0, locals := 0 } : Room) (zz_P G M [.int x0, .int x1, .int x2]) (zz_Qi G (fun r M1 => M = M1 ∧ r = zz_b (zp_w x0 x1 x2))) 0 0 (zz_A G) := by
  refine zz_start hJ (by decide) rfl (Nat.le_of_ble_eq_true rfl) ?_
  intro p e s m below meth c E hr hlk
  have hts := E.2.2.2.2.1
  show zz_Z p l e (headSpec wsX8_within ({ frames := 0, cells := 0, slots := 0, locals := 0 } : Room)).room s m ([.int x0, .int x1, .int x2] : List Value).toArray below meth c 0 0 (MQ below (zz_Qi G (fun r M1 => M = M1 ∧ r = zz_b (zp_w x0 x1 x2))) ([.int x0, .int x1, .int x2] : List Value).toArray s 0 0 (zz_A G)) 3 G (zz_A G) M 0 [(0, .int x0), (1, .int x1), (2, .int x2)] []
  refine zz_iload_n (pc := 0) E dX8_within_0 rfl ?_
  refine zz_iload_n (pc := 1) E dX8_within_1 rfl ?_
  refine zz_icmp_lt (pc := 2) (tgt := 14) E dX8_within_2 (by decide) (fun h2 => ?_) (fun h2 => ?_)
  · refine zz_iconst (pc := 14) (v := nI 0) E dX8_within_14 (by decide) ?_
    exact zz_zret (pc := 15) E hr hlk dX8_within_15 (by decide) ⟨rfl, by first | (rw [zp_w_f1 h2]; rfl) | (rw [zp_w_f2 h7]; rfl) | (rw [zp_w_t h2 h7]; rfl)⟩
  · refine zz_iload_n (pc := 5) E dX8_within_5 rfl ?_
    refine zz_iload_n (pc := 6) E dX8_within_6 rfl ?_
    refine zz_icmp_gt (pc := 7) (tgt := 14) E dX8_within_7 (by decide) (fun h7 => ?_) (fun h7 => ?_)
    · refine zz_iconst (pc := 14) (v := nI 0) E dX8_within_14 (by decide) ?_
      exact zz_zret (pc := 15) E hr hlk dX8_within_15 (by decide) ⟨rfl, by first | (rw [zp_w_f1 h2]; rfl) | (rw [zp_w_f2 h7]; rfl) | (rw [zp_w_t h2 h7]; rfl)⟩
    · refine zz_iconst (pc := 10) (v := nI 1) E dX8_within_10 (by decide) ?_
      refine zz_goto (pc := 11) (tgt := 15) E dX8_within_11 (by decide) ?_
      exact zz_zret (pc := 15) E hr hlk dX8_within_15 (by decide) ⟨rfl, by first | (rw [zp_w_f1 h2]; rfl) | (rw [zp_w_f2 h7]; rfl) | (rw [zp_w_t h2 h7]; rfl)⟩

set_option maxHeartbeats 4000000 in
set_option maxRecDepth 100000 in
theorem kkX8_isSign (l : Launch) (G : zz_C) (hJ : zz_J G) (M : zz_M) (x0 : Int32) : Met l yX8_isSign wsX8_isSign ({ frames := 1, cells := 0, slots := 0, locals := 22 } : Room) (zz_P G M [.int x0]) (zz_Qi G (fun r M1 => M = M1 ∧ r = zz_b (zp_in x0 6))) 0 0 (zz_A G) := by
  refine zz_start hJ (by decide) rfl (Nat.le_of_ble_eq_true rfl) ?_
  intro p e s m below meth c E hr hlk
  have hts := E.2.2.2.2.1
  show zz_Z p l e (headSpec wsX8_isSign ({ frames := 1, cells := 0, slots := 0, locals := 22 } : Room)).room s m ([.int x0] : List Value).toArray below meth c 0 0 (MQ below (zz_Qi G (fun r M1 => M = M1 ∧ r = zz_b (zp_in x0 6))) ([.int x0] : List Value).toArray s 0 0 (zz_A G)) 1 G (zz_A G) M 0 [(0, .int x0)] []
  refine zz_iload_n (pc := 0) E dX8_isSign_0 rfl ?_
  refine zz_iconst (pc := 1) (v := nI 0) E dX8_isSign_1 (by decide) ?_
  refine zz_iconst (pc := 2) (v := nI 5) E dX8_isSign_2 (by decide) ?_
  refine zz_ciS (pc := 3) E (kkX8_within l G hJ _ _ _ _ ) (va_cwS 3 hts gX8_isSign_X8_within rfl rfl rfl (by decide +kernel) ⟨Nat.le_of_ble_eq_true rfl, Nat.le_of_ble_eq_true rfl⟩) rfl rfl (Nat.le_of_ble_eq_true rfl) dX8_isSign_3 (fun r3 M3 q3 => ?_)
  obtain ⟨rfl, rfl⟩ := q3
  exact zz_zret (pc := 6) E hr hlk dX8_isSign_6 (zz_b01 _) ⟨rfl, by rw [zp_w_0 (by decide)]⟩

set_option maxHeartbeats 4000000 in
set_option maxRecDepth 100000 in
theorem kkX8_isLetter (l : Launch) (G : zz_C) (hJ : zz_J G) (M : zz_M) (x0 : Int32) : Met l yX8_isLetter wsX8_isLetter ({ frames := 1, cells := 0, slots := 0, locals := 22 } : Room) (zz_P G M [.int x0]) (zz_Qi G (fun r M1 => M = M1 ∧ r = zz_b (zp_in x0 3))) 0 0 (zz_A G) := by
  refine zz_start hJ (by decide) rfl (Nat.le_of_ble_eq_true rfl) ?_
  intro p e s m below meth c E hr hlk
  have hts := E.2.2.2.2.1
  show zz_Z p l e (headSpec wsX8_isLetter ({ frames := 1, cells := 0, slots := 0, locals := 22 } : Room)).room s m ([.int x0] : List Value).toArray below meth c 0 0 (MQ below (zz_Qi G (fun r M1 => M = M1 ∧ r = zz_b (zp_in x0 3))) ([.int x0] : List Value).toArray s 0 0 (zz_A G)) 1 G (zz_A G) M 0 [(0, .int x0)] []
  refine zz_iload_n (pc := 0) E dX8_isLetter_0 rfl ?_
  refine zz_iconst (pc := 1) (v := nI 0) E dX8_isLetter_1 (by decide) ?_
  refine zz_iconst (pc := 2) (v := nI 2) E dX8_isLetter_2 (by decide) ?_
  refine zz_ciS (pc := 3) E (kkX8_within l G hJ _ _ _ _ ) (va_cwS 3 hts gX8_isLetter_X8_within rfl rfl rfl (by decide +kernel) ⟨Nat.le_of_ble_eq_true rfl, Nat.le_of_ble_eq_true rfl⟩) rfl rfl (Nat.le_of_ble_eq_true rfl) dX8_isLetter_3 (fun r3 M3 q3 => ?_)
  obtain ⟨rfl, rfl⟩ := q3
  exact zz_zret (pc := 6) E hr hlk dX8_isLetter_6 (zz_b01 _) ⟨rfl, by rw [zp_w_0 (by decide)]⟩

theorem clX7_isRow_203 : Cond.constantLong RX7 203 (10) ∈ wsX7_isRow := by decide +kernel
set_option maxHeartbeats 4000000 in
set_option maxRecDepth 100000 in
theorem kkX7_isRow (l : Launch) (G : zz_C) (hJ : zz_J G) (M : zz_M) (x : Int64) (kn mo : Nat) (hkn : kn < 2 ^ 31) (hmo : mo < 2 ^ 31) : Met l yX7_isRow wsX7_isRow ({ frames := 0, cells := 0, slots := 0, locals := 0 } : Room) (zz_P G M [.long x, .int (nI kn), .int (nI mo)]) (zz_Qi G (fun r M1 => M = M1 ∧ r = zz_b (zs_row x kn mo))) 0 0 (zz_A G) := by
  refine zz_start hJ (by decide) rfl (Nat.le_of_ble_eq_true rfl) ?_
  intro p e s m below meth c E hr hlk
  have hts := E.2.2.2.2.1
  show zz_Z p l e (headSpec wsX7_isRow ({ frames := 0, cells := 0, slots := 0, locals := 0 } : Room)).room s m ([.long x, .int (nI kn), .int (nI mo)] : List Value).toArray below meth c 0 0 (MQ below (zz_Qi G (fun r M1 => M = M1 ∧ r = zz_b (zs_row x kn mo))) ([.long x, .int (nI kn), .int (nI mo)] : List Value).toArray s 0 0 (zz_A G)) 9 G (zz_A G) M 0 [(0, .long x), (2, .int (nI kn)), (3, .int (nI mo))] []
  rcases zl_cases x with ⟨n, hn, hx⟩ | hx
  · have hxr : zs_row x kn mo = zok n kn mo := by rw [hx, zs_row_lN hn]
    refine zz_lload_n (pc := 0) E dX7_isRow_0 rfl ?_
    refine zz_eql (y := lN n) hx ?_
    refine zz_lstore (pc := 1) (lv' := [(0, _), (2, _), (3, _), (4, _)]) E dX7_isRow_1 (by decide) rfl ?_
    refine zz_iconst (pc := 3) (v := nI 0) E dX7_isRow_3 (by decide) ?_
    refine zz_istore (pc := 4) (lv' := [(0, _), (2, _), (3, _), (4, _), (6, _)]) E dX7_isRow_4 (by decide) rfl ?_
    have key : ∀ (j i a : Nat), i + j = mo → a < 2 ^ 63 → zok n kn mo = zok a kn j → zz_Z p l e (headSpec wsX7_isRow ({ frames := 0, cells := 0, slots := 0, locals := 0 } : Room)).room s m ([.long x, .int (nI kn), .int (nI mo)] : List Value).toArray below meth c 0 0 (MQ below (zz_Qi G (fun r M1 => M = M1 ∧ r = zz_b (zs_row x kn mo))) ([.long x, .int (nI kn), .int (nI mo)] : List Value).toArray s 0 0 (zz_A G)) 9 G (zz_A G) M 6 [(2, .int (nI kn)), (3, .int (nI mo)), (4, .long (lN a)), (6, .int (nI i))] [] := by
      intro j
      induction j with
      | zero =>
        intro i a hi ha hz
        refine zz_iload (pc := 6) E dX7_isRow_6 rfl ?_
        refine zz_iload_n (pc := 8) E dX7_isRow_8 rfl ?_
        refine zn_icmp_ge (pc := 9) (tgt := 58) E dX7_isRow_9 (by decide) (by omega) (by omega) (fun h9 => ?_) (fun h9 => ?_)
        · refine zz_lload (pc := 58) E dX7_isRow_58 rfl ?_
          refine zz_lconst (pc := 60) (v := lN 0) E dX7_isRow_60 rfl ?_
          refine zn_lcmp_ne (pc := 61) (tgt := 69) E dX7_isRow_61 dX7_isRow_62 (by decide) (by omega) (by omega) (fun h62 => ?_) (fun h62 => ?_)
          · refine zz_iconst (pc := 69) (v := nI 0) E dX7_isRow_69 (by decide) ?_
            exact zz_zret (pc := 70) E hr hlk dX7_isRow_70 (by decide) ⟨rfl, by first | (rw [hxr, hz, h62, zok_0]; rfl) | (rw [hxr, hz, zok_pos0 (by omega) ha]; rfl)⟩
          · refine zz_iconst (pc := 65) (v := nI 1) E dX7_isRow_65 (by decide) ?_
            refine zz_goto (pc := 66) (tgt := 70) E dX7_isRow_66 (by decide) ?_
            exact zz_zret (pc := 70) E hr hlk dX7_isRow_70 (by decide) ⟨rfl, by first | (rw [hxr, hz, h62, zok_0]; rfl) | (rw [hxr, hz, zok_pos0 (by omega) ha]; rfl)⟩
        · exact absurd h9 (by omega)
      | succ j ih =>
        intro i a hi ha hz
        refine zz_iload (pc := 6) E dX7_isRow_6 rfl ?_
        refine zz_iload_n (pc := 8) E dX7_isRow_8 rfl ?_
        refine zn_icmp_ge (pc := 9) (tgt := 58) E dX7_isRow_9 (by decide) (by omega) (by omega) (fun h9 => ?_) (fun h9 => ?_)
        · exact absurd h9 (by omega)
        · refine zz_lload (pc := 12) E dX7_isRow_12 rfl ?_
          refine zz_lconst (pc := 14) (v := lN 0) E dX7_isRow_14 rfl ?_
          refine zn_lcmp_le (pc := 15) (tgt := 58) E dX7_isRow_15 dX7_isRow_16 (by decide) (by omega) (by omega) (fun h16 => ?_) (fun h16 => ?_)
          · refine zz_lload (pc := 58) E dX7_isRow_58 rfl ?_
            refine zz_lconst (pc := 60) (v := lN 0) E dX7_isRow_60 rfl ?_
            refine zn_lcmp_ne (pc := 61) (tgt := 69) E dX7_isRow_61 dX7_isRow_62 (by decide) (by omega) (by omega) (fun h62 => ?_) (fun h62 => ?_)
            · exact absurd h62 (by omega)
            · refine zz_iconst (pc := 65) (v := nI 1) E dX7_isRow_65 (by decide) ?_
              refine zz_goto (pc := 66) (tgt := 70) E dX7_isRow_66 (by decide) ?_
              exact zz_zret (pc := 70) E hr hlk dX7_isRow_70 (by decide) ⟨rfl, by rw [hxr, hz, h62, zok_0]; rfl⟩
          · refine zz_lload (pc := 19) E dX7_isRow_19 rfl ?_
            refine zz_ldc2 (pc := 21) (v := lN 10) E clX7_isRow_203 dX7_isRow_21 ?_
            refine zn_lrem (pc := 24) E dX7_isRow_24 (by omega) (by omega) (by omega) ?_
            refine zz_lstore (pc := 25) (lv' := [(2, _), (3, _), (4, _), (6, _), (7, _)]) E dX7_isRow_25 (by decide) rfl ?_
            refine zz_lload (pc := 27) E dX7_isRow_27 rfl ?_
            refine zz_lconst (pc := 29) (v := lN 1) E dX7_isRow_29 rfl ?_
            refine zn_lcmp_lt (pc := 30) (tgt := 42) E dX7_isRow_30 dX7_isRow_31 (by decide) (by omega) (by omega) (fun h31 => ?_) (fun h31 => ?_)
            · refine zz_iconst (pc := 42) (v := nI 0) E dX7_isRow_42 (by decide) ?_
              exact zz_zret (pc := 43) E hr hlk dX7_isRow_43 (by decide) ⟨rfl, by rw [hxr, hz, zok_step (by omega) ha, decide_eq_false (by omega)]; rfl⟩
            · refine zz_lload (pc := 34) E dX7_isRow_34 rfl ?_
              refine zz_iload_n (pc := 36) E dX7_isRow_36 rfl ?_
              refine zn_i2l (pc := 37) E dX7_isRow_37 (by omega) ?_
              refine zn_lcmp_le (pc := 38) (tgt := 44) E dX7_isRow_38 dX7_isRow_39 (by decide) (by omega) (by omega) (fun h39 => ?_) (fun h39 => ?_)
              · refine zz_lload (pc := 44) E dX7_isRow_44 rfl ?_
                refine zz_ldc2 (pc := 46) (v := lN 10) E clX7_isRow_203 dX7_isRow_46 ?_
                refine zn_ldiv (pc := 49) E dX7_isRow_49 (by omega) (by omega) (by omega) ?_
                refine zz_lstore (pc := 50) (lv' := [(2, _), (3, _), (4, _), (6, _), (7, _)]) E dX7_isRow_50 (by decide) rfl ?_
                refine zn_inc (pc := 52) (lv' := [(2, _), (3, _), (4, _), (6, _), (7, _)]) E dX7_isRow_52 rfl (by decide) rfl ?_
                refine zz_goto (pc := 55) (tgt := 6) E dX7_isRow_55 (by decide) ?_
                exact zz_to (ih (i + 1) (a / 10) (by omega) (by omega) (by rw [hz, zok_step (by omega) ha, decide_eq_true (by omega)]; rfl)) ⟨rfl, rfl, rfl, rfl, trivial⟩
              · refine zz_iconst (pc := 42) (v := nI 0) E dX7_isRow_42 (by decide) ?_
                exact zz_zret (pc := 43) E hr hlk dX7_isRow_43 (by decide) ⟨rfl, by rw [hxr, hz, zok_step (by omega) ha, decide_eq_false (by omega)]; rfl⟩
    exact zz_to (key mo 0 n (by omega) hn rfl) ⟨rfl, rfl, rfl, rfl, trivial⟩
  · refine zz_lload_n (pc := 0) E dX7_isRow_0 rfl ?_
    refine zz_lstore (pc := 1) (lv' := [(0, _), (2, _), (3, _), (4, _)]) E dX7_isRow_1 (by decide) rfl ?_
    refine zz_iconst (pc := 3) (v := nI 0) E dX7_isRow_3 (by decide) ?_
    refine zz_istore (pc := 4) (lv' := [(0, _), (2, _), (3, _), (4, _), (6, _)]) E dX7_isRow_4 (by decide) rfl ?_
    refine zz_iload (pc := 6) E dX7_isRow_6 rfl ?_
    refine zz_iload_n (pc := 8) E dX7_isRow_8 rfl ?_
    refine zn_icmp_ge (pc := 9) (tgt := 58) E dX7_isRow_9 (by decide) (by omega) (by omega) (fun h9 => ?_) (fun h9 => ?_)
    · refine zz_lload (pc := 58) E dX7_isRow_58 rfl ?_
      refine zz_lconst (pc := 60) (v := lN 0) E dX7_isRow_60 rfl ?_
      refine zz_lcmp (pc := 61) E dX7_isRow_61 ?_
      refine zz_if_ne (pc := 62) (tgt := 69) E dX7_isRow_62 (by decide) (fun h62 => ?_) (fun h62 => ?_)
      · refine zz_iconst (pc := 69) (v := nI 0) E dX7_isRow_69 (by decide) ?_
        exact zz_zret (pc := 70) E hr hlk dX7_isRow_70 (by decide) ⟨rfl, by rw [zs_row_neg hx]; rfl⟩
      · rw [lg_cmp_eq] at h62
        rw [h62] at hx
        exact absurd hx (by decide)
    · refine zz_lload (pc := 12) E dX7_isRow_12 rfl ?_
      refine zz_lconst (pc := 14) (v := lN 0) E dX7_isRow_14 rfl ?_
      refine zz_lcmp (pc := 15) E dX7_isRow_15 ?_
      refine zz_if_le (pc := 16) (tgt := 58) E dX7_isRow_16 (by decide) (fun h16 => ?_) (fun h16 => ?_)
      · refine zz_lload (pc := 58) E dX7_isRow_58 rfl ?_
        refine zz_lconst (pc := 60) (v := lN 0) E dX7_isRow_60 rfl ?_
        refine zz_lcmp (pc := 61) E dX7_isRow_61 ?_
        refine zz_if_ne (pc := 62) (tgt := 69) E dX7_isRow_62 (by decide) (fun h62 => ?_) (fun h62 => ?_)
        · refine zz_iconst (pc := 69) (v := nI 0) E dX7_isRow_69 (by decide) ?_
          exact zz_zret (pc := 70) E hr hlk dX7_isRow_70 (by decide) ⟨rfl, by rw [zs_row_neg hx]; rfl⟩
        · rw [lg_cmp_eq] at h62
          rw [h62] at hx
          exact absurd hx (by decide)
      · exact absurd hx (Int64.not_lt.mpr (Int64.le_of_lt ((lg_cmp_gt x (lN 0)).mp (Int32.not_le.mp h16))))

set_option maxHeartbeats 4000000 in
set_option maxRecDepth 100000 in
theorem kkX7_isRowOfSigns (l : Launch) (G : zz_C) (hJ : zz_J G) (M : zz_M) (x : Int32) : Met l yX7_isRowOfSigns wsX7_isRowOfSigns ({ frames := 1, cells := 0, slots := 0, locals := 28 } : Room) (zz_P G M [.int x]) (zz_Qi G (fun r M1 => M = M1 ∧ r = zz_b (zs_row x.toInt64 6 9))) 0 0 (zz_A G) := by
  refine zz_start hJ (by decide) rfl (Nat.le_of_ble_eq_true rfl) ?_
  intro p e s m below meth c E hr hlk
  have hts := E.2.2.2.2.1
  show zz_Z p l e (headSpec wsX7_isRowOfSigns ({ frames := 1, cells := 0, slots := 0, locals := 28 } : Room)).room s m ([.int x] : List Value).toArray below meth c 0 0 (MQ below (zz_Qi G (fun r M1 => M = M1 ∧ r = zz_b (zs_row x.toInt64 6 9))) ([.int x] : List Value).toArray s 0 0 (zz_A G)) 1 G (zz_A G) M 0 [(0, .int x)] []
  refine zz_iload_n (pc := 0) E dX7_isRowOfSigns_0 rfl ?_
  refine zz_i2l (pc := 1) E dX7_isRowOfSigns_1 rfl ?_
  refine zz_bipush (pc := 2) (v := nI 6) E dX7_isRowOfSigns_2 (by decide) ?_
  refine zz_bipush (pc := 4) (v := nI 9) E dX7_isRowOfSigns_4 (by decide) ?_
  refine zz_ciS (pc := 6) E (kkX7_isRow l G hJ _ _ _ _ (by omega) (by omega)) (va_cwS 3 hts gX7_isRowOfSigns_X7_isRow rfl rfl rfl (by decide +kernel) ⟨Nat.le_of_ble_eq_true rfl, Nat.le_of_ble_eq_true rfl⟩) rfl rfl (Nat.le_of_ble_eq_true rfl) dX7_isRowOfSigns_6 (fun r6 M6 q6 => ?_)
  obtain ⟨rfl, rfl⟩ := q6
  exact zz_zret (pc := 9) E hr hlk dX7_isRowOfSigns_9 (zz_b01 _) ⟨rfl, rfl⟩

/-- how many digits a long has, each 1 to kinds; -9 where another is among them, or it is below 0 -/
def zs_dg (x : Int64) (kinds : Nat) : Option Nat := if zs_row x kinds 20 = true then some (zd x.toInt.toNat).length else none
/-- a number or -9 -/
def zo (o : Option Nat) : Int32 := match o with
  | none => -9
  | some a => nI a
theorem zs_dg_neg {x : Int64} {kinds : Nat} (h : x < lN 0) : zs_dg x kinds = none := by
  unfold zs_dg
  rw [zs_row_neg h]
  rfl
theorem zdf_len : ∀ (f n : Nat), (zdf f n).length ≤ f
  | 0, _ => Nat.zero_le _
  | f + 1, n => by
    rw [zdf]
    by_cases h0 : n = 0
    · rw [if_pos h0]; exact Nat.zero_le _
    · rw [if_neg h0, List.length_cons]
      have := zdf_len f (n / 10)
      omega
theorem zd_len (n : Nat) : (zd n).length ≤ 20 := zdf_len 20 n
theorem zok_20 {n kinds : Nat} : zok n kinds 20 = (zd n).all (fun d => decide (1 ≤ d ∧ d ≤ kinds)) := by
  unfold zok
  rw [decide_eq_true (zd_len n), Bool.and_true]
theorem zs_dg_lN {n kinds : Nat} (hn : n < 2 ^ 63) : zs_dg (lN n) kinds = if (zd n).all (fun d => decide (1 ≤ d ∧ d ≤ kinds)) = true then some (zd n).length else none := by
  unfold zs_dg
  rw [zs_row_lN hn, zok_20, zl_toInt hn]
  rfl

theorem clX8_digits_44 : Cond.constantLong RX8 44 (10) ∈ wsX8_digits := by decide +kernel
set_option maxHeartbeats 4000000 in
set_option maxRecDepth 100000 in
theorem kkX8_digits (l : Launch) (G : zz_C) (hJ : zz_J G) (M : zz_M) (x : Int64) (kn : Nat) (hkn : kn < 2 ^ 31) : Met l yX8_digits wsX8_digits ({ frames := 1, cells := 0, slots := 0, locals := 22 } : Room) (zz_P G M [.long x, .int (nI kn)]) (zz_Qi G (fun r M1 => M = M1 ∧ r = zo (zs_dg x kn))) 0 0 (zz_A G) := by
  refine zz_start hJ (by decide) rfl (Nat.le_of_ble_eq_true rfl) ?_
  intro p e s m below meth c E hr hlk
  have hts := E.2.2.2.2.1
  show zz_Z p l e (headSpec wsX8_digits ({ frames := 1, cells := 0, slots := 0, locals := 22 } : Room)).room s m ([.long x, .int (nI kn)] : List Value).toArray below meth c 0 0 (MQ below (zz_Qi G (fun r M1 => M = M1 ∧ r = zo (zs_dg x kn))) ([.long x, .int (nI kn)] : List Value).toArray s 0 0 (zz_A G)) 6 G (zz_A G) M 0 [(0, .long x), (2, .int (nI kn))] []
  rcases zl_cases x with ⟨n, hn, hx⟩ | hx
  · have hxr : zs_dg x kn = if (zd n).all (fun d => decide (1 ≤ d ∧ d ≤ kn)) = true then some (zd n).length else none := by rw [hx, zs_dg_lN hn]
    refine zz_iconst (pc := 0) (v := nI 0) E dX8_digits_0 (by decide) ?_
    refine zz_istore_n (pc := 1) (lv' := [(0, _), (2, _), (3, _)]) E dX8_digits_1 (by decide) rfl ?_
    refine zz_lload_n (pc := 2) E dX8_digits_2 rfl ?_
    refine zz_eql (y := lN n) hx ?_
    refine zz_lstore (pc := 3) (lv' := [(0, _), (2, _), (3, _), (4, _)]) E dX8_digits_3 (by decide) rfl ?_
    have key : ∀ (j i a : Nat), (zd a).length = j → i + j = (zd n).length → a < 2 ^ 63 → (zd n).all (fun d => decide (1 ≤ d ∧ d ≤ kn)) = (zd a).all (fun d => decide (1 ≤ d ∧ d ≤ kn)) → zz_Z p l e (headSpec wsX8_digits ({ frames := 1, cells := 0, slots := 0, locals := 22 } : Room)).room s m ([.long x, .int (nI kn)] : List Value).toArray below meth c 0 0 (MQ below (zz_Qi G (fun r M1 => M = M1 ∧ r = zo (zs_dg x kn))) ([.long x, .int (nI kn)] : List Value).toArray s 0 0 (zz_A G)) 6 G (zz_A G) M 5 [(0, .long x), (2, .int (nI kn)), (3, .int (nI i)), (4, .long (lN a))] [] := by
      intro j
      induction j with
      | zero =>
        intro i a hj hi ha hz
        have ha0 : a = 0 := by
          rcases Nat.eq_zero_or_pos a with h | h
          · exact h
          · rw [zd_pos h ha] at hj
            cases hj
        subst ha0
        rw [zd_0] at hz
        refine zz_lload (pc := 5) E dX8_digits_5 rfl ?_
        refine zz_lconst (pc := 7) (v := lN 0) E dX8_digits_7 rfl ?_
        refine zn_lcmp_le (pc := 8) (tgt := 44) E dX8_digits_8 dX8_digits_9 (by decide) (by omega) (by omega) (fun h9 => ?_) (fun h9 => ?_)
        · refine zz_lload_n (pc := 44) E dX8_digits_44 rfl ?_
          refine zz_eql (y := lN n) hx ?_
          refine zz_lconst (pc := 45) (v := lN 0) E dX8_digits_45 rfl ?_
          refine zn_lcmp_ge (pc := 46) (tgt := 55) E dX8_digits_46 dX8_digits_47 (by decide) (by omega) (by omega) (fun h47 => ?_) (fun h47 => ?_)
          · refine zz_iload_n (pc := 55) E dX8_digits_55 rfl ?_
            exact zz_iret (pc := 56) E hr hlk dX8_digits_56 ⟨rfl, by rw [hxr, hz, if_pos (by rfl), show i = (zd n).length by omega]; rfl⟩
          · exact absurd h47 (by omega)
        · exact absurd h9 (by omega)
      | succ j ih =>
        intro i a hj hi ha hz
        have h0 : 0 < a := by
          rcases Nat.eq_zero_or_pos a with h | h
          · rw [h] at hj; cases hj
          · exact h
        rw [zd_pos h0 ha, List.length_cons] at hj
        rw [zd_pos h0 ha, List.all_cons] at hz
        refine zz_lload (pc := 5) E dX8_digits_5 rfl ?_
        refine zz_lconst (pc := 7) (v := lN 0) E dX8_digits_7 rfl ?_
        refine zn_lcmp_le (pc := 8) (tgt := 44) E dX8_digits_8 dX8_digits_9 (by decide) (by omega) (by omega) (fun h9 => ?_) (fun h9 => ?_)
        · exact absurd h9 (by omega)
        · refine zz_lload (pc := 12) E dX8_digits_12 rfl ?_
          refine zz_ldc2 (pc := 14) (v := lN 10) E clX8_digits_44 dX8_digits_14 ?_
          refine zn_lrem (pc := 17) E dX8_digits_17 (by omega) (by omega) (by omega) ?_
          refine zn_l2i (pc := 18) E dX8_digits_18 ?_
          refine zz_iconst (pc := 19) (v := nI 1) E dX8_digits_19 (by decide) ?_
          refine zz_iload_n (pc := 20) E dX8_digits_20 rfl ?_
          refine zz_ciS (pc := 21) E (kkX8_within l G hJ _ _ _ _ ) (va_cwS 3 hts gX8_digits_X8_within rfl rfl rfl (by decide +kernel) ⟨Nat.le_of_ble_eq_true rfl, Nat.le_of_ble_eq_true rfl⟩) rfl rfl (Nat.le_of_ble_eq_true rfl) dX8_digits_21 (fun r21 M21 q21 => ?_)
          obtain ⟨rfl, rfl⟩ := q21
          refine zb_if_ne (pc := 24) (tgt := 30) E dX8_digits_24 (by decide) (fun h24 => ?_) (fun h24 => ?_)
          · rw [zp_w_nI (by omega) (by decide) hkn, decide_eq_true_iff] at h24
            refine zn_inc (pc := 30) (lv' := [(0, _), (2, _), (3, _), (4, _)]) E dX8_digits_30 rfl (by decide) rfl ?_
            refine zz_lload (pc := 33) E dX8_digits_33 rfl ?_
            refine zz_ldc2 (pc := 35) (v := lN 10) E clX8_digits_44 dX8_digits_35 ?_
            refine zn_ldiv (pc := 38) E dX8_digits_38 (by omega) (by omega) (by omega) ?_
            refine zz_lstore (pc := 39) (lv' := [(0, _), (2, _), (3, _), (4, _)]) E dX8_digits_39 (by decide) rfl ?_
            refine zz_goto (pc := 41) (tgt := 5) E dX8_digits_41 (by decide) ?_
            exact zz_to (ih (i + 1) (a / 10) (by omega) (by omega) (by omega) (by rw [hz, decide_eq_true (by omega)]; rfl)) ⟨rfl, rfl, rfl, rfl, trivial⟩
          · rw [zp_w_nI (by omega) (by decide) hkn, decide_eq_false_iff_not] at h24
            refine zz_bipush (pc := 27) (v := -9) E dX8_digits_27 (by decide) ?_
            exact zz_iret (pc := 29) E hr hlk dX8_digits_29 ⟨rfl, by rw [hxr, hz, decide_eq_false h24]; rfl⟩
    exact zz_to (key _ 0 n rfl (by omega) hn rfl) ⟨rfl, rfl, rfl, rfl, trivial⟩
  · refine zz_iconst (pc := 0) (v := nI 0) E dX8_digits_0 (by decide) ?_
    refine zz_istore_n (pc := 1) (lv' := [(0, _), (2, _), (3, _)]) E dX8_digits_1 (by decide) rfl ?_
    refine zz_lload_n (pc := 2) E dX8_digits_2 rfl ?_
    refine zz_lstore (pc := 3) (lv' := [(0, _), (2, _), (3, _), (4, _)]) E dX8_digits_3 (by decide) rfl ?_
    refine zz_lload (pc := 5) E dX8_digits_5 rfl ?_
    refine zz_lconst (pc := 7) (v := lN 0) E dX8_digits_7 rfl ?_
    refine zz_lcmp (pc := 8) E dX8_digits_8 ?_
    refine zz_if_le (pc := 9) (tgt := 44) E dX8_digits_9 (by decide) (fun h9 => ?_) (fun h9 => ?_)
    · refine zz_lload_n (pc := 44) E dX8_digits_44 rfl ?_
      refine zz_lconst (pc := 45) (v := lN 0) E dX8_digits_45 rfl ?_
      refine zz_lcmp (pc := 46) E dX8_digits_46 ?_
      refine zz_if_ge (pc := 47) (tgt := 55) E dX8_digits_47 (by decide) (fun h47 => ?_) (fun h47 => ?_)
      · exact absurd hx (Int64.not_lt.mpr ((lg_cmp_ge x (lN 0)).mp h47))
      · refine zz_bipush (pc := 50) (v := -9) E dX8_digits_50 (by decide) ?_
        refine zz_goto (pc := 52) (tgt := 56) E dX8_digits_52 (by decide) ?_
        exact zz_iret (pc := 56) E hr hlk dX8_digits_56 ⟨rfl, by rw [zs_dg_neg hx]; rfl⟩
    · exact absurd hx (Int64.not_lt.mpr (Int64.le_of_lt ((lg_cmp_gt x (lN 0)).mp (Int32.not_le.mp h9))))
