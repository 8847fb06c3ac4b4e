/-- the signs of a row, the first first -/
def zr (a : Nat) : List Nat := ((zd a).map (fun d => d - 1)).reverse
theorem zr_0 : zr 0 = [] := rfl
theorem zr_pos {a : Nat} (h : 0 < a) (ha : a < 2 ^ 63) : zr a = zr (a / 10) ++ [a % 10 - 1] := by
  unfold zr
  rw [zd_pos h ha, List.map_cons, List.reverse_cons]
theorem zr_len (a : Nat) : (zr a).length = (zd a).length := by
  unfold zr
  rw [List.length_reverse, List.length_map]
theorem zr_pos_of {a : Nat} (h : 0 < (zr a).length) : 0 < a := by
  rcases Nat.eq_zero_or_pos a with h0 | h0
  · rw [h0, zr_0] at h; cases h
  · exact h0
theorem zok_digit {n kinds most : Nat} (h : zok n kinds most = true) (h0 : 0 < n) (hn : n < 2 ^ 63) : 1 ≤ n % 10 ∧ n % 10 ≤ kinds := by
  unfold zok at h
  rw [zd_pos h0 hn, List.all_cons] at h
  simp only [Bool.and_eq_true, decide_eq_true_eq] at h
  exact h.1.1
theorem zok_tail {n kinds most : Nat} (h : zok n kinds (most + 1) = true) (h0 : 0 < n) (hn : n < 2 ^ 63) : zok (n / 10) kinds most = true := by
  rw [zok_step h0 hn] at h
  simp only [Bool.and_eq_true] at h
  exact h.2
theorem zok_mono {n kinds k2 most m2 : Nat} (h : zok n kinds most = true) (hk : kinds ≤ k2) (hm : most ≤ m2) : zok n k2 m2 = true := by
  unfold zok at h ⊢
  simp only [Bool.and_eq_true, decide_eq_true_eq, List.all_eq_true] at h ⊢
  exact ⟨fun d hd => ⟨(h.1 d hd).1, Nat.le_trans (h.1 d hd).2 hk⟩, Nat.le_trans h.2 hm⟩
theorem zok_half {n kinds most : Nat} (h : zok n kinds most = true) (hn : n < 2 ^ 63) : zok (n / 10) kinds most = true := by
  rcases Nat.eq_zero_or_pos n with h0 | h0
  · subst h0; exact zok_0 _ _
  · cases most with
    | zero => rw [zok_pos0 h0 hn] at h; cases h
    | succ m => exact zok_mono (zok_tail h h0 hn) (Nat.le_refl _) (Nat.le_succ _)
/-- what is a row's length among digits -/
theorem zs_w0 {x : Int64} {kinds most : Nat} (hm : most < 2 ^ 31) : zp_w (zo (zs_dg x kinds)) (nI 0) (nI most) = zs_row x kinds most := by
  rcases zl_cases x with ⟨n, hn, rfl⟩ | hx
  · rw [zs_dg_lN hn, zs_row_lN hn]
    unfold zok
    by_cases h : (zd n).all (fun d => decide (1 ≤ d ∧ d ≤ kinds)) = true
    · have := zd_len n
      rw [if_pos h, h]
      show zp_w (nI _) _ _ = _
      rw [zp_w_nI (by omega) (by decide) hm]
      simp
    · rw [if_neg h, Bool.eq_false_iff.mpr h]
      exact zp_w_m9 (by decide)
  · rw [zs_dg_neg hx, zs_row_neg hx]
    exact zp_w_m9 (by decide)
theorem zs_w1 {x : Int64} {kinds most : Nat} (hm : most < 2 ^ 31) : zp_w (zo (zs_dg x kinds)) (nI 1) (nI most) = (zs_row x kinds most && !decide (x = lN 0)) := by
  rcases zl_cases x with ⟨n, hn, rfl⟩ | hx
  · rw [zs_dg_lN hn, zs_row_lN hn]
    unfold zok
    have e : decide (lN n = lN 0) = decide (n = 0) := decide_eq_decide.mpr (zl_eq hn (by decide))
    rw [e]
    by_cases h : (zd n).all (fun d => decide (1 ≤ d ∧ d ≤ kinds)) = true
    · have := zd_len n
      rw [if_pos h, h]
      show zp_w (nI _) _ _ = _
      rw [zp_w_nI (by omega) (by decide) hm]
      rcases Nat.eq_zero_or_pos n with h0 | h0
      · subst h0; simp [zd_0]
      · rw [zd_pos h0 hn, List.length_cons]
        have : ¬ n = 0 := by omega
        simp [this]
    · rw [if_neg h, Bool.eq_false_iff.mpr h]
      exact zp_w_m9 (by decide)
  · rw [zs_dg_neg hx, zs_row_neg hx]
    exact zp_w_m9 (by decide)

set_option maxHeartbeats 4000000 in
set_option maxRecDepth 100000 in
theorem kkX8_isRow (l : Launch) (G : zz_C) (hJ : zz_J G) (M : zz_M) (x : Int32) (mo : Nat) (hmo : mo < 2 ^ 31) : Met l yX8_isRow wsX8_isRow ({ frames := 2, cells := 0, slots := 0, locals := 47 } : Room) (zz_P G M [.int x, .int (nI mo)]) (zz_Qi G (fun r M1 => M = M1 ∧ r = zz_b (zs_row x.toInt64 6 mo))) 0 0 (zz_A G) := by
  refine zz_start hJ (by decide) rfl (Nat.le_of_ble_eq_true rfl) ?_
  intro p e s m below meth c E hr hlk
  have hts := E.2.2.2.2.1
  show zz_Z p l e (headSpec wsX8_isRow ({ frames := 2, cells := 0, slots := 0, locals := 47 } : Room)).room s m ([.int x, .int (nI mo)] : List Value).toArray below meth c 0 0 (MQ below (zz_Qi G (fun r M1 => M = M1 ∧ r = zz_b (zs_row x.toInt64 6 mo))) ([.int x, .int (nI mo)] : List Value).toArray s 0 0 (zz_A G)) 2 G (zz_A G) M 0 [(0, .int x), (1, .int (nI mo))] []
  refine zz_iload_n (pc := 0) E dX8_isRow_0 rfl ?_
  refine zz_i2l (pc := 1) E dX8_isRow_1 rfl ?_
  refine zz_bipush (pc := 2) (v := nI 6) E dX8_isRow_2 (by decide) ?_
  refine zz_ciS (pc := 4) E (kkX8_digits l G hJ _ _ _ (by omega)) (va_cwS 2 hts gX8_isRow_X8_digits rfl rfl rfl (by decide +kernel) ⟨Nat.le_of_ble_eq_true rfl, Nat.le_of_ble_eq_true rfl⟩) rfl rfl (Nat.le_of_ble_eq_true rfl) dX8_isRow_4 (fun r4 M4 q4 => ?_)
  obtain ⟨rfl, rfl⟩ := q4
  refine zz_iconst (pc := 7) (v := nI 0) E dX8_isRow_7 (by decide) ?_
  refine zz_iload_n (pc := 8) E dX8_isRow_8 rfl ?_
  refine zz_ciS (pc := 9) E (kkX8_within l G hJ _ _ _ _ ) (va_cwS 3 hts gX8_isRow_X8_within rfl rfl rfl (by decide +kernel) ⟨Nat.le_of_ble_eq_true rfl, Nat.le_of_ble_eq_true rfl⟩) rfl rfl (Nat.le_of_ble_eq_true rfl) dX8_isRow_9 (fun r9 M9 q9 => ?_)
  obtain ⟨rfl, rfl⟩ := q9
  exact zz_zret (pc := 12) E hr hlk dX8_isRow_12 (zz_b01 _) ⟨rfl, by rw [zs_w0 hmo]⟩

set_option maxHeartbeats 4000000 in
set_option maxRecDepth 100000 in
theorem kkX8_isClaim (l : Launch) (G : zz_C) (hJ : zz_J G) (M : zz_M) (sg : Nat) (x : Int32) (hsg : sg < 2 ^ 31) : Met l yX8_isClaim wsX8_isClaim ({ frames := 2, cells := 0, slots := 0, locals := 47 } : Room) (zz_P G M [.int (nI sg), .int x]) (zz_Qi G (fun r M1 => M = M1 ∧ r = zz_b (zs_row x.toInt64 sg 3 && !decide (x.toInt64 = lN 0)))) 0 0 (zz_A G) := by
  refine zz_start hJ (by decide) rfl (Nat.le_of_ble_eq_true rfl) ?_
  intro p e s m below meth c E hr hlk
  have hts := E.2.2.2.2.1
  show zz_Z p l e (headSpec wsX8_isClaim ({ frames := 2, cells := 0, slots := 0, locals := 47 } : Room)).room s m ([.int (nI sg), .int x] : List Value).toArray below meth c 0 0 (MQ below (zz_Qi G (fun r M1 => M = M1 ∧ r = zz_b (zs_row x.toInt64 sg 3 && !decide (x.toInt64 = lN 0)))) ([.int (nI sg), .int x] : List Value).toArray s 0 0 (zz_A G)) 3 G (zz_A G) M 0 [(0, .int (nI sg)), (1, .int x)] []
  refine zz_iload_n (pc := 0) E dX8_isClaim_0 rfl ?_
  refine zz_i2l (pc := 1) E dX8_isClaim_1 rfl ?_
  refine zz_iload_n (pc := 2) E dX8_isClaim_2 rfl ?_
  refine zz_ciS (pc := 3) E (kkX8_digits l G hJ _ _ _ (by omega)) (va_cwS 2 hts gX8_isClaim_X8_digits rfl rfl rfl (by decide +kernel) ⟨Nat.le_of_ble_eq_true rfl, Nat.le_of_ble_eq_true rfl⟩) rfl rfl (Nat.le_of_ble_eq_true rfl) dX8_isClaim_3 (fun r3 M3 q3 => ?_)
  obtain ⟨rfl, rfl⟩ := q3
  refine zz_istore_n (pc := 6) (lv' := [(0, _), (1, _), (2, _)]) E dX8_isClaim_6 (by decide) rfl ?_
  refine zz_iload_n (pc := 7) E dX8_isClaim_7 rfl ?_
  refine zz_iconst (pc := 8) (v := nI 1) E dX8_isClaim_8 (by decide) ?_
  refine zz_iconst (pc := 9) (v := nI 3) E dX8_isClaim_9 (by decide) ?_
  refine zz_ciS (pc := 10) E (kkX8_within l G hJ _ _ _ _ ) (va_cwS 3 hts gX8_isClaim_X8_within rfl rfl rfl (by decide +kernel) ⟨Nat.le_of_ble_eq_true rfl, Nat.le_of_ble_eq_true rfl⟩) rfl rfl (Nat.le_of_ble_eq_true rfl) dX8_isClaim_10 (fun r10 M10 q10 => ?_)
  obtain ⟨rfl, rfl⟩ := q10
  exact zz_zret (pc := 13) E hr hlk dX8_isClaim_13 (zz_b01 _) ⟨rfl, by rw [zs_w1 (by decide)]⟩

theorem clX8_digitAt_44 : Cond.constantLong RX8 44 (10) ∈ wsX8_digitAt := by decide +kernel
set_option maxHeartbeats 4000000 in
set_option maxRecDepth 100000 in
theorem kkX8_digitAt (l : Launch) (G : zz_C) (hJ : zz_J G) (M : zz_M) (a n k kn : Nat) (ha : a < 2 ^ 63) (hn : (zd a).length = n) (hk : k < n) (hz : zok a kn 20 = true) : Met l yX8_digitAt wsX8_digitAt ({ frames := 0, cells := 0, slots := 0, locals := 0 } : Room) (zz_P G M [.long (lN a), .int (nI n), .int (nI k)]) (zz_Qi G (fun r M1 => M = M1 ∧ r = nI ((zr a).getD k 0))) 0 0 (zz_A G) := by
  refine zz_start hJ (by decide) rfl (Nat.le_of_ble_eq_true rfl) ?_
  intro p e s m below meth c E hr hlk
  have hts := E.2.2.2.2.1
  show zz_Z p l e (headSpec wsX8_digitAt ({ frames := 0, cells := 0, slots := 0, locals := 0 } : Room)).room s m ([.long (lN a), .int (nI n), .int (nI k)] : List Value).toArray below meth c 0 0 (MQ below (zz_Qi G (fun r M1 => M = M1 ∧ r = nI ((zr a).getD k 0))) ([.long (lN a), .int (nI n), .int (nI k)] : List Value).toArray s 0 0 (zz_A G)) 7 G (zz_A G) M 0 [(0, .long (lN a)), (2, .int (nI n)), (3, .int (nI k))] []
  have hn20 := zd_len a
  refine zz_lload_n (pc := 0) E dX8_digitAt_0 rfl ?_
  refine zz_lstore (pc := 1) (lv' := [(0, _), (2, _), (3, _), (4, _)]) E dX8_digitAt_1 (by decide) rfl ?_
  refine zz_iload_n (pc := 3) E dX8_digitAt_3 rfl ?_
  refine zz_iconst (pc := 4) (v := nI 1) E dX8_digitAt_4 (by decide) ?_
  refine zn_isub (pc := 5) E dX8_digitAt_5 (by omega) ?_
  refine zz_istore (pc := 6) (lv' := [(0, _), (2, _), (3, _), (4, _), (6, _)]) E dX8_digitAt_6 (by decide) rfl ?_
  have key : ∀ (j x b : Nat), x = k + j → b < 2 ^ 63 → zok b kn 20 = true → (zr b).length = x + 1 → (∃ t, zr a = zr b ++ t) → x < 20 → zz_Z p l e (headSpec wsX8_digitAt ({ frames := 0, cells := 0, slots := 0, locals := 0 } : Room)).room s m ([.long (lN a), .int (nI n), .int (nI k)] : List Value).toArray below meth c 0 0 (MQ below (zz_Qi G (fun r M1 => M = M1 ∧ r = nI ((zr a).getD k 0))) ([.long (lN a), .int (nI n), .int (nI k)] : List Value).toArray s 0 0 (zz_A G)) 7 G (zz_A G) M 8 [(0, .long (lN a)), (2, .int (nI n)), (3, .int (nI k)), (4, .long (lN b)), (6, .int (nI x))] [] := by
    intro j
    induction j with
    | zero =>
      intro x b hx hb hzb hl ht hx20
      have h0 := zr_pos_of (a := b) (by omega)
      have hd := zok_digit hzb h0 hb
      refine zz_iload (pc := 8) E dX8_digitAt_8 rfl ?_
      refine zz_iload_n (pc := 10) E dX8_digitAt_10 rfl ?_
      refine zn_icmp_le (pc := 11) (tgt := 28) E dX8_digitAt_11 (by decide) (by omega) (by omega) (fun h11 => ?_) (fun h11 => ?_)
      · refine zz_lload (pc := 28) E dX8_digitAt_28 rfl ?_
        refine zz_ldc2 (pc := 30) (v := lN 10) E clX8_digitAt_44 dX8_digitAt_30 ?_
        refine zn_lrem (pc := 33) E dX8_digitAt_33 (by omega) (by omega) (by omega) ?_
        refine zn_l2i (pc := 34) E dX8_digitAt_34 ?_
        refine zz_iconst (pc := 35) (v := nI 1) E dX8_digitAt_35 (by decide) ?_
        refine zn_isub (pc := 36) E dX8_digitAt_36 (by omega) ?_
        exact zz_iret (pc := 37) E hr hlk dX8_digitAt_37 ⟨rfl, by obtain ⟨t, ht⟩ := ht; rw [ht, zr_pos h0 hb]; rw [zr_pos h0 hb, List.length_append] at hl; congr 1; have hk2 : k = (zr (b / 10)).length := by { simp at hl; omega }; rw [hk2]; simp⟩
      · exact absurd h11 (by omega)
    | succ j ih =>
      intro x b hx hb hzb hl ht hx20
      have h0 := zr_pos_of (a := b) (by omega)
      have e := zr_pos h0 hb
      obtain ⟨x, rfl⟩ : ∃ y, x = y + 1 := ⟨x - 1, by omega⟩
      refine zz_iload (pc := 8) E dX8_digitAt_8 rfl ?_
      refine zz_iload_n (pc := 10) E dX8_digitAt_10 rfl ?_
      refine zn_icmp_le (pc := 11) (tgt := 28) E dX8_digitAt_11 (by decide) (by omega) (by omega) (fun h11 => ?_) (fun h11 => ?_)
      · exact absurd h11 (by omega)
      · refine zz_lload (pc := 14) E dX8_digitAt_14 rfl ?_
        refine zz_ldc2 (pc := 16) (v := lN 10) E clX8_digitAt_44 dX8_digitAt_16 ?_
        refine zn_ldiv (pc := 19) E dX8_digitAt_19 (by omega) (by omega) (by omega) ?_
        refine zz_lstore (pc := 20) (lv' := [(0, _), (2, _), (3, _), (4, _), (6, _)]) E dX8_digitAt_20 (by decide) rfl ?_
        refine zn_dec (pc := 22) (lv' := [(0, _), (2, _), (3, _), (4, _), (6, _)]) E dX8_digitAt_22 rfl (by decide) rfl ?_
        refine zz_goto (pc := 25) (tgt := 8) E dX8_digitAt_25 (by decide) ?_
        exact zz_to (ih x (b / 10) (by omega) (by omega) (zok_half hzb hb) (by rw [e, List.length_append] at hl; simpa using hl) (by obtain ⟨t, ht⟩ := ht; exact ⟨[b % 10 - 1] ++ t, by rw [ht, e]; simp⟩) (by omega)) ⟨rfl, rfl, rfl, rfl, rfl, trivial⟩
  exact zz_to (key (n - 1 - k) (n - 1) a (by omega) ha hz (by rw [zr_len]; omega) ⟨[], by simp⟩ (by omega)) ⟨rfl, rfl, rfl, rfl, rfl, trivial⟩

def zbit (w j : Nat) : Bool := decide (w / 2 ^ j % 2 = 1)
theorem zbit_ok : ∀ w, w < 64 → ∀ j, j < 6 → (nI w >>> (nI j &&& 31) &&& nI 1 = nI 1 ↔ zbit w j = true) := by decide +kernel
def zpf : Nat → Nat → Nat
  | 0, _ => 0
  | f + 1, w => w % 2 + zpf f (w / 2)
/-- how many of six bits -/
def zpc (w : Nat) : Nat := zpf 6 w
theorem zand1 : ∀ w, w < 64 → nI w &&& nI 1 = nI (w % 2) := by decide +kernel
theorem zshr1 : ∀ w, w < 64 → nI w >>> (nI 1 &&& 31) = nI (w / 2) := by decide +kernel

set_option maxHeartbeats 4000000 in
set_option maxRecDepth 100000 in
theorem kkX8_has (l : Launch) (G : zz_C) (hJ : zz_J G) (M : zz_M) (w j : Nat) (hw : w < 64) (hj : j < 6) : Met l yX8_has wsX8_has ({ frames := 0, cells := 0, slots := 0, locals := 0 } : Room) (zz_P G M [.int (nI w), .int (nI j)]) (zz_Qi G (fun r M1 => M = M1 ∧ r = zz_b (zbit w j))) 0 0 (zz_A G) := by
  refine zz_start hJ (by decide) rfl (Nat.le_of_ble_eq_true rfl) ?_
  intro p e s m below meth c E hr hlk
  have hts := E.2.2.2.2.1
  show zz_Z p l e (headSpec wsX8_has ({ frames := 0, cells := 0, slots := 0, locals := 0 } : Room)).room s m ([.int (nI w), .int (nI j)] : List Value).toArray below meth c 0 0 (MQ below (zz_Qi G (fun r M1 => M = M1 ∧ r = zz_b (zbit w j))) ([.int (nI w), .int (nI j)] : List Value).toArray s 0 0 (zz_A G)) 2 G (zz_A G) M 0 [(0, .int (nI w)), (1, .int (nI j))] []
  refine zz_iload_n (pc := 0) E dX8_has_0 rfl ?_
  refine zz_iload_n (pc := 1) E dX8_has_1 rfl ?_
  refine zz_ishr (pc := 2) E dX8_has_2 ?_
  refine zz_iconst (pc := 3) (v := nI 1) E dX8_has_3 (by decide) ?_
  refine zz_iand (pc := 4) E dX8_has_4 ?_
  refine zz_iconst (pc := 5) (v := nI 1) E dX8_has_5 (by decide) ?_
  refine zz_icmp_ne (pc := 6) (tgt := 13) E dX8_has_6 (by decide) (fun h6 => ?_) (fun h6 => ?_)
  · refine zz_iconst (pc := 13) (v := nI 0) E dX8_has_13 (by decide) ?_
    exact zz_zret (pc := 14) E hr hlk dX8_has_14 (by decide) ⟨rfl, by first | (rw [Bool.eq_false_iff.mpr (fun q => h6 ((zbit_ok w hw j hj).mpr q))]; rfl) | (rw [(zbit_ok w hw j hj).mp h6]; rfl)⟩
  · refine zz_iconst (pc := 9) (v := nI 1) E dX8_has_9 (by decide) ?_
    refine zz_goto (pc := 10) (tgt := 14) E dX8_has_10 (by decide) ?_
    exact zz_zret (pc := 14) E hr hlk dX8_has_14 (by decide) ⟨rfl, by first | (rw [Bool.eq_false_iff.mpr (fun q => h6 ((zbit_ok w hw j hj).mpr q))]; rfl) | (rw [(zbit_ok w hw j hj).mp h6]; rfl)⟩

set_option maxHeartbeats 4000000 in
set_option maxRecDepth 100000 in
theorem kkX8_sizeOf (l : Launch) (G : zz_C) (hJ : zz_J G) (M : zz_M) (w : Nat) (hw : w < 64) : Met l yX8_sizeOf wsX8_sizeOf ({ frames := 0, cells := 0, slots := 0, locals := 0 } : Room) (zz_P G M [.int (nI w)]) (zz_Qi G (fun r M1 => M = M1 ∧ r = nI (zpc w))) 0 0 (zz_A G) := by
  refine zz_start hJ (by decide) rfl (Nat.le_of_ble_eq_true rfl) ?_
  intro p e s m below meth c E hr hlk
  have hts := E.2.2.2.2.1
  show zz_Z p l e (headSpec wsX8_sizeOf ({ frames := 0, cells := 0, slots := 0, locals := 0 } : Room)).room s m ([.int (nI w)] : List Value).toArray below meth c 0 0 (MQ below (zz_Qi G (fun r M1 => M = M1 ∧ r = nI (zpc w))) ([.int (nI w)] : List Value).toArray s 0 0 (zz_A G)) 3 G (zz_A G) M 0 [(0, .int (nI w))] []
  refine zz_iconst (pc := 0) (v := nI 0) E dX8_sizeOf_0 (by decide) ?_
  refine zz_istore_n (pc := 1) (lv' := [(0, _), (1, _)]) E dX8_sizeOf_1 (by decide) rfl ?_
  refine zz_iload_n (pc := 2) E dX8_sizeOf_2 rfl ?_
  refine zz_istore_n (pc := 3) (lv' := [(0, _), (1, _), (2, _)]) E dX8_sizeOf_3 (by decide) rfl ?_
  have key : ∀ (f i b : Nat), b < 2 ^ f → b < 64 → i + zpf f b = zpc w → zz_Z p l e (headSpec wsX8_sizeOf ({ frames := 0, cells := 0, slots := 0, locals := 0 } : Room)).room s m ([.int (nI w)] : List Value).toArray below meth c 0 0 (MQ below (zz_Qi G (fun r M1 => M = M1 ∧ r = nI (zpc w))) ([.int (nI w)] : List Value).toArray s 0 0 (zz_A G)) 3 G (zz_A G) M 4 [(0, .int (nI w)), (1, .int (nI i)), (2, .int (nI b))] [] := by
    intro f
    induction f with
    | zero =>
      intro i b hb hb2 hz
      have hb0 : b = 0 := by simpa using hb
      refine zz_iload_n (pc := 4) E dX8_sizeOf_4 rfl ?_
      refine zn_if_le (pc := 5) (tgt := 21) E dX8_sizeOf_5 (by decide) (by omega) (fun h5 => ?_) (fun h5 => ?_)
      · refine zz_iload_n (pc := 21) E dX8_sizeOf_21 rfl ?_
        exact zz_iret (pc := 22) E hr hlk dX8_sizeOf_22 ⟨rfl, by rw [← hz]; rfl⟩
      · exact absurd h5 (by omega)
    | succ f ih =>
      intro i b hb hb2 hz
      refine zz_iload_n (pc := 4) E dX8_sizeOf_4 rfl ?_
      refine zn_if_le (pc := 5) (tgt := 21) E dX8_sizeOf_5 (by decide) (by omega) (fun h5 => ?_) (fun h5 => ?_)
      · have hb0 : b = 0 := by omega
        subst hb0
        have hz0 : ∀ g, zpf g 0 = 0 := by { intro g; induction g with | zero => rfl | succ g ig => rw [zpf, show 0 / 2 = 0 from rfl, ig] }
        refine zz_iload_n (pc := 21) E dX8_sizeOf_21 rfl ?_
        exact zz_iret (pc := 22) E hr hlk dX8_sizeOf_22 ⟨rfl, by rw [← hz, hz0]; rfl⟩
      · refine zz_iload_n (pc := 8) E dX8_sizeOf_8 rfl ?_
        refine zz_iload_n (pc := 9) E dX8_sizeOf_9 rfl ?_
        refine zz_iconst (pc := 10) (v := nI 1) E dX8_sizeOf_10 (by decide) ?_
        refine zz_iand (pc := 11) E dX8_sizeOf_11 ?_
        refine zz_eqi (y := nI (b % 2)) (zand1 b hb2) ?_
        refine zn_iadd (pc := 12) E dX8_sizeOf_12 ?_
        refine zz_istore_n (pc := 13) (lv' := [(0, _), (1, _), (2, _)]) E dX8_sizeOf_13 (by decide) rfl ?_
        refine zz_iload_n (pc := 14) E dX8_sizeOf_14 rfl ?_
        refine zz_iconst (pc := 15) (v := nI 1) E dX8_sizeOf_15 (by decide) ?_
        refine zz_ishr (pc := 16) E dX8_sizeOf_16 ?_
        refine zz_eqi (y := nI (b / 2)) (zshr1 b hb2) ?_
        refine zz_istore_n (pc := 17) (lv' := [(0, _), (1, _), (2, _)]) E dX8_sizeOf_17 (by decide) rfl ?_
        refine zz_goto (pc := 18) (tgt := 4) E dX8_sizeOf_18 (by decide) ?_
        exact zz_to (ih (i + b % 2) (b / 2) (by rw [Nat.pow_succ] at hb; omega) (by omega) (by rw [zpf] at hz; omega)) ⟨rfl, rfl, rfl, trivial⟩
  exact zz_to (key 6 0 w hw hw (by show 0 + zpc w = zpc w; omega)) ⟨rfl, rfl, rfl, trivial⟩

/-- the number of a row of m letters -/
def zlb : Nat → Nat → Nat
  | 0, _ => 0
  | m + 1, v => (v % 3 + 1) + 10 * zlb m (v / 3)
/-- the row at a place among all rows of so many kinds -/
def zrof (kinds : Nat) : Nat → Nat → Nat
  | 0, _ => 0
  | f + 1, v => if v = 0 ∨ kinds = 0 then 0 else ((v - 1) % kinds + 1) + 10 * zrof kinds f ((v - 1) / kinds)
def zro (place kinds : Nat) : Nat := zrof kinds 9 place
def zfu (a : Nat) : Nat := if 100 ≤ a then 100 else if 10 ≤ a then 10 else 1

theorem clX8_lettersBy_44 : Cond.constantLong RX8 44 (10) ∈ wsX8_lettersBy := by decide +kernel
set_option maxHeartbeats 4000000 in
set_option maxRecDepth 100000 in
theorem kkX8_lettersBy (l : Launch) (G : zz_C) (hJ : zz_J G) (M : zz_M) (v n : Nat) (hv : v < 2 ^ 31) (hn : n < 2 ^ 31) : Met l yX8_lettersBy wsX8_lettersBy ({ frames := 0, cells := 0, slots := 0, locals := 0 } : Room) (zz_P G M [.int (nI v), .int (nI n)]) (zz_Ql G (fun r M1 => M = M1 ∧ r = lN (zlb n v))) 0 0 (zz_A G) := by
  refine zz_start hJ (by decide) rfl (Nat.le_of_ble_eq_true rfl) ?_
  intro p e s m below meth c E hr hlk
  have hts := E.2.2.2.2.1
  show zz_Z p l e (headSpec wsX8_lettersBy ({ frames := 0, cells := 0, slots := 0, locals := 0 } : Room)).room s m ([.int (nI v), .int (nI n)] : List Value).toArray below meth c 0 0 (MQ below (zz_Ql G (fun r M1 => M = M1 ∧ r = lN (zlb n v))) ([.int (nI v), .int (nI n)] : List Value).toArray s 0 0 (zz_A G)) 8 G (zz_A G) M 0 [(0, .int (nI v)), (1, .int (nI n))] []
  refine zz_lconst (pc := 0) (v := lN 0) E dX8_lettersBy_0 rfl ?_
  refine zz_lstore_n (pc := 1) (lv' := [(0, _), (1, _), (2, _)]) E dX8_lettersBy_1 (by decide) rfl ?_
  refine zz_lconst (pc := 2) (v := lN 1) E dX8_lettersBy_2 rfl ?_
  refine zz_lstore (pc := 3) (lv' := [(0, _), (1, _), (2, _), (4, _)]) E dX8_lettersBy_3 (by decide) rfl ?_
  refine zz_iload_n (pc := 5) E dX8_lettersBy_5 rfl ?_
  refine zz_istore (pc := 6) (lv' := [(0, _), (1, _), (2, _), (4, _), (6, _)]) E dX8_lettersBy_6 (by decide) rfl ?_
  refine zz_iconst (pc := 8) (v := nI 0) E dX8_lettersBy_8 (by decide) ?_
  refine zz_istore (pc := 9) (lv' := [(0, _), (1, _), (2, _), (4, _), (6, _), (7, _)]) E dX8_lettersBy_9 (by decide) rfl ?_
  have key : ∀ (j k its by_ left : Nat), k + j = n → left < 2 ^ 31 → its + by_ * zlb j left = zlb n v → zz_Z p l e (headSpec wsX8_lettersBy ({ frames := 0, cells := 0, slots := 0, locals := 0 } : Room)).room s m ([.int (nI v), .int (nI n)] : List Value).toArray below meth c 0 0 (MQ below (zz_Ql G (fun r M1 => M = M1 ∧ r = lN (zlb n v))) ([.int (nI v), .int (nI n)] : List Value).toArray s 0 0 (zz_A G)) 8 G (zz_A G) M 11 [(0, .int (nI v)), (1, .int (nI n)), (2, .long (lN its)), (4, .long (lN by_)), (6, .int (nI left)), (7, .int (nI k))] [] := by
    intro j
    induction j with
    | zero =>
      intro k its by_ left hk hl hz
      refine zz_iload (pc := 11) E dX8_lettersBy_11 rfl ?_
      refine zz_iload_n (pc := 13) E dX8_lettersBy_13 rfl ?_
      refine zn_icmp_ge (pc := 14) (tgt := 50) E dX8_lettersBy_14 (by decide) (by omega) (by omega) (fun h14 => ?_) (fun h14 => ?_)
      · refine zz_lload_n (pc := 50) E dX8_lettersBy_50 rfl ?_
        exact zz_lret (pc := 51) E hr hlk dX8_lettersBy_51 ⟨rfl, by rw [← hz, zlb]; rfl⟩
      · exact absurd h14 (by omega)
    | succ j ih =>
      intro k its by_ left hk hl hz
      refine zz_iload (pc := 11) E dX8_lettersBy_11 rfl ?_
      refine zz_iload_n (pc := 13) E dX8_lettersBy_13 rfl ?_
      refine zn_icmp_ge (pc := 14) (tgt := 50) E dX8_lettersBy_14 (by decide) (by omega) (by omega) (fun h14 => ?_) (fun h14 => ?_)
      · exact absurd h14 (by omega)
      · refine zz_lload_n (pc := 17) E dX8_lettersBy_17 rfl ?_
        refine zz_lload (pc := 18) E dX8_lettersBy_18 rfl ?_
        refine zz_iload (pc := 20) E dX8_lettersBy_20 rfl ?_
        refine zz_iconst (pc := 22) (v := nI 3) E dX8_lettersBy_22 (by decide) ?_
        refine zn_irem (pc := 23) E dX8_lettersBy_23 (by omega) (by omega) (by omega) ?_
        refine zz_iconst (pc := 24) (v := nI 1) E dX8_lettersBy_24 (by decide) ?_
        refine zn_iadd (pc := 25) E dX8_lettersBy_25 ?_
        refine zn_i2l (pc := 26) E dX8_lettersBy_26 (by omega) ?_
        refine zn_lmul (pc := 27) E dX8_lettersBy_27 ?_
        refine zn_ladd (pc := 28) E dX8_lettersBy_28 ?_
        refine zz_lstore_n (pc := 29) (lv' := [(0, _), (1, _), (2, _), (4, _), (6, _), (7, _)]) E dX8_lettersBy_29 (by decide) rfl ?_
        refine zz_iload (pc := 30) E dX8_lettersBy_30 rfl ?_
        refine zz_iconst (pc := 32) (v := nI 3) E dX8_lettersBy_32 (by decide) ?_
        refine zn_idiv (pc := 33) E dX8_lettersBy_33 (by omega) (by omega) (by omega) ?_
        refine zz_istore (pc := 34) (lv' := [(0, _), (1, _), (2, _), (4, _), (6, _), (7, _)]) E dX8_lettersBy_34 (by decide) rfl ?_
        refine zz_lload (pc := 36) E dX8_lettersBy_36 rfl ?_
        refine zz_ldc2 (pc := 38) (v := lN 10) E clX8_lettersBy_44 dX8_lettersBy_38 ?_
        refine zn_lmul (pc := 41) E dX8_lettersBy_41 ?_
        refine zz_lstore (pc := 42) (lv' := [(0, _), (1, _), (2, _), (4, _), (6, _), (7, _)]) E dX8_lettersBy_42 (by decide) rfl ?_
        refine zn_inc (pc := 44) (lv' := [(0, _), (1, _), (2, _), (4, _), (6, _), (7, _)]) E dX8_lettersBy_44 rfl (by decide) rfl ?_
        refine zz_goto (pc := 47) (tgt := 11) E dX8_lettersBy_47 (by decide) ?_
        exact zz_to (ih (k + 1) (its + by_ * (left % 3 + 1)) (by_ * 10) (left / 3) (by omega) (by omega) (by rw [← hz, zlb]; grind)) ⟨rfl, rfl, rfl, rfl, rfl, rfl, trivial⟩
  exact zz_to (key n 0 0 1 v (by omega) hv (by omega)) ⟨rfl, rfl, rfl, rfl, rfl, rfl, trivial⟩

set_option maxHeartbeats 4000000 in
set_option maxRecDepth 100000 in
theorem kkX7_rowInOrder (l : Launch) (G : zz_C) (hJ : zz_J G) (M : zz_M) (v n : Nat) (hv : v < 2 ^ 31) (hn : n < 2 ^ 31) : Met l yX7_rowInOrder wsX7_rowInOrder ({ frames := 0, cells := 0, slots := 0, locals := 0 } : Room) (zz_P G M [.int (nI v), .int (nI n)]) (zz_Qi G (fun r M1 => M = M1 ∧ r = nI (zro v n))) 0 0 (zz_A G) := by
  refine zz_start hJ (by decide) rfl (Nat.le_of_ble_eq_true rfl) ?_
  intro p e s m below meth c E hr hlk
  have hts := E.2.2.2.2.1
  show zz_Z p l e (headSpec wsX7_rowInOrder ({ frames := 0, cells := 0, slots := 0, locals := 0 } : Room)).room s m ([.int (nI v), .int (nI n)] : List Value).toArray below meth c 0 0 (MQ below (zz_Qi G (fun r M1 => M = M1 ∧ r = nI (zro v n))) ([.int (nI v), .int (nI n)] : List Value).toArray s 0 0 (zz_A G)) 6 G (zz_A G) M 0 [(0, .int (nI v)), (1, .int (nI n))] []
  refine zz_iconst (pc := 0) (v := nI 0) E dX7_rowInOrder_0 (by decide) ?_
  refine zz_istore_n (pc := 1) (lv' := [(0, _), (1, _), (2, _)]) E dX7_rowInOrder_1 (by decide) rfl ?_
  refine zz_iconst (pc := 2) (v := nI 1) E dX7_rowInOrder_2 (by decide) ?_
  refine zz_istore_n (pc := 3) (lv' := [(0, _), (1, _), (2, _), (3, _)]) E dX7_rowInOrder_3 (by decide) rfl ?_
  refine zz_iload_n (pc := 4) E dX7_rowInOrder_4 rfl ?_
  refine zz_istore (pc := 5) (lv' := [(0, _), (1, _), (2, _), (3, _), (4, _)]) E dX7_rowInOrder_5 (by decide) rfl ?_
  refine zz_iconst (pc := 7) (v := nI 0) E dX7_rowInOrder_7 (by decide) ?_
  refine zz_istore (pc := 8) (lv' := [(0, _), (1, _), (2, _), (3, _), (4, _), (5, _)]) E dX7_rowInOrder_8 (by decide) rfl ?_
  have key : ∀ (j k row unit left : Nat), k + j = 9 → left < 2 ^ 31 → row + unit * zrof n j left = zro v n → zz_Z p l e (headSpec wsX7_rowInOrder ({ frames := 0, cells := 0, slots := 0, locals := 0 } : Room)).room s m ([.int (nI v), .int (nI n)] : List Value).toArray below meth c 0 0 (MQ below (zz_Qi G (fun r M1 => M = M1 ∧ r = nI (zro v n))) ([.int (nI v), .int (nI n)] : List Value).toArray s 0 0 (zz_A G)) 6 G (zz_A G) M 10 [(0, .int (nI v)), (1, .int (nI n)), (2, .int (nI row)), (3, .int (nI unit)), (4, .int (nI left)), (5, .int (nI k))] [] := by
    intro j
    induction j with
    | zero =>
      intro k row unit left hk hl hz
      refine zz_iload (pc := 10) E dX7_rowInOrder_10 rfl ?_
      refine zz_bipush (pc := 12) (v := nI 9) E dX7_rowInOrder_12 (by decide) ?_
      refine zn_icmp_ge (pc := 14) (tgt := 58) E dX7_rowInOrder_14 (by decide) (by omega) (by omega) (fun h14 => ?_) (fun h14 => ?_)
      · refine zz_iload_n (pc := 58) E dX7_rowInOrder_58 rfl ?_
        exact zz_iret (pc := 59) E hr hlk dX7_rowInOrder_59 ⟨rfl, by rw [← hz, zrof]; rfl⟩
      · exact absurd h14 (by omega)
    | succ j ih =>
      intro k row unit left hk hl hz
      refine zz_iload (pc := 10) E dX7_rowInOrder_10 rfl ?_
      refine zz_bipush (pc := 12) (v := nI 9) E dX7_rowInOrder_12 (by decide) ?_
      refine zn_icmp_ge (pc := 14) (tgt := 58) E dX7_rowInOrder_14 (by decide) (by omega) (by omega) (fun h14 => ?_) (fun h14 => ?_)
      · exact absurd h14 (by omega)
      · refine zz_iload (pc := 17) E dX7_rowInOrder_17 rfl ?_
        refine zn_if_le (pc := 19) (tgt := 58) E dX7_rowInOrder_19 (by decide) (by omega) (fun h19 => ?_) (fun h19 => ?_)
        · refine zz_iload_n (pc := 58) E dX7_rowInOrder_58 rfl ?_
          exact zz_iret (pc := 59) E hr hlk dX7_rowInOrder_59 ⟨rfl, by rw [← hz, zrof, if_pos (by omega)]; rfl⟩
        · refine zz_iload_n (pc := 22) E dX7_rowInOrder_22 rfl ?_
          refine zn_if_le (pc := 23) (tgt := 58) E dX7_rowInOrder_23 (by decide) (by omega) (fun h23 => ?_) (fun h23 => ?_)
          · refine zz_iload_n (pc := 58) E dX7_rowInOrder_58 rfl ?_
            exact zz_iret (pc := 59) E hr hlk dX7_rowInOrder_59 ⟨rfl, by rw [← hz, zrof, if_pos (by omega)]; rfl⟩
          · refine zz_iload_n (pc := 26) E dX7_rowInOrder_26 rfl ?_
            refine zz_iload (pc := 27) E dX7_rowInOrder_27 rfl ?_
            refine zz_iconst (pc := 29) (v := nI 1) E dX7_rowInOrder_29 (by decide) ?_
            refine zn_isub (pc := 30) E dX7_rowInOrder_30 (by omega) ?_
            refine zz_iload_n (pc := 31) E dX7_rowInOrder_31 rfl ?_
            refine zn_irem (pc := 32) E dX7_rowInOrder_32 (by omega) (by omega) (by omega) ?_
            refine zz_iconst (pc := 33) (v := nI 1) E dX7_rowInOrder_33 (by decide) ?_
            refine zn_iadd (pc := 34) E dX7_rowInOrder_34 ?_
            refine zz_iload_n (pc := 35) E dX7_rowInOrder_35 rfl ?_
            refine zn_imul (pc := 36) E dX7_rowInOrder_36 ?_
            refine zn_iadd (pc := 37) E dX7_rowInOrder_37 ?_
            refine zz_istore_n (pc := 38) (lv' := [(0, _), (1, _), (2, _), (3, _), (4, _), (5, _)]) E dX7_rowInOrder_38 (by decide) rfl ?_
            refine zz_iload_n (pc := 39) E dX7_rowInOrder_39 rfl ?_
            refine zz_bipush (pc := 40) (v := nI 10) E dX7_rowInOrder_40 (by decide) ?_
            refine zn_imul (pc := 42) E dX7_rowInOrder_42 ?_
            refine zz_istore_n (pc := 43) (lv' := [(0, _), (1, _), (2, _), (3, _), (4, _), (5, _)]) E dX7_rowInOrder_43 (by decide) rfl ?_
            refine zz_iload (pc := 44) E dX7_rowInOrder_44 rfl ?_
            refine zz_iconst (pc := 46) (v := nI 1) E dX7_rowInOrder_46 (by decide) ?_
            refine zn_isub (pc := 47) E dX7_rowInOrder_47 (by omega) ?_
            refine zz_iload_n (pc := 48) E dX7_rowInOrder_48 rfl ?_
            refine zn_idiv (pc := 49) E dX7_rowInOrder_49 (by omega) (by omega) (by omega) ?_
            refine zz_istore (pc := 50) (lv' := [(0, _), (1, _), (2, _), (3, _), (4, _), (5, _)]) E dX7_rowInOrder_50 (by decide) rfl ?_
            refine zn_inc (pc := 52) (lv' := [(0, _), (1, _), (2, _), (3, _), (4, _), (5, _)]) E dX7_rowInOrder_52 rfl (by decide) rfl ?_
            refine zz_goto (pc := 55) (tgt := 10) E dX7_rowInOrder_55 (by decide) ?_
            exact zz_to (ih (k + 1) (row + ((left - 1) % n + 1) * unit) (unit * 10) ((left - 1) / n) (by omega) (Nat.lt_of_le_of_lt (Nat.div_le_self _ _) (by omega)) (by rw [← hz, zrof, if_neg (by omega)]; grind)) ⟨rfl, rfl, rfl, rfl, rfl, rfl, trivial⟩
  exact zz_to (key 9 0 0 1 v (by omega) hv (by show 0 + 1 * zro v n = zro v n; omega)) ⟨rfl, rfl, rfl, rfl, rfl, rfl, trivial⟩

set_option maxHeartbeats 4000000 in
set_option maxRecDepth 100000 in
theorem kkX7_firstUnit (l : Launch) (G : zz_C) (hJ : zz_J G) (M : zz_M) (a : Nat) (ha : a < 2 ^ 31) : Met l yX7_firstUnit wsX7_firstUnit ({ frames := 0, cells := 0, slots := 0, locals := 0 } : Room) (zz_P G M [.int (nI a)]) (zz_Qi G (fun r M1 => M = M1 ∧ r = nI (zfu a))) 0 0 (zz_A G) := by
  refine zz_start hJ (by decide) rfl (Nat.le_of_ble_eq_true rfl) ?_
  intro p e s m below meth c E hr hlk
  have hts := E.2.2.2.2.1
  show zz_Z p l e (headSpec wsX7_firstUnit ({ frames := 0, cells := 0, slots := 0, locals := 0 } : Room)).room s m ([.int (nI a)] : List Value).toArray below meth c 0 0 (MQ below (zz_Qi G (fun r M1 => M = M1 ∧ r = nI (zfu a))) ([.int (nI a)] : List Value).toArray s 0 0 (zz_A G)) 1 G (zz_A G) M 0 [(0, .int (nI a))] []
  refine zz_iload_n (pc := 0) E dX7_firstUnit_0 rfl ?_
  refine zz_bipush (pc := 1) (v := nI 100) E dX7_firstUnit_1 (by decide) ?_
  refine zn_icmp_lt (pc := 3) (tgt := 9) E dX7_firstUnit_3 (by decide) (by omega) (by omega) (fun h3 => ?_) (fun h3 => ?_)
  · refine zz_iload_n (pc := 9) E dX7_firstUnit_9 rfl ?_
    refine zz_bipush (pc := 10) (v := nI 10) E dX7_firstUnit_10 (by decide) ?_
    refine zn_icmp_lt (pc := 12) (tgt := 20) E dX7_firstUnit_12 (by decide) (by omega) (by omega) (fun h12 => ?_) (fun h12 => ?_)
    · refine zz_iconst (pc := 20) (v := nI 1) E dX7_firstUnit_20 (by decide) ?_
      exact zz_iret (pc := 21) E hr hlk dX7_firstUnit_21 ⟨rfl, by unfold zfu; first | rw [if_neg (by omega), if_pos (by omega)] | rw [if_neg (by omega), if_neg (by omega)]⟩
    · refine zz_bipush (pc := 15) (v := nI 10) E dX7_firstUnit_15 (by decide) ?_
      refine zz_goto (pc := 17) (tgt := 21) E dX7_firstUnit_17 (by decide) ?_
      exact zz_iret (pc := 21) E hr hlk dX7_firstUnit_21 ⟨rfl, by unfold zfu; first | rw [if_neg (by omega), if_pos (by omega)] | rw [if_neg (by omega), if_neg (by omega)]⟩
  · refine zz_bipush (pc := 6) (v := nI 100) E dX7_firstUnit_6 (by decide) ?_
    exact zz_iret (pc := 8) E hr hlk dX7_firstUnit_8 ⟨rfl, by unfold zfu; rw [if_pos h3]⟩
