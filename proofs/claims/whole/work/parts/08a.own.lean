/-! the class itself: words, firsts, forms -/
def zlo (M M1 : zz_M) : Prop := ∀ j, 100 ≤ j → M1 j = M j
theorem zfr_lo {ks : List Nat} {M M1 : zz_M} (h : zfr ks M M1) (hk : ∀ j ∈ ks, j < 100) : zlo M M1 := fun j hj => h j (fun q => by have := hk j q; omega)
/-- the least word, letter by letter -/
def zlw (S v : Nat → Option Nat) : Nat → List Nat → Nat → Nat
  | 0, _, w => w
  | n + 1, L, w => match L with
    | [] => w
    | x :: t => match (zbest S v x 3).1 with
      | none => w
      | some a => zlw S v n ((zstep S (x :: t) a).getD (x :: t)) (w * 10 + a + 1)
/-- one letter on: the norm falls by one -/
theorem zlw_step {S v : Nat → Option Nat} (hV : zV S) (hv : zfix S v) {L : List Nat} {n : Nat} (h6 : ∀ x ∈ L, x < 6) (hn : znorm v L = some (n + 1)) : ∃ x t a L1, L = x :: t ∧ (zbest S v x 3).1 = some a ∧ a < 3 ∧ zstep S L a = some L1 ∧ znorm v L1 = some n := by
  cases L with
  | nil => cases hn
  | cons x t =>
    have hx := h6 x List.mem_cons_self
    obtain ⟨p, q, hp, hq, he⟩ := zoa_some (show zoa (v x) (znorm v t) = some (n + 1) from hn)
    have hb := zbest_by S v x 3
    have hm := hv x hx
    rw [hp] at hm
    rw [show (zbest S v x 3).2 = some p from hm.symm] at hb
    cases ho : (zbest S v x 3).1 with
    | none => rw [ho] at hb; cases hb
    | some a =>
      rw [ho] at hb
      have ha := zbest_lt S v x 3 a ho
      obtain ⟨r, k, hr, hk, hpk⟩ := zby_some hb
      refine ⟨x, t, a, zr r ++ t, rfl, ho, ha, ?_, ?_⟩
      · show (S (3 * x + a)).map (fun r => zr r ++ t) = _
        rw [hr]
        rfl
      · rw [znorm_app, hk, hq]
        show some (k + q) = some n
        congr 1
        omega
theorem zs_row_of {x : Int32} {kn mo : Nat} (h : zs_row x.toInt64 kn mo = true) (hm : mo < 20) : ∃ a, x = nI a ∧ zok a kn mo = true ∧ a = x.toInt.toNat ∧ a < 10 ^ mo ∧ a < 2 ^ 31 := by
  unfold zs_row at h
  rw [Bool.and_eq_true, decide_eq_true_iff, Int64.le_iff_toInt_le, zl_toInt (by decide), Int32.toInt_toInt64] at h
  have h0 : ¬ x < 0 := by
    rw [Int32.lt_iff_toInt_lt]
    show ¬ x.toInt < 0
    have := h.1
    omega
  obtain ⟨j, hj, rfl⟩ := nI_of h0
  have h2 := h.2
  rw [nI_toInt hj, Int.toNat_natCast] at h2
  exact ⟨j, rfl, h2, by rw [nI_toInt hj, Int.toNat_natCast], zok_lt h2 hm, hj⟩
theorem zs_row_ofL {x : Int64} {kn mo : Nat} (h : zs_row x kn mo = true) (hm : mo < 20) : ∃ a, x = lN a ∧ zok a kn mo = true ∧ a = x.toInt.toNat ∧ a < 10 ^ mo := by
  rcases zl_cases x with ⟨n, hn, rfl⟩ | hx
  · rw [zs_row_lN hn] at h
    exact ⟨n, rfl, h, by rw [zl_toInt hn, Int.toNat_natCast], zok_lt h hm⟩
  · rw [zs_row_neg hx] at h; cases h
def zgo (S : Nat → Option Nat) (L ls : List Nat) (how : Nat) : Bool := decide ((zrd S L ls).1 = ls.length) && (decide (how = 1) || decide ((zrd S L ls).2.length = 0))
def zfof (S v : Nat → Option Nat) (w : Nat) : Nat → Nat
  | 0 => 0
  | n + 1 => if zbit w (n / 3) = true then (match S n with | none => zfof S v w n | some r => zfof S v w n ||| zfw v (zr r)) else zfof S v w n
theorem zfof_lt {S v : Nat → Option Nat} (hV : zV S) (w : Nat) : ∀ n, n ≤ 18 → zfof S v w n < 64
  | 0, _ => (show 0 < 64 by decide)
  | n + 1, hn => by
    have ih := zfof_lt (v := v) hV w n (by omega)
    rw [zfof]
    by_cases hb : zbit w (n / 3) = true
    · rw [if_pos hb]
      cases hs : S n with
      | none => exact ih
      | some r => exact zor_lt ih (zfw_lt v _ (zr_lt (hV.1 n (by omega) r hs)))
    · rw [if_neg hb]; exact ih
def zred (S : Nat → Option Nat) (L : List Nat) : List Nat := L.flatMap (zfm S)
theorem zred_len {S : Nat → Option Nat} (hV : zV S) {L : List Nat} (h6 : ∀ x ∈ L, x < 6) : (zred S L).length ≤ 243 * L.length := zfl_len (fun x hx => zfm_243 hV (h6 x hx))

theorem inX7_leastWord_X7 : ∀ w ∈ u_ws RX7 TX7 8, w ∈ wsX7_leastWord := by decide +kernel
theorem lkX7_leastWord_28 : Cond.fieldLink RX7 28 RX7 "reader" "LFirstSigns$Reader;" ∈ wsX7_leastWord := by decide +kernel
theorem lkX7_leastWord_35 : Cond.fieldLink RX7 35 RX7 "norms" "LFirstSigns$Norms;" ∈ wsX7_leastWord := by decide +kernel
theorem lkX7_leastWord_12 : Cond.fieldLink RX7 12 RX7 "table" "LFirstSigns$Table;" ∈ wsX7_leastWord := by decide +kernel
theorem inX7_leastWord_X4 : ∀ w ∈ u_ws RX4 TX4 2, w ∈ wsX7_leastWord := by decide +kernel
theorem lkX7_leastWord_95 : Cond.fieldLink RX7 95 RX4 "left" "LFirstSigns$Row;" ∈ wsX7_leastWord := by decide +kernel
theorem clX7_leastWord_203 : Cond.constantLong RX7 203 (10) ∈ wsX7_leastWord := by decide +kernel
set_option maxHeartbeats 4000000 in
set_option maxRecDepth 100000 in
theorem kkX7_leastWord (l : Launch) (G : zz_C) (hJ : zz_J G) (M : zz_M) (S : Nat → Option Nat) (a n : Nat) (hV : zV S) (hS : ztab M 1 S) (hv : znm M (zit S 36)) (hz : zok a 6 9 = true) (hn : znorm (zit S 36) (zr a) = some n) (hn12 : n ≤ 12) : Met l yX7_leastWord wsX7_leastWord ({ frames := 5, cells := 0, slots := 0, locals := 116 } : Room) (zz_P G M [.ref (G.2.2 0), .int (nI a), .int (nI n)]) (zz_Ql G (fun r M1 => zfr [7, 8] M M1 ∧ r = lN (zlw S (zit S 36) n (zr a) 0))) 0 0 (zz_A G) := by
  refine zz_start hJ (by decide) rfl (Nat.le_of_ble_eq_true rfl) ?_
  intro p e s m below meth c E hr hlk
  have hts := E.2.2.2.2.1
  show zz_Z p l e (headSpec wsX7_leastWord ({ frames := 5, cells := 0, slots := 0, locals := 116 } : Room)).room s m ([.ref (G.2.2 0), .int (nI a), .int (nI n)] : List Value).toArray below meth c 0 0 (MQ below (zz_Ql G (fun r M1 => zfr [7, 8] M M1 ∧ r = lN (zlw S (zit S 36) n (zr a) 0))) ([.ref (G.2.2 0), .int (nI a), .int (nI n)] : List Value).toArray s 0 0 (zz_A G)) 7 G (zz_A G) M 0 [(0, .ref (G.2.2 0)), (1, .int (nI a)), (2, .int (nI n))] []
  have ha := zok_lt hz (by decide)
  have hal := zok_len hz
  have hfix := zit_fix hV
  have hbd := zit_bd hV 36
  refine zz_aload_n (pc := 0) E dX7_leastWord_0 rfl ?_
  refine zz_gf (pc := 1) E 0 (by decide) rfl rfl inX7_leastWord_X7 2 (by decide) lkX7_leastWord_28 (fun _ h => h) rfl dX7_leastWord_1 ?_
  refine zz_iload_n (pc := 4) E dX7_leastWord_4 rfl ?_
  refine zz_cvV (pc := 5) E 6 (kkX4_start l G hJ _ _ _ (zok_mono hz (Nat.le_refl 6) (by decide)) (by omega) (by omega)) (cwV 1 hts gX7_leastWord_X4_start rfl rfl rfl (by decide +kernel) ⟨Nat.le_of_ble_eq_true rfl, Nat.le_of_ble_eq_true rfl⟩) (by decide) rfl rfl rfl rfl (Nat.le_of_ble_eq_true rfl) dX7_leastWord_5 (fun M5 q5 => ?_)
  obtain ⟨f5, w5⟩ := q5
  refine zz_lconst (pc := 8) (v := lN 0) E dX7_leastWord_8 rfl ?_
  refine zz_lstore_n (pc := 9) (lv' := [(0, _), (1, _), (2, _), (3, _)]) E dX7_leastWord_9 (by decide) rfl ?_
  refine zz_iconst (pc := 10) (v := nI 0) E dX7_leastWord_10 (by decide) ?_
  refine zz_istore (pc := 11) (lv' := [(0, _), (1, _), (2, _), (3, _), (5, _)]) E dX7_leastWord_11 (by decide) rfl ?_
  have key : ∀ (j i w : Nat) (M2 : zz_M) (L : List Nat), i + j = n → zfr [7, 8] M M2 → zrow M2 7 33 L → (∀ x ∈ L, x < 6) → L.length ≤ 9 + 2 * i → znorm (zit S 36) L = some j → zlw S (zit S 36) n (zr a) 0 = zlw S (zit S 36) j L w → zz_Z p l e (headSpec wsX7_leastWord ({ frames := 5, cells := 0, slots := 0, locals := 116 } : Room)).room s m ([.ref (G.2.2 0), .int (nI a), .int (nI n)] : List Value).toArray below meth c 0 0 (MQ below (zz_Ql G (fun r M1 => zfr [7, 8] M M1 ∧ r = lN (zlw S (zit S 36) n (zr a) 0))) ([.ref (G.2.2 0), .int (nI a), .int (nI n)] : List Value).toArray s 0 0 (zz_A G)) 7 G (zz_A G) M2 13 [(0, .ref (G.2.2 0)), (2, .int (nI n)), (3, .long (lN w)), (5, .int (nI i))] [] := by
    intro j
    induction j with
    | zero =>
      intro i w M2 L hi hf hw h6 hl hnn he
      refine zz_iload (pc := 13) E dX7_leastWord_13 rfl ?_
      refine zz_iload_n (pc := 15) E dX7_leastWord_15 rfl ?_
      refine zn_icmp_ge (pc := 16) (tgt := 75) E dX7_leastWord_16 (by decide) (by omega) (by omega) (fun h16 => ?_) (fun h16 => ?_)
      · refine zz_lload_n (pc := 75) E dX7_leastWord_75 rfl ?_
        exact zz_lret (pc := 76) E hr hlk dX7_leastWord_76 ⟨hf, by rw [he]; rfl⟩
      · exact absurd h16 (by omega)
    | succ j ih =>
      intro i w M2 L hi hf hw h6 hl hnn he
      have hS2 : ztab M2 1 S := ztab_fr hS hf (by decide) (by decide)
      have hv2 : znm M2 (zit S 36) := fun s hs => by rw [hf 12 (by decide)]; exact hv s hs
      obtain ⟨x, t, b, L1, rfl, hb, hb3, hst, hn1⟩ := zlw_step hV hfix h6 hnn
      have hx6 := h6 x List.mem_cons_self
      have hok := zstep_ok hV hb3 h6 hst
      rw [zlw, hb] at he
      have he : _ = zlw S (zit S 36) j ((zstep S (x :: t) b).getD (x :: t)) (w * 10 + b + 1) := he
      rw [hst] at he
      refine zz_iload (pc := 13) E dX7_leastWord_13 rfl ?_
      refine zz_iload_n (pc := 15) E dX7_leastWord_15 rfl ?_
      refine zn_icmp_ge (pc := 16) (tgt := 75) E dX7_leastWord_16 (by decide) (by omega) (by omega) (fun h16 => ?_) (fun h16 => ?_)
      · exact absurd h16 (by omega)
      · refine zz_aload_n (pc := 19) E dX7_leastWord_19 rfl ?_
        refine zz_gf (pc := 20) E 0 (by decide) rfl rfl inX7_leastWord_X7 3 (by decide) lkX7_leastWord_35 (fun _ h => h) rfl dX7_leastWord_20 ?_
        refine zz_aload_n (pc := 23) E dX7_leastWord_23 rfl ?_
        refine zz_gf (pc := 24) E 0 (by decide) rfl rfl inX7_leastWord_X7 0 (by decide) lkX7_leastWord_12 (fun _ h => h) rfl dX7_leastWord_24 ?_
        refine zz_aload_n (pc := 27) E dX7_leastWord_27 rfl ?_
        refine zz_gf (pc := 28) E 0 (by decide) rfl rfl inX7_leastWord_X7 2 (by decide) lkX7_leastWord_28 (fun _ h => h) rfl dX7_leastWord_28 ?_
        refine zz_gf (pc := 31) E 6 (by decide) rfl rfl inX7_leastWord_X4 0 (by decide) lkX7_leastWord_95 (fun _ h => h) rfl dX7_leastWord_31 ?_
        refine zz_iconst (pc := 34) (v := nI 0) E dX7_leastWord_34 (by decide) ?_
        refine zz_ciV (pc := 35) E 7 (kkX5_fromFirst l G hJ _ _ _ zz_R7 0 _ hw (by decide)) (cwV 1 hts gX7_leastWord_X5_fromFirst rfl rfl rfl (by decide +kernel) ⟨Nat.le_of_ble_eq_true rfl, Nat.le_of_ble_eq_true rfl⟩) (by decide) rfl rfl rfl rfl (Nat.le_of_ble_eq_true rfl) dX7_leastWord_35 (fun r35 M35 q35 => ?_)
        obtain ⟨rfl, rfl⟩ := q35
        refine zz_eqi (y := nI x) rfl ?_
        refine zz_ciV (pc := 38) E 11 (kkX2_leastLetter l G hJ _  S (zit S 36) 364 hV hS2 hv2 hbd (by decide) x hx6) (cwV 2 hts gX7_leastWord_X2_leastLetter rfl rfl rfl (by decide +kernel) ⟨Nat.le_of_ble_eq_true rfl, Nat.le_of_ble_eq_true rfl⟩) (by decide) rfl rfl rfl rfl (Nat.le_of_ble_eq_true rfl) dX7_leastWord_38 (fun r38 M38 q38 => ?_)
        obtain ⟨rfl, rfl⟩ := q38
        refine zz_eqi (y := nI b) (by rw [hb]; rfl) ?_
        refine zz_istore (pc := 41) (lv' := [(0, _), (2, _), (3, _), (5, _), (6, _)]) E dX7_leastWord_41 (by decide) rfl ?_
        refine zz_aload_n (pc := 43) E dX7_leastWord_43 rfl ?_
        refine zz_gf (pc := 44) E 0 (by decide) rfl rfl inX7_leastWord_X7 2 (by decide) lkX7_leastWord_28 (fun _ h => h) rfl dX7_leastWord_44 ?_
        refine zz_aload_n (pc := 47) E dX7_leastWord_47 rfl ?_
        refine zz_gf (pc := 48) E 0 (by decide) rfl rfl inX7_leastWord_X7 0 (by decide) lkX7_leastWord_12 (fun _ h => h) rfl dX7_leastWord_48 ?_
        refine zz_iload (pc := 51) E dX7_leastWord_51 rfl ?_
        refine zz_ciV (pc := 53) E 6 (kkX4_step l G hJ _  S _ b hV hS2 hw hb3 h6 (by omega)) (cwV 2 hts gX7_leastWord_X4_step rfl rfl rfl (by decide +kernel) ⟨Nat.le_of_ble_eq_true rfl, Nat.le_of_ble_eq_true rfl⟩) (by decide) rfl rfl rfl rfl (Nat.le_of_ble_eq_true rfl) dX7_leastWord_53 (fun r53 M53 q53 => ?_)
        obtain ⟨f53, rfl, w53⟩ := q53
        refine zz_pop (pc := 56) E dX7_leastWord_56 rfl ?_
        refine zz_lload_n (pc := 57) E dX7_leastWord_57 rfl ?_
        refine zz_ldc2 (pc := 58) (v := lN 10) E clX7_leastWord_203 dX7_leastWord_58 ?_
        refine zn_lmul (pc := 61) E dX7_leastWord_61 ?_
        refine zz_iload (pc := 62) E dX7_leastWord_62 rfl ?_
        refine zn_i2l (pc := 64) E dX7_leastWord_64 (by omega) ?_
        refine zn_ladd (pc := 65) E dX7_leastWord_65 ?_
        refine zz_lconst (pc := 66) (v := lN 1) E dX7_leastWord_66 rfl ?_
        refine zn_ladd (pc := 67) E dX7_leastWord_67 ?_
        refine zz_lstore_n (pc := 68) (lv' := [(0, _), (2, _), (3, _), (5, _), (6, _)]) E dX7_leastWord_68 (by decide) rfl ?_
        refine zn_inc (pc := 69) (lv' := [(0, _), (2, _), (3, _), (5, _), (6, _)]) E dX7_leastWord_69 rfl (by decide) rfl ?_
        refine zz_goto (pc := 72) (tgt := 13) E dX7_leastWord_72 (by decide) ?_
        rw [hst] at w53
        exact zz_to (ih (i + 1) (w * 10 + b + 1) M53 L1 (by omega) (zfr_ct hf f53 (fun _ h => h) (fun _ h => h)) w53 hok.1 (by omega) hn1 he) ⟨rfl, rfl, rfl, rfl, trivial⟩
  exact zz_to (key n 0 0 M5 (zr a) (by omega) f5 w5 (zr_lt hz) (by rw [zr_len]; omega) hn rfl) ⟨rfl, rfl, rfl, rfl, trivial⟩

theorem inX7_goesThrough_X7 : ∀ w ∈ u_ws RX7 TX7 8, w ∈ wsX7_goesThrough := by decide +kernel
theorem lkX7_goesThrough_28 : Cond.fieldLink RX7 28 RX7 "reader" "LFirstSigns$Reader;" ∈ wsX7_goesThrough := by decide +kernel
theorem lkX7_goesThrough_12 : Cond.fieldLink RX7 12 RX7 "table" "LFirstSigns$Table;" ∈ wsX7_goesThrough := by decide +kernel
theorem inX7_goesThrough_X4 : ∀ w ∈ u_ws RX4 TX4 2, w ∈ wsX7_goesThrough := by decide +kernel
theorem lkX7_goesThrough_95 : Cond.fieldLink RX7 95 RX4 "left" "LFirstSigns$Row;" ∈ wsX7_goesThrough := by decide +kernel
set_option maxHeartbeats 4000000 in
set_option maxRecDepth 100000 in
theorem kkX7_goesThrough (l : Launch) (G : zz_C) (hJ : zz_J G) (M : zz_M) (S : Nat → Option Nat) (a d h : Nat) (hV : zV S) (hS : ztab M 1 S) (hz : zok a 6 9 = true) (hd : zok d 3 6 = true) (hh : h ≤ 1) : Met l yX7_goesThrough wsX7_goesThrough ({ frames := 4, cells := 0, slots := 0, locals := 93 } : Room) (zz_P G M [.ref (G.2.2 0), .int (nI a), .int (nI d), .int (nI h)]) (zz_Qi G (fun r M1 => zfr [7, 8, 9, 10] M M1 ∧ r = zz_b (zgo S (zr a) (zr d) h))) 0 0 (zz_A G) := by
  refine zz_start hJ (by decide) rfl (Nat.le_of_ble_eq_true rfl) ?_
  intro p e s m below meth c E hr hlk
  have hts := E.2.2.2.2.1
  show zz_Z p l e (headSpec wsX7_goesThrough ({ frames := 4, cells := 0, slots := 0, locals := 93 } : Room)).room s m ([.ref (G.2.2 0), .int (nI a), .int (nI d), .int (nI h)] : List Value).toArray below meth c 0 0 (MQ below (zz_Qi G (fun r M1 => zfr [7, 8, 9, 10] M M1 ∧ r = zz_b (zgo S (zr a) (zr d) h))) ([.ref (G.2.2 0), .int (nI a), .int (nI d), .int (nI h)] : List Value).toArray s 0 0 (zz_A G)) 4 G (zz_A G) M 0 [(0, .ref (G.2.2 0)), (1, .int (nI a)), (2, .int (nI d)), (3, .int (nI h))] []
  have hd1 := zok_lt hd (by decide)
  have hle := zrd_le S (zr d) (zr a)
  refine zz_aload_n (pc := 0) E dX7_goesThrough_0 rfl ?_
  refine zz_gf (pc := 1) E 0 (by decide) rfl rfl inX7_goesThrough_X7 2 (by decide) lkX7_goesThrough_28 (fun _ h => h) rfl dX7_goesThrough_1 ?_
  refine zz_aload_n (pc := 4) E dX7_goesThrough_4 rfl ?_
  refine zz_gf (pc := 5) E 0 (by decide) rfl rfl inX7_goesThrough_X7 0 (by decide) lkX7_goesThrough_12 (fun _ h => h) rfl dX7_goesThrough_5 ?_
  refine zz_iload_n (pc := 8) E dX7_goesThrough_8 rfl ?_
  refine zz_iload_n (pc := 9) E dX7_goesThrough_9 rfl ?_
  refine zn_i2l (pc := 10) E dX7_goesThrough_10 (by omega) ?_
  refine zz_ciV (pc := 11) E 6 (kkX4_countRead l G hJ _  S a d hV hS hz (zok_mono hd (Nat.le_refl 3) (by decide))) (cwV 3 hts gX7_goesThrough_X4_countRead rfl rfl rfl (by decide +kernel) ⟨Nat.le_of_ble_eq_true rfl, Nat.le_of_ble_eq_true rfl⟩) (by decide) rfl rfl rfl rfl (Nat.le_of_ble_eq_true rfl) dX7_goesThrough_11 (fun r11 M11 q11 => ?_)
  obtain ⟨f11, rfl, w11, v11⟩ := q11
  refine zz_pop (pc := 14) E dX7_goesThrough_14 rfl ?_
  refine zz_aload_n (pc := 15) E dX7_goesThrough_15 rfl ?_
  refine zz_gf (pc := 16) E 0 (by decide) rfl rfl inX7_goesThrough_X7 2 (by decide) lkX7_goesThrough_28 (fun _ h => h) rfl dX7_goesThrough_16 ?_
  refine zz_ciV (pc := 19) E 6 (kkX4_readsToEnd l G hJ _  _ v11) (cwV 0 hts gX7_goesThrough_X4_readsToEnd rfl rfl rfl (by decide +kernel) ⟨Nat.le_of_ble_eq_true rfl, Nat.le_of_ble_eq_true rfl⟩) (by decide) rfl rfl rfl rfl (Nat.le_of_ble_eq_true rfl) dX7_goesThrough_19 (fun r19 M19 q19 => ?_)
  obtain ⟨rfl, rfl⟩ := q19
  refine zb_if_eq (pc := 22) (tgt := 47) E dX7_goesThrough_22 (by decide) (fun h22 => ?_) (fun h22 => ?_)
  · rw [decide_eq_false_iff_not, List.length_drop] at h22
    have hg : zgo S (zr a) (zr d) h = false := by
      unfold zgo
      rw [decide_eq_false (by omega)]
      rfl
    refine zz_iconst (pc := 47) (v := nI 0) E dX7_goesThrough_47 (by decide) ?_
    exact zz_zret (pc := 48) E hr hlk dX7_goesThrough_48 (by decide) ⟨f11, by rw [hg]; rfl⟩
  · rw [decide_eq_true_iff, List.length_drop] at h22
    have hg0 : (zrd S (zr a) (zr d)).1 = (zr d).length := by omega
    have hw2 := w11.2.1
    refine zz_iload_n (pc := 25) E dX7_goesThrough_25 rfl ?_
    refine zz_iconst (pc := 26) (v := nI 1) E dX7_goesThrough_26 (by decide) ?_
    refine zn_icmp_eq (pc := 27) (tgt := 43) E dX7_goesThrough_27 (by decide) (by omega) (by omega) (fun h27 => ?_) (fun h27 => ?_)
    · have hg : zgo S (zr a) (zr d) h = true := by
        unfold zgo
        rw [decide_eq_true hg0, decide_eq_true h27]
        rfl
      refine zz_iconst (pc := 43) (v := nI 1) E dX7_goesThrough_43 (by decide) ?_
      refine zz_goto (pc := 44) (tgt := 48) E dX7_goesThrough_44 (by decide) ?_
      exact zz_zret (pc := 48) E hr hlk dX7_goesThrough_48 (by decide) ⟨f11, by rw [hg]; rfl⟩
    · refine zz_aload_n (pc := 30) E dX7_goesThrough_30 rfl ?_
      refine zz_gf (pc := 31) E 0 (by decide) rfl rfl inX7_goesThrough_X7 2 (by decide) lkX7_goesThrough_28 (fun _ h => h) rfl dX7_goesThrough_31 ?_
      refine zz_gf (pc := 34) E 6 (by decide) rfl rfl inX7_goesThrough_X4 0 (by decide) lkX7_goesThrough_95 (fun _ h => h) rfl dX7_goesThrough_34 ?_
      refine zz_ciV (pc := 37) E 7 (kkX5_size l G hJ _ _ _ zz_R7) (cwV 0 hts gX7_goesThrough_X5_size rfl rfl rfl (by decide +kernel) ⟨Nat.le_of_ble_eq_true rfl, Nat.le_of_ble_eq_true rfl⟩) (by decide) rfl rfl rfl rfl (Nat.le_of_ble_eq_true rfl) dX7_goesThrough_37 (fun r37 M37 q37 => ?_)
      obtain ⟨rfl, rfl⟩ := q37
      refine zz_eqi (y := nI (zrd S (zr a) (zr d)).2.length) w11.1 ?_
      refine zn_if_ne (pc := 40) (tgt := 47) E dX7_goesThrough_40 (by decide) (by omega) (fun h40 => ?_) (fun h40 => ?_)
      · have hg : zgo S (zr a) (zr d) h = false := by
          unfold zgo
          rw [decide_eq_false h40, decide_eq_false h27, Bool.or_false, Bool.and_false]
        refine zz_iconst (pc := 47) (v := nI 0) E dX7_goesThrough_47 (by decide) ?_
        exact zz_zret (pc := 48) E hr hlk dX7_goesThrough_48 (by decide) ⟨f11, by rw [hg]; rfl⟩
      · have hg : zgo S (zr a) (zr d) h = true := by
          unfold zgo
          rw [decide_eq_true hg0, decide_eq_true h40, Bool.or_true]
          rfl
        refine zz_iconst (pc := 43) (v := nI 1) E dX7_goesThrough_43 (by decide) ?_
        refine zz_goto (pc := 44) (tgt := 48) E dX7_goesThrough_44 (by decide) ?_
        exact zz_zret (pc := 48) E hr hlk dX7_goesThrough_48 (by decide) ⟨f11, by rw [hg]; rfl⟩

set_option maxHeartbeats 4000000 in
set_option maxRecDepth 100000 in
theorem kkX2_firstsNone (l : Launch) (G : zz_C) (hJ : zz_J G) (M : zz_M)  : Met l yX2_firstsWithin wsX2_firstsWithin ({ frames := 0, cells := 0, slots := 0, locals := 0 } : Room) (zz_P G M [.ref (G.2.2 11), .int (-9)]) (zz_Qi G (fun r M1 => M = M1 ∧ r = nI 0)) 0 0 (zz_A G) := by
  refine zz_start hJ (by decide) rfl (Nat.le_of_ble_eq_true rfl) ?_
  intro p e s m below meth c E hr hlk
  have hts := E.2.2.2.2.1
  show zz_Z p l e (headSpec wsX2_firstsWithin ({ frames := 0, cells := 0, slots := 0, locals := 0 } : Room)).room s m ([.ref (G.2.2 11), .int (-9)] : List Value).toArray below meth c 0 0 (MQ below (zz_Qi G (fun r M1 => M = M1 ∧ r = nI 0)) ([.ref (G.2.2 11), .int (-9)] : List Value).toArray s 0 0 (zz_A G)) 5 G (zz_A G) M 0 [(0, .ref (G.2.2 11)), (1, .int (-9))] []
  refine zz_iconst (pc := 0) (v := nI 0) E dX2_firstsWithin_0 (by decide) ?_
  refine zz_istore_n (pc := 1) (lv' := [(0, _), (1, _), (2, _)]) E dX2_firstsWithin_1 (by decide) rfl ?_
  refine zz_iload_n (pc := 2) E dX2_firstsWithin_2 rfl ?_
  refine zz_istore_n (pc := 3) (lv' := [(0, _), (1, _), (2, _), (3, _)]) E dX2_firstsWithin_3 (by decide) rfl ?_
  refine zz_iload_n (pc := 4) E dX2_firstsWithin_4 rfl ?_
  refine zz_if_le (pc := 5) (tgt := 49) E dX2_firstsWithin_5 (by decide) (fun h5 => ?_) (fun h5 => ?_)
  · refine zz_iload_n (pc := 49) E dX2_firstsWithin_49 rfl ?_
    exact zz_iret (pc := 50) E hr hlk dX2_firstsWithin_50 ⟨rfl, rfl⟩
  · exact absurd (by decide) h5

theorem inX7_firstsOfRules_X7 : ∀ w ∈ u_ws RX7 TX7 8, w ∈ wsX7_firstsOfRules := by decide +kernel
theorem lkX7_firstsOfRules_35 : Cond.fieldLink RX7 35 RX7 "norms" "LFirstSigns$Norms;" ∈ wsX7_firstsOfRules := by decide +kernel
theorem lkX7_firstsOfRules_12 : Cond.fieldLink RX7 12 RX7 "table" "LFirstSigns$Table;" ∈ wsX7_firstsOfRules := by decide +kernel
set_option maxHeartbeats 4000000 in
set_option maxRecDepth 100000 in
theorem kkX7_firstsOfRules (l : Launch) (G : zz_C) (hJ : zz_J G) (M : zz_M) (S : Nat → Option Nat) (w : Nat) (hV : zV S) (hS : ztab M 1 S) (hv : znm M (zit S 36)) (hw : w < 64) : Met l yX7_firstsOfRules wsX7_firstsOfRules ({ frames := 3, cells := 0, slots := 0, locals := 65 } : Room) (zz_P G M [.ref (G.2.2 0), .int (nI w)]) (zz_Qi G (fun r M1 => M = M1 ∧ r = nI (zfof S (zit S 36) w 18))) 0 0 (zz_A G) := by
  refine zz_start hJ (by decide) rfl (Nat.le_of_ble_eq_true rfl) ?_
  intro p e s m below meth c E hr hlk
  have hts := E.2.2.2.2.1
  show zz_Z p l e (headSpec wsX7_firstsOfRules ({ frames := 3, cells := 0, slots := 0, locals := 65 } : Room)).room s m ([.ref (G.2.2 0), .int (nI w)] : List Value).toArray below meth c 0 0 (MQ below (zz_Qi G (fun r M1 => M = M1 ∧ r = nI (zfof S (zit S 36) w 18))) ([.ref (G.2.2 0), .int (nI w)] : List Value).toArray s 0 0 (zz_A G)) 5 G (zz_A G) M 0 [(0, .ref (G.2.2 0)), (1, .int (nI w))] []
  have hbd := zit_bd hV 36
  refine zz_iconst (pc := 0) (v := nI 0) E dX7_firstsOfRules_0 (by decide) ?_
  refine zz_istore_n (pc := 1) (lv' := [(0, _), (1, _), (2, _)]) E dX7_firstsOfRules_1 (by decide) rfl ?_
  refine zz_iconst (pc := 2) (v := nI 0) E dX7_firstsOfRules_2 (by decide) ?_
  refine zz_istore_n (pc := 3) (lv' := [(0, _), (1, _), (2, _), (3, _)]) E dX7_firstsOfRules_3 (by decide) rfl ?_
  have key : ∀ (j i : Nat), i + j = 6 → zz_Z p l e (headSpec wsX7_firstsOfRules ({ frames := 3, cells := 0, slots := 0, locals := 65 } : Room)).room s m ([.ref (G.2.2 0), .int (nI w)] : List Value).toArray below meth c 0 0 (MQ below (zz_Qi G (fun r M1 => M = M1 ∧ r = nI (zfof S (zit S 36) w 18))) ([.ref (G.2.2 0), .int (nI w)] : List Value).toArray s 0 0 (zz_A G)) 5 G (zz_A G) M 4 [(0, .ref (G.2.2 0)), (1, .int (nI w)), (2, .int (nI (zfof S (zit S 36) w (3 * i)))), (3, .int (nI i))] [] := by
    intro j
    induction j with
    | zero =>
      intro i hi
      refine zz_iload_n (pc := 4) E dX7_firstsOfRules_4 rfl ?_
      refine zz_bipush (pc := 5) (v := nI 6) E dX7_firstsOfRules_5 (by decide) ?_
      refine zn_icmp_ge (pc := 7) (tgt := 60) E dX7_firstsOfRules_7 (by decide) (by omega) (by omega) (fun h7 => ?_) (fun h7 => ?_)
      · refine zz_iload_n (pc := 60) E dX7_firstsOfRules_60 rfl ?_
        exact zz_iret (pc := 61) E hr hlk dX7_firstsOfRules_61 ⟨rfl, by rw [show 3 * i = 18 by omega]⟩
      · exact absurd h7 (by omega)
    | succ j ih =>
      intro i hi
      refine zz_iload_n (pc := 4) E dX7_firstsOfRules_4 rfl ?_
      refine zz_bipush (pc := 5) (v := nI 6) E dX7_firstsOfRules_5 (by decide) ?_
      refine zn_icmp_ge (pc := 7) (tgt := 60) E dX7_firstsOfRules_7 (by decide) (by omega) (by omega) (fun h7 => ?_) (fun h7 => ?_)
      · exact absurd h7 (by omega)
      · refine zz_iconst (pc := 10) (v := nI 0) E dX7_firstsOfRules_10 (by decide) ?_
        refine zz_istore (pc := 11) (lv' := [(0, _), (1, _), (2, _), (3, _), (4, _)]) E dX7_firstsOfRules_11 (by decide) rfl ?_
        have key2 : ∀ (j2 i2 : Nat), i2 + j2 = 3 → zz_Z p l e (headSpec wsX7_firstsOfRules ({ frames := 3, cells := 0, slots := 0, locals := 65 } : Room)).room s m ([.ref (G.2.2 0), .int (nI w)] : List Value).toArray below meth c 0 0 (MQ below (zz_Qi G (fun r M1 => M = M1 ∧ r = nI (zfof S (zit S 36) w 18))) ([.ref (G.2.2 0), .int (nI w)] : List Value).toArray s 0 0 (zz_A G)) 5 G (zz_A G) M 13 [(0, .ref (G.2.2 0)), (1, .int (nI w)), (2, .int (nI (zfof S (zit S 36) w (3 * i + i2)))), (3, .int (nI i)), (4, .int (nI i2))] [] := by
          intro j2
          induction j2 with
          | zero =>
            intro i2 hi2
            refine zz_iload (pc := 13) E dX7_firstsOfRules_13 rfl ?_
            refine zz_iconst (pc := 15) (v := nI 3) E dX7_firstsOfRules_15 (by decide) ?_
            refine zn_icmp_ge (pc := 16) (tgt := 54) E dX7_firstsOfRules_16 (by decide) (by omega) (by omega) (fun h16 => ?_) (fun h16 => ?_)
            · refine zn_inc (pc := 54) (lv' := [(0, _), (1, _), (2, _), (3, _), (4, _)]) E dX7_firstsOfRules_54 rfl (by decide) rfl ?_
              refine zz_goto (pc := 57) (tgt := 4) E dX7_firstsOfRules_57 (by decide) ?_
              exact zz_to (ih (i + 1) (by omega)) ⟨rfl, rfl, by rw [show 3 * (i + 1) = 3 * i + i2 by omega]; rfl, rfl, trivial⟩
            · exact absurd h16 (by omega)
          | succ j2 ih2 =>
            intro i2 hi2
            have he : zfof S (zit S 36) w (3 * i + (i2 + 1)) = if zbit w i = true then (match S (3 * i + i2) with | none => zfof S (zit S 36) w (3 * i + i2) | some r => zfof S (zit S 36) w (3 * i + i2) ||| zfw (zit S 36) (zr r)) else zfof S (zit S 36) w (3 * i + i2) := by
              rw [show 3 * i + (i2 + 1) = (3 * i + i2) + 1 by omega, zfof, show (3 * i + i2) / 3 = i by omega]
            have hr2 : zrl M 1 (nI i) (nI i2) = zo (S (3 * i + i2)) := by rw [zrl_nI (by omega) (by omega)]; exact hS.1 _ (by omega)
            refine zz_iload (pc := 13) E dX7_firstsOfRules_13 rfl ?_
            refine zz_iconst (pc := 15) (v := nI 3) E dX7_firstsOfRules_15 (by decide) ?_
            refine zn_icmp_ge (pc := 16) (tgt := 54) E dX7_firstsOfRules_16 (by decide) (by omega) (by omega) (fun h16 => ?_) (fun h16 => ?_)
            · exact absurd h16 (by omega)
            · refine zz_iload_n (pc := 19) E dX7_firstsOfRules_19 rfl ?_
              refine zz_iload_n (pc := 20) E dX7_firstsOfRules_20 rfl ?_
              refine zz_ishr (pc := 21) E dX7_firstsOfRules_21 ?_
              refine zz_iconst (pc := 22) (v := nI 1) E dX7_firstsOfRules_22 (by decide) ?_
              refine zz_iand (pc := 23) E dX7_firstsOfRules_23 ?_
              refine zz_iconst (pc := 24) (v := nI 1) E dX7_firstsOfRules_24 (by decide) ?_
              refine zz_icmp_ne (pc := 25) (tgt := 48) E dX7_firstsOfRules_25 (by decide) (fun h25 => ?_) (fun h25 => ?_)
              · rw [if_neg (fun q => h25 ((zbit_ok w hw i (by omega)).mpr q))] at he
                refine zn_inc (pc := 48) (lv' := [(0, _), (1, _), (2, _), (3, _), (4, _)]) E dX7_firstsOfRules_48 rfl (by decide) rfl ?_
                refine zz_goto (pc := 51) (tgt := 13) E dX7_firstsOfRules_51 (by decide) ?_
                exact zz_to (ih2 (i2 + 1) (by omega)) ⟨rfl, rfl, by rw [he]; rfl, rfl, rfl, trivial⟩
              · rw [if_pos ((zbit_ok w hw i (by omega)).mp h25)] at he
                refine zz_iload_n (pc := 28) E dX7_firstsOfRules_28 rfl ?_
                refine zz_aload_n (pc := 29) E dX7_firstsOfRules_29 rfl ?_
                refine zz_gf (pc := 30) E 0 (by decide) rfl rfl inX7_firstsOfRules_X7 3 (by decide) lkX7_firstsOfRules_35 (fun _ h => h) rfl dX7_firstsOfRules_30 ?_
                refine zz_aload_n (pc := 33) E dX7_firstsOfRules_33 rfl ?_
                refine zz_gf (pc := 34) E 0 (by decide) rfl rfl inX7_firstsOfRules_X7 0 (by decide) lkX7_firstsOfRules_12 (fun _ h => h) rfl dX7_firstsOfRules_34 ?_
                refine zz_iload_n (pc := 37) E dX7_firstsOfRules_37 rfl ?_
                refine zz_iload (pc := 38) E dX7_firstsOfRules_38 rfl ?_
                refine zz_ciV (pc := 40) E 1 (kkX6_ruleOf l G hJ _ _ zz_T1 _ _) (cwV 2 hts gX7_firstsOfRules_X6_ruleOf rfl rfl rfl (by decide +kernel) ⟨Nat.le_of_ble_eq_true rfl, Nat.le_of_ble_eq_true rfl⟩) (by decide) rfl rfl rfl rfl (Nat.le_of_ble_eq_true rfl) dX7_firstsOfRules_40 (fun r40 M40 q40 => ?_)
                obtain ⟨rfl, rfl⟩ := q40
                refine zz_eqi (y := zo (S (3 * i + i2))) hr2 ?_
                cases hq : S (3 * i + i2) with
                | none =>
                  rw [hq] at he
                  show zz_Z p l e (headSpec wsX7_firstsOfRules ({ frames := 3, cells := 0, slots := 0, locals := 65 } : Room)).room s m ([.ref (G.2.2 0), .int (nI w)] : List Value).toArray below meth c 0 0 (MQ below (zz_Qi G (fun r M1 => M = M1 ∧ r = nI (zfof S (zit S 36) w 18))) ([.ref (G.2.2 0), .int (nI w)] : List Value).toArray s 0 0 (zz_A G)) 5 G (zz_A G) M 43 [(0, .ref (G.2.2 0)), (1, .int (nI w)), (2, .int (nI (zfof S (zit S 36) w (3 * i + i2)))), (3, .int (nI i)), (4, .int (nI i2))] [.int (-9), .ref (G.2.2 11), .int (nI (zfof S (zit S 36) w (3 * i + i2)))]
                  refine zz_ciV (pc := 43) E 11 (kkX2_firstsNone l G hJ _) (cwV 1 hts gX7_firstsOfRules_X2_firstsWithin rfl rfl rfl (by decide +kernel) ⟨Nat.le_of_ble_eq_true rfl, Nat.le_of_ble_eq_true rfl⟩) (by decide) rfl rfl rfl rfl (Nat.le_of_ble_eq_true rfl) dX7_firstsOfRules_43 (fun r43 M43 q43 => ?_)
                  obtain ⟨rfl, rfl⟩ := q43
                  refine zz_ior (pc := 46) E dX7_firstsOfRules_46 ?_
                  refine zz_eqi (y := nI (zfof S (zit S 36) w (3 * i + i2) ||| 0)) (zor_ok _ (zfof_lt hV w _ (by omega)) _ (by decide)) ?_
                  refine zz_istore_n (pc := 47) (lv' := [(0, _), (1, _), (2, _), (3, _), (4, _)]) E dX7_firstsOfRules_47 (by decide) rfl ?_
                  refine zn_inc (pc := 48) (lv' := [(0, _), (1, _), (2, _), (3, _), (4, _)]) E dX7_firstsOfRules_48 rfl (by decide) rfl ?_
                  refine zz_goto (pc := 51) (tgt := 13) E dX7_firstsOfRules_51 (by decide) ?_
                  exact zz_to (ih2 (i2 + 1) (by omega)) ⟨rfl, rfl, by rw [he, Nat.or_zero]; rfl, rfl, rfl, trivial⟩
                | some q =>
                  rw [hq] at he
                  have hzq := hV.1 _ (by omega) q hq
                  show zz_Z p l e (headSpec wsX7_firstsOfRules ({ frames := 3, cells := 0, slots := 0, locals := 65 } : Room)).room s m ([.ref (G.2.2 0), .int (nI w)] : List Value).toArray below meth c 0 0 (MQ below (zz_Qi G (fun r M1 => M = M1 ∧ r = nI (zfof S (zit S 36) w 18))) ([.ref (G.2.2 0), .int (nI w)] : List Value).toArray s 0 0 (zz_A G)) 5 G (zz_A G) M 43 [(0, .ref (G.2.2 0)), (1, .int (nI w)), (2, .int (nI (zfof S (zit S 36) w (3 * i + i2)))), (3, .int (nI i)), (4, .int (nI i2))] [.int (nI q), .ref (G.2.2 11), .int (nI (zfof S (zit S 36) w (3 * i + i2)))]
                  refine zz_ciV (pc := 43) E 11 (kkX2_firstsWithin l G hJ _  (zit S 36) q 3 364 hv hbd (by decide) hzq (by decide)) (cwV 1 hts gX7_firstsOfRules_X2_firstsWithin rfl rfl rfl (by decide +kernel) ⟨Nat.le_of_ble_eq_true rfl, Nat.le_of_ble_eq_true rfl⟩) (by decide) rfl rfl rfl rfl (Nat.le_of_ble_eq_true rfl) dX7_firstsOfRules_43 (fun r43 M43 q43 => ?_)
                  obtain ⟨rfl, rfl⟩ := q43
                  refine zz_ior (pc := 46) E dX7_firstsOfRules_46 ?_
                  refine zz_eqi (y := nI (zfof S (zit S 36) w (3 * i + i2) ||| zfw (zit S 36) (zr q))) (zor_ok _ (zfof_lt hV w _ (by omega)) _ (zfw_lt _ _ (zr_lt hzq))) ?_
                  refine zz_istore_n (pc := 47) (lv' := [(0, _), (1, _), (2, _), (3, _), (4, _)]) E dX7_firstsOfRules_47 (by decide) rfl ?_
                  refine zn_inc (pc := 48) (lv' := [(0, _), (1, _), (2, _), (3, _), (4, _)]) E dX7_firstsOfRules_48 rfl (by decide) rfl ?_
                  refine zz_goto (pc := 51) (tgt := 13) E dX7_firstsOfRules_51 (by decide) ?_
                  exact zz_to (ih2 (i2 + 1) (by omega)) ⟨rfl, rfl, by rw [he]; rfl, rfl, rfl, trivial⟩
        exact zz_to (key2 3 0 (by omega)) ⟨rfl, rfl, rfl, rfl, rfl, trivial⟩
  exact zz_to (key 6 0 (by omega)) ⟨rfl, rfl, rfl, rfl, trivial⟩

abbrev zKR : List Nat := [24, 25, 26, 27, 28, 29, 30, 31, 32, 33, 34, 35, 36, 37, 38, 39]

theorem inX7_reduceBoth_X7 : ∀ w ∈ u_ws RX7 TX7 8, w ∈ wsX7_reduceBoth := by decide +kernel
theorem lkX7_reduceBoth_49 : Cond.fieldLink RX7 49 RX7 "forms" "LFirstSigns$Forms;" ∈ wsX7_reduceBoth := by decide +kernel
theorem lkX7_reduceBoth_12 : Cond.fieldLink RX7 12 RX7 "table" "LFirstSigns$Table;" ∈ wsX7_reduceBoth := by decide +kernel
theorem lkX7_reduceBoth_58 : Cond.fieldLink RX7 58 RX7 "one" "LFirstSigns$Row;" ∈ wsX7_reduceBoth := by decide +kernel
theorem lkX7_reduceBoth_62 : Cond.fieldLink RX7 62 RX7 "two" "LFirstSigns$Row;" ∈ wsX7_reduceBoth := by decide +kernel
set_option maxHeartbeats 4000000 in
set_option maxRecDepth 100000 in
theorem kkX7_reduceBoth (l : Launch) (G : zz_C) (hJ : zz_J G) (M : zz_M) (S : Nat → Option Nat) (a b : Nat) (hV : zV S) (hS : ztab M 1 S) (ha : zok a 6 9 = true) (hb : zok b 6 9 = true) : Met l yX7_reduceBoth wsX7_reduceBoth ({ frames := 4, cells := 0, slots := 0, locals := 129 } : Room) (zz_P G M [.ref (G.2.2 0), .int (nI a), .int (nI b)]) (zz_Qv G (fun M1 => zfr zKR M M1 ∧ zrow M1 36 2187 (zred S (zr a)) ∧ zrow M1 38 2187 (zred S (zr b)))) 0 0 (zz_A G) := by
  refine zz_start hJ (by decide) rfl (Nat.le_of_ble_eq_true rfl) ?_
  intro p e s m below meth c E hr hlk
  have hts := E.2.2.2.2.1
  show zz_Z p l e (headSpec wsX7_reduceBoth ({ frames := 4, cells := 0, slots := 0, locals := 129 } : Room)).room s m ([.ref (G.2.2 0), .int (nI a), .int (nI b)] : List Value).toArray below meth c 0 0 (MQ below (zz_Qv G (fun M1 => zfr zKR M M1 ∧ zrow M1 36 2187 (zred S (zr a)) ∧ zrow M1 38 2187 (zred S (zr b)))) ([.ref (G.2.2 0), .int (nI a), .int (nI b)] : List Value).toArray s 0 0 (zz_A G)) 3 G (zz_A G) M 0 [(0, .ref (G.2.2 0)), (1, .int (nI a)), (2, .int (nI b))] []
  have hla := zred_len hV (zr_lt ha)
  have hlb := zred_len hV (zr_lt hb)
  rw [zr_len] at hla hlb
  have hna := zok_len ha
  have hnb := zok_len hb
  refine zz_aload_n (pc := 0) E dX7_reduceBoth_0 rfl ?_
  refine zz_gf (pc := 1) E 0 (by decide) rfl rfl inX7_reduceBoth_X7 5 (by decide) lkX7_reduceBoth_49 (fun _ h => h) rfl dX7_reduceBoth_1 ?_
  refine zz_aload_n (pc := 4) E dX7_reduceBoth_4 rfl ?_
  refine zz_gf (pc := 5) E 0 (by decide) rfl rfl inX7_reduceBoth_X7 0 (by decide) lkX7_reduceBoth_12 (fun _ h => h) rfl dX7_reduceBoth_5 ?_
  refine zz_cvV (pc := 8) E 22 (kkX1_find l G hJ _  S hV hS) (cwV 1 hts gX7_reduceBoth_X1_find rfl rfl rfl (by decide +kernel) ⟨Nat.le_of_ble_eq_true rfl, Nat.le_of_ble_eq_true rfl⟩) (by decide) rfl rfl rfl rfl (Nat.le_of_ble_eq_true rfl) dX7_reduceBoth_8 (fun M8 q8 => ?_)
  obtain ⟨f8, w8⟩ := q8
  refine zz_aload_n (pc := 11) E dX7_reduceBoth_11 rfl ?_
  refine zz_gf (pc := 12) E 0 (by decide) rfl rfl inX7_reduceBoth_X7 6 (by decide) lkX7_reduceBoth_58 (fun _ h => h) rfl dX7_reduceBoth_12 ?_
  refine zz_cvV (pc := 15) E 36 (kkX5_clear l G hJ _ _ _ zz_R36) (cwV 0 hts gX7_reduceBoth_X5_clear rfl rfl rfl (by decide +kernel) ⟨Nat.le_of_ble_eq_true rfl, Nat.le_of_ble_eq_true rfl⟩) (by decide) rfl rfl rfl rfl (Nat.le_of_ble_eq_true rfl) dX7_reduceBoth_15 (fun M15 q15 => ?_)
  obtain ⟨f15, w15⟩ := q15
  refine zz_aload_n (pc := 18) E dX7_reduceBoth_18 rfl ?_
  refine zz_gf (pc := 19) E 0 (by decide) rfl rfl inX7_reduceBoth_X7 5 (by decide) lkX7_reduceBoth_49 (fun _ h => h) rfl dX7_reduceBoth_19 ?_
  refine zz_aload_n (pc := 22) E dX7_reduceBoth_22 rfl ?_
  refine zz_gf (pc := 23) E 0 (by decide) rfl rfl inX7_reduceBoth_X7 6 (by decide) lkX7_reduceBoth_58 (fun _ h => h) rfl dX7_reduceBoth_23 ?_
  refine zz_iload_n (pc := 26) E dX7_reduceBoth_26 rfl ?_
  refine zz_cvV (pc := 27) E 22 (kkX1_putAhead l G hJ _  36 2187 zz_R36 (zfm S) a 9 [] ha (by decide) w15 (fun x hx => zrow_fr (w8 x (zr_lt ha x hx)) f15 (by have := zr_lt ha x hx; simp; omega) (by have := zr_lt ha x hx; simp; omega)) (fun x hx => by have := zr_lt ha x hx; omega) (by show (zred S (zr a)).length + 0 ≤ 2187; omega)) (cwV 2 hts gX7_reduceBoth_X1_putAhead rfl rfl rfl (by decide +kernel) ⟨Nat.le_of_ble_eq_true rfl, Nat.le_of_ble_eq_true rfl⟩) (by decide) rfl rfl rfl rfl (Nat.le_of_ble_eq_true rfl) dX7_reduceBoth_27 (fun M27 q27 => ?_)
  obtain ⟨f27, w27⟩ := q27
  refine zz_aload_n (pc := 30) E dX7_reduceBoth_30 rfl ?_
  refine zz_gf (pc := 31) E 0 (by decide) rfl rfl inX7_reduceBoth_X7 7 (by decide) lkX7_reduceBoth_62 (fun _ h => h) rfl dX7_reduceBoth_31 ?_
  refine zz_cvV (pc := 34) E 38 (kkX5_clear l G hJ _ _ _ zz_R38) (cwV 0 hts gX7_reduceBoth_X5_clear rfl rfl rfl (by decide +kernel) ⟨Nat.le_of_ble_eq_true rfl, Nat.le_of_ble_eq_true rfl⟩) (by decide) rfl rfl rfl rfl (Nat.le_of_ble_eq_true rfl) dX7_reduceBoth_34 (fun M34 q34 => ?_)
  obtain ⟨f34, w34⟩ := q34
  refine zz_aload_n (pc := 37) E dX7_reduceBoth_37 rfl ?_
  refine zz_gf (pc := 38) E 0 (by decide) rfl rfl inX7_reduceBoth_X7 5 (by decide) lkX7_reduceBoth_49 (fun _ h => h) rfl dX7_reduceBoth_38 ?_
  refine zz_aload_n (pc := 41) E dX7_reduceBoth_41 rfl ?_
  refine zz_gf (pc := 42) E 0 (by decide) rfl rfl inX7_reduceBoth_X7 7 (by decide) lkX7_reduceBoth_62 (fun _ h => h) rfl dX7_reduceBoth_42 ?_
  refine zz_iload_n (pc := 45) E dX7_reduceBoth_45 rfl ?_
  refine zz_cvV (pc := 46) E 22 (kkX1_putAhead l G hJ _  38 2187 zz_R38 (zfm S) b 9 [] hb (by decide) w34 (fun x hx => zrow_fr (zrow_fr (zrow_fr (w8 x (zr_lt hb x hx)) f15 (by have := zr_lt hb x hx; simp; omega) (by have := zr_lt hb x hx; simp; omega)) f27 (by have := zr_lt hb x hx; simp; omega) (by have := zr_lt hb x hx; simp; omega)) f34 (by have := zr_lt hb x hx; simp; omega) (by have := zr_lt hb x hx; simp; omega)) (fun x hx => by have := zr_lt hb x hx; omega) (by show (zred S (zr b)).length + 0 ≤ 2187; omega)) (cwV 2 hts gX7_reduceBoth_X1_putAhead rfl rfl rfl (by decide +kernel) ⟨Nat.le_of_ble_eq_true rfl, Nat.le_of_ble_eq_true rfl⟩) (by decide) rfl rfl rfl rfl (Nat.le_of_ble_eq_true rfl) dX7_reduceBoth_46 (fun M46 q46 => ?_)
  obtain ⟨f46, w46⟩ := q46
  exact zz_vret (pc := 49) E hr hlk dX7_reduceBoth_49 ⟨zfr_ct (zfr_ct (zfr_ct (zfr_ct f8 f15 (ks := zKR) (by simp) (by simp)) f27 (ks := zKR) (fun _ h => h) (by simp)) f34 (ks := zKR) (fun _ h => h) (by simp)) f46 (fun _ h => h) (by simp), by rw [List.append_nil] at w27; exact zrow_fr (zrow_fr w27 f34 (by decide) (by decide)) f46 (by decide) (by decide), by rw [List.append_nil] at w46; exact w46⟩
