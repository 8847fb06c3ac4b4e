/-! all that is broken goes, till none is -/
theorem zbit_or : ∀ w, w < 64 → ∀ n, n < 6 → ∀ s, s < 6 → zbit (w ||| 2 ^ n) s = (zbit w s || decide (s = n)) := by decide +kernel
theorem zbit_0 : ∀ s, s < 6 → zbit 0 s = false := by decide
theorem zbit_ex : ∀ w, w < 64 → w ≠ 0 → ∃ s, s < 6 ∧ zbit w s = true := by decide +kernel
theorem zbsf_bit (S : Nat → Option Nat) {s : Nat} (hs : s < 6) : ∀ n, n ≤ 6 → zbit (zbsf S n) s = (decide (s < n) && (zbb S s).isSome)
  | 0, _ => by rw [zbsf, zbit_0 s hs]; simp
  | n + 1, hn => by
    have ih := zbsf_bit S hs n (by omega)
    rw [zbsf]
    cases hb : zbb S n with
    | none =>
      show zbit (zbsf S n) s = _
      rw [ih]
      by_cases e : s = n
      · subst e; rw [hb]; simp
      · rw [show decide (s < n) = decide (s < n + 1) from decide_eq_decide.mpr (by omega)]
    | some q =>
      show zbit (zbsf S n ||| 2 ^ n) s = _
      rw [zbit_or _ (zbsf_lt S n (by omega)) n (by omega) s hs, ih]
      by_cases e : s = n
      · subst e; rw [hb]; simp
      · rw [show decide (s < n) = decide (s < n + 1) from decide_eq_decide.mpr (by omega), decide_eq_false e, Bool.or_false]
theorem zbb_claim {S : Nat → Option Nat} {s : Nat} (h : (zbb S s).isSome = true) : (S (18 + s)).isSome = true := by
  cases hc : S (18 + s) with
  | some q => rfl
  | none =>
    have hn : zbb S s = none := zfs_none (fun q _ _ => by unfold zbk; rw [hc])
    rw [hn] at h
    cases h
theorem zct_le {S T : Nat → Option Nat} {i : Nat} : ∀ {n : Nat}, (∀ j, j < n → (T (i + j)).isSome = true → (S (i + j)).isSome = true) → zct T i n ≤ zct S i n
  | 0, _ => Nat.le_refl _
  | n + 1, h => by
    rw [zct, zct]
    have h1 := zct_le (S := S) (T := T) (i := i) (n := n) (fun j hj => h j (by omega))
    by_cases e : (T (i + n)).isSome = true
    · rw [if_pos e, if_pos (h n (by omega) e)]; omega
    · rw [if_neg e]
      by_cases e2 : (S (i + n)).isSome = true
      · rw [if_pos e2]; omega
      · rw [if_neg e2]; omega
theorem zct_lt {S T : Nat → Option Nat} {i q : Nat} : ∀ {n : Nat}, (∀ j, j < n → (T (i + j)).isSome = true → (S (i + j)).isSome = true) → q < n → (T (i + q)).isSome = false → (S (i + q)).isSome = true → zct T i n < zct S i n
  | n + 1, h, hq, h1, h2 => by
    rw [zct, zct]
    by_cases e : q = n
    · subst e
      rw [if_neg (by rw [h1]; simp), if_pos h2]
      have := zct_le (S := S) (T := T) (i := i) (n := q) (fun j hj => h j (by omega))
      omega
    · have ih := zct_lt (S := S) (T := T) (i := i) (q := q) (n := n) (fun j hj => h j (by omega)) (by omega) h1 h2
      by_cases e1 : (T (i + n)).isSome = true
      · rw [if_pos e1, if_pos (h n (by omega) e1)]; omega
      · rw [if_neg e1]
        by_cases e2 : (S (i + n)).isSome = true
        · rw [if_pos e2]; omega
        · rw [if_neg e2]; omega
theorem zct_n (S : Nat → Option Nat) (i : Nat) : ∀ n, zct S i n ≤ n
  | 0 => Nat.le_refl _
  | n + 1 => by
    rw [zct]
    have := zct_n S i n
    by_cases e : (S (i + n)).isSome = true
    · rw [if_pos e]; omega
    · rw [if_neg e]; omega
theorem zrmv_ct {S : Nat → Option Nat} (h : zbs S ≠ 0) : zct (zrmv S (zbs S)) 18 6 < zct S 18 6 := by
  obtain ⟨s, hs, hb⟩ := zbit_ex (zbs S) (zbs_lt S) h
  have hb2 := hb
  unfold zbs at hb2
  rw [zbsf_bit S hs 6 (Nat.le_refl _), Bool.and_eq_true] at hb2
  refine zct_lt (q := s) (fun j hj hT => ?_) hs ?_ (zbb_claim hb2.2)
  · unfold zrmv at hT
    by_cases hc : 18 ≤ 18 + j ∧ 18 + j < 24 ∧ zbit (zbs S) (18 + j - 18) = true
    · rw [if_pos hc] at hT; cases hT
    · rw [if_neg hc] at hT; exact hT
  · unfold zrmv
    rw [if_pos ⟨by omega, by omega, by rw [show 18 + s - 18 = s by omega]; exact hb⟩]
    rfl
theorem zbs_none {S : Nat → Option Nat} (h : zct S 18 6 = 0) : zbs S = 0 := by
  rcases Nat.eq_zero_or_pos (zbs S) with h0 | h0
  · exact h0
  · have := zrmv_ct (S := S) (by omega)
    omega

theorem inX8_settle_X8 : ∀ w ∈ u_ws RX8 TX8 14, w ∈ wsX8_settle := by decide +kernel
theorem lkX8_settle_7 : Cond.fieldLink RX8 7 RX8 "told" "[I" ∈ wsX8_settle := by decide +kernel
set_option maxHeartbeats 4000000 in
set_option maxRecDepth 100000 in
theorem kkX8_settle (l : Launch) (G : zz_C) (hJ : zz_J G) (M : zz_M) (S : Nat → Option Nat) (hs : List (Nat → Option Nat)) (hI : zJ M S hs) : Met l yX8_settle wsX8_settle ({ frames := 7, cells := 0, slots := 0, locals := 169 } : Room) (zz_P G M [.ref (G.2.2 100)]) (zz_Qi G (fun r M1 => zhi M M1 ∧ r = (sp_settle S hs).1 ∧ zJ M1 (sp_settle S hs).2.1 (sp_settle S hs).2.2)) 0 0 (zz_A G) := by
  refine zz_start hJ (by decide) rfl (Nat.le_of_ble_eq_true rfl) ?_
  intro p e s m below meth c E hr hlk
  have hts := E.2.2.2.2.1
  show zz_Z p l e (headSpec wsX8_settle ({ frames := 7, cells := 0, slots := 0, locals := 169 } : Room)).room s m ([.ref (G.2.2 100)] : List Value).toArray below meth c 0 0 (MQ below (zz_Qi G (fun r M1 => zhi M M1 ∧ r = (sp_settle S hs).1 ∧ zJ M1 (sp_settle S hs).2.1 (sp_settle S hs).2.2)) ([.ref (G.2.2 100)] : List Value).toArray s 0 0 (zz_A G)) 4 G (zz_A G) M 0 [(0, .ref (G.2.2 100))] []
  obtain ⟨hV, hh, hS, hp⟩ := id hI
  refine zz_aload_n (pc := 0) E dX8_settle_0 rfl ?_
  refine zz_cvV (pc := 1) E 100 (kkX8_keeps l G hJ _  S hs hS hp) (cwV 0 hts gX8_settle_X8_keeps rfl rfl rfl (by decide +kernel) ⟨Nat.le_of_ble_eq_true rfl, Nat.le_of_ble_eq_true rfl⟩) (by decide) rfl rfl rfl rfl (Nat.le_of_ble_eq_true rfl) dX8_settle_1 (fun M1 q1 => ?_)
  obtain ⟨f1, w1⟩ := q1
  refine zz_iconst (pc := 4) (v := nI 0) E dX8_settle_4 (by decide) ?_
  refine zz_istore_n (pc := 5) (lv' := [(0, _), (1, _)]) E dX8_settle_5 (by decide) rfl ?_
  refine zz_aload_n (pc := 6) E dX8_settle_6 rfl ?_
  refine zz_ciV (pc := 7) E 100 (kkX8_brokenNow l G hJ _  S hV (fun i hi => by rw [f1 101 (by decide)]; exact hS i hi)) (cwV 0 hts gX8_settle_X8_brokenNow rfl rfl rfl (by decide +kernel) ⟨Nat.le_of_ble_eq_true rfl, Nat.le_of_ble_eq_true rfl⟩) (by decide) rfl rfl rfl rfl (Nat.le_of_ble_eq_true rfl) dX8_settle_7 (fun r7 M7 q7 => ?_)
  obtain ⟨f7, rfl⟩ := q7
  refine zz_istore_n (pc := 10) (lv' := [(0, _), (1, _), (2, _)]) E dX8_settle_10 (by decide) rfl ?_
  have key : ∀ (j n : Nat) (M2 : zz_M) (T : Nat → Option Nat), zhi M M2 → zV T → ztl M2 T → zah M2 (zkp S hs) → zct T 18 6 ≤ j → (zsl 6 S).1 = n + (zsl j T).1 → (zsl 6 S).2 = (zsl j T).2 → zz_Z p l e (headSpec wsX8_settle ({ frames := 7, cells := 0, slots := 0, locals := 169 } : Room)).room s m ([.ref (G.2.2 100)] : List Value).toArray below meth c 0 0 (MQ below (zz_Qi G (fun r M1 => zhi M M1 ∧ r = (sp_settle S hs).1 ∧ zJ M1 (sp_settle S hs).2.1 (sp_settle S hs).2.2)) ([.ref (G.2.2 100)] : List Value).toArray s 0 0 (zz_A G)) 4 G (zz_A G) M2 11 [(0, .ref (G.2.2 100)), (1, .int (nI n)), (2, .int (nI (zbs T)))] [] := by
    intro j
    induction j with
    | zero =>
      intro n M2 T hlo hVT hT hpT hct e1 e2
      have hz := zbs_none (show zct T 18 6 = 0 by omega)
      have hb := zbs_lt T
      refine zz_iload_n (pc := 11) E dX8_settle_11 rfl ?_
      refine zn_if_eq (pc := 12) (tgt := 71) E dX8_settle_12 (by decide) (by omega) (fun h12 => ?_) (fun h12 => ?_)
      · refine zz_iload_n (pc := 71) E dX8_settle_71 rfl ?_
        exact zz_iret (pc := 72) E hr hlk dX8_settle_72 ⟨hlo, by show nI n = nI (zsl 6 S).1; rw [e1]; rfl, by show zJ M2 (zsl 6 S).2 (zkp S hs); rw [e2]; exact ⟨hVT, zkp_V hV hh, hT, hpT⟩⟩
      · exact absurd hz h12
    | succ j ih =>
      intro n M2 T hlo hVT hT hpT hct e1 e2
      have hb := zbs_lt T
      rw [zsl_step (f := j) (S := T)] at e1 e2
      refine zz_iload_n (pc := 11) E dX8_settle_11 rfl ?_
      refine zn_if_eq (pc := 12) (tgt := 71) E dX8_settle_12 (by decide) (by omega) (fun h12 => ?_) (fun h12 => ?_)
      · rw [if_pos h12] at e1 e2
        refine zz_iload_n (pc := 71) E dX8_settle_71 rfl ?_
        exact zz_iret (pc := 72) E hr hlk dX8_settle_72 ⟨hlo, by show nI n = nI (zsl 6 S).1; rw [e1]; rfl, by show zJ M2 (zsl 6 S).2 (zkp S hs); rw [e2]; exact ⟨hVT, zkp_V hV hh, hT, hpT⟩⟩
      · rw [if_neg h12] at e1 e2
        have hct2 := zrmv_ct h12
        refine zz_iconst (pc := 15) (v := nI 0) E dX8_settle_15 (by decide) ?_
        refine zz_istore_n (pc := 16) (lv' := [(0, _), (1, _), (2, _), (3, _)]) E dX8_settle_16 (by decide) rfl ?_
        have key2 : ∀ (j2 i2 : Nat) (M3 : zz_M), i2 + j2 = 6 → zfr [101] M2 M3 → (∀ q, q < 18 → M3 101 q = zo (T q)) → (∀ q, q < i2 → M3 101 (18 + q) = zo (zrmv T (zbs T) (18 + q))) → (∀ q, i2 ≤ q → q < 6 → M3 101 (18 + q) = zo (T (18 + q))) → zz_Z p l e (headSpec wsX8_settle ({ frames := 7, cells := 0, slots := 0, locals := 169 } : Room)).room s m ([.ref (G.2.2 100)] : List Value).toArray below meth c 0 0 (MQ below (zz_Qi G (fun r M1 => zhi M M1 ∧ r = (sp_settle S hs).1 ∧ zJ M1 (sp_settle S hs).2.1 (sp_settle S hs).2.2)) ([.ref (G.2.2 100)] : List Value).toArray s 0 0 (zz_A G)) 4 G (zz_A G) M3 17 [(0, .ref (G.2.2 100)), (1, .int (nI n)), (2, .int (nI (zbs T))), (3, .int (nI i2))] [] := by
          intro j2
          induction j2 with
          | zero =>
            intro i2 M3 hi2 hf3 q1 q2 q3
            have hT3 : ztl M3 (zrmv T (zbs T)) := fun i hi => by
              by_cases e : i < 18
              · rw [q1 i e]; unfold zrmv; rw [if_neg (by omega)]
              · have := q2 (i - 18) (by omega)
                rw [show 18 + (i - 18) = i by omega] at this
                exact this
            refine zz_iload_n (pc := 17) E dX8_settle_17 rfl ?_
            refine zz_bipush (pc := 18) (v := nI 6) E dX8_settle_18 (by decide) ?_
            refine zn_icmp_ge (pc := 20) (tgt := 56) E dX8_settle_20 (by decide) (by omega) (by omega) (fun h20 => ?_) (fun h20 => ?_)
            · refine zz_iload_n (pc := 56) E dX8_settle_56 rfl ?_
              refine zz_iload_n (pc := 57) E dX8_settle_57 rfl ?_
              refine zz_ciS (pc := 58) E (kkX8_sizeOf l G hJ _ _ hb) (va_cwS 1 hts gX8_settle_X8_sizeOf rfl rfl rfl (by decide +kernel) ⟨Nat.le_of_ble_eq_true rfl, Nat.le_of_ble_eq_true rfl⟩) rfl rfl (Nat.le_of_ble_eq_true rfl) dX8_settle_58 (fun r58 M58 q58 => ?_)
              obtain ⟨rfl, rfl⟩ := q58
              refine zn_iadd (pc := 61) E dX8_settle_61 ?_
              refine zz_istore_n (pc := 62) (lv' := [(0, _), (1, _), (2, _), (3, _)]) E dX8_settle_62 (by decide) rfl ?_
              refine zz_aload_n (pc := 63) E dX8_settle_63 rfl ?_
              refine zz_ciV (pc := 64) E 100 (kkX8_brokenNow l G hJ _  (zrmv T (zbs T)) (zrmv_V hVT _) hT3) (cwV 0 hts gX8_settle_X8_brokenNow rfl rfl rfl (by decide +kernel) ⟨Nat.le_of_ble_eq_true rfl, Nat.le_of_ble_eq_true rfl⟩) (by decide) rfl rfl rfl rfl (Nat.le_of_ble_eq_true rfl) dX8_settle_64 (fun r64 M64 q64 => ?_)
              obtain ⟨f64, rfl⟩ := q64
              refine zz_istore_n (pc := 67) (lv' := [(0, _), (1, _), (2, _), (3, _)]) E dX8_settle_67 (by decide) rfl ?_
              refine zz_goto (pc := 68) (tgt := 11) E dX8_settle_68 (by decide) ?_
              exact zz_to (ih (n + zpc (zbs T)) M64 (zrmv T (zbs T)) (zhi_tr (zhi_tr hlo (zfr_hi hf3 (by decide))) (zmf_hi f64 (by decide))) (zrmv_V hVT _) (ztl_mf hT3 f64 (by decide)) (zah_mf (zah_mf hpT (zmf_fr hf3 (by decide)) (by decide)) f64 (by decide)) (by omega) (by rw [e1]; simp only; omega) e2) ⟨rfl, rfl, rfl, trivial⟩
            · exact absurd h20 (by omega)
          | succ j2 ih2 =>
            intro i2 M3 hi2 hf3 q1 q2 q3
            refine zz_iload_n (pc := 17) E dX8_settle_17 rfl ?_
            refine zz_bipush (pc := 18) (v := nI 6) E dX8_settle_18 (by decide) ?_
            refine zn_icmp_ge (pc := 20) (tgt := 56) E dX8_settle_20 (by decide) (by omega) (by omega) (fun h20 => ?_) (fun h20 => ?_)
            · exact absurd h20 (by omega)
            · refine zz_aload_n (pc := 23) E dX8_settle_23 rfl ?_
              refine zz_gf (pc := 24) E 100 (by decide) rfl rfl inX8_settle_X8 0 (by decide) lkX8_settle_7 (fun _ h => h) rfl dX8_settle_24 ?_
              refine zz_bipush (pc := 27) (v := nI 18) E dX8_settle_27 (by decide) ?_
              refine zz_iload_n (pc := 29) E dX8_settle_29 rfl ?_
              refine zn_iadd (pc := 30) E dX8_settle_30 ?_
              refine zz_iload_n (pc := 31) E dX8_settle_31 rfl ?_
              refine zz_iload_n (pc := 32) E dX8_settle_32 rfl ?_
              refine zz_ciS (pc := 33) E (kkX8_has l G hJ _ _ _ hb (by omega)) (va_cwS 2 hts gX8_settle_X8_has rfl rfl rfl (by decide +kernel) ⟨Nat.le_of_ble_eq_true rfl, Nat.le_of_ble_eq_true rfl⟩) rfl rfl (Nat.le_of_ble_eq_true rfl) dX8_settle_33 (fun r33 M33 q33 => ?_)
              obtain ⟨rfl, rfl⟩ := q33
              refine zb_if_eq (pc := 36) (tgt := 44) E dX8_settle_36 (by decide) (fun h36 => ?_) (fun h36 => ?_)
              · have hnew : zo (zrmv T (zbs T) (18 + i2)) = M3 101 (18 + i2) := by rw [q3 i2 (Nat.le_refl _) (by omega)]; unfold zrmv; rw [if_neg (fun z => by rw [show 18 + i2 - 18 = i2 by omega, h36] at z; cases z.2.2)]
                refine zz_aload_n (pc := 44) E dX8_settle_44 rfl ?_
                refine zz_iload_n (pc := 45) E dX8_settle_45 rfl ?_
                refine zz_ciV (pc := 46) E 100 (kkX8_claimOf l G hJ _ _ (by omega)) (cwV 1 hts gX8_settle_X8_claimOf rfl rfl rfl (by decide +kernel) ⟨Nat.le_of_ble_eq_true rfl, Nat.le_of_ble_eq_true rfl⟩) (by decide) rfl rfl rfl rfl (Nat.le_of_ble_eq_true rfl) dX8_settle_46 (fun r46 M46 q46 => ?_)
                obtain ⟨rfl, rfl⟩ := q46
                refine zz_iast (pc := 49) E 101 (18 + i2) (n := 24) (by decide) (fun _ => rfl) rfl (by omega) (by decide) dX8_settle_49 ?_
                refine zn_inc (pc := 50) (lv' := [(0, _), (1, _), (2, _), (3, _)]) E dX8_settle_50 rfl (by decide) rfl ?_
                refine zz_goto (pc := 53) (tgt := 17) E dX8_settle_53 (by decide) ?_
                exact zz_to (ih2 (i2 + 1) _ (by omega) (zfr_up hf3 (by simp)) (fun q hq => by rw [zz_up_same, upd_ne _ _ (by omega)]; exact q1 q hq) (fun q hq => by rw [zz_up_same]; by_cases e : q = i2; rw [e, upd_same, hnew]; rw [upd_ne _ _ (by omega)]; exact q2 q (by omega)) (fun q h9 h8 => by rw [zz_up_same, upd_ne _ _ (by omega)]; exact q3 q (by omega) h8)) ⟨rfl, rfl, rfl, rfl, trivial⟩
              · have hnew : zo (zrmv T (zbs T) (18 + i2)) = -9 := by unfold zrmv; rw [if_pos ⟨by omega, by omega, by rw [show 18 + i2 - 18 = i2 by omega]; exact h36⟩]; rfl
                refine zz_bipush (pc := 39) (v := -9) E dX8_settle_39 (by decide) ?_
                refine zz_goto (pc := 41) (tgt := 49) E dX8_settle_41 (by decide) ?_
                refine zz_iast (pc := 49) E 101 (18 + i2) (n := 24) (by decide) (fun _ => rfl) rfl (by omega) (by decide) dX8_settle_49 ?_
                refine zn_inc (pc := 50) (lv' := [(0, _), (1, _), (2, _), (3, _)]) E dX8_settle_50 rfl (by decide) rfl ?_
                refine zz_goto (pc := 53) (tgt := 17) E dX8_settle_53 (by decide) ?_
                exact zz_to (ih2 (i2 + 1) _ (by omega) (zfr_up hf3 (by simp)) (fun q hq => by rw [zz_up_same, upd_ne _ _ (by omega)]; exact q1 q hq) (fun q hq => by rw [zz_up_same]; by_cases e : q = i2; rw [e, upd_same, hnew]; rw [upd_ne _ _ (by omega)]; exact q2 q (by omega)) (fun q h9 h8 => by rw [zz_up_same, upd_ne _ _ (by omega)]; exact q3 q (by omega) h8)) ⟨rfl, rfl, rfl, rfl, trivial⟩
        exact zz_to (key2 6 0 M2 (by omega) (zfr_rf _ _) (fun q hq => hT q (by omega)) (fun q hq => absurd hq (by omega)) (fun q _ hq => hT _ (by omega))) ⟨rfl, rfl, rfl, rfl, trivial⟩
  exact zz_to (key 6 0 M7 S (zhi_tr (zfr_hi f1 (by decide)) (zmf_hi f7 (by decide))) hV (ztl_mf (fun i hi => by rw [f1 101 (by decide)]; exact hS i hi) f7 (by decide)) (zah_mf w1 f7 (by decide)) (zct_n _ _ _) (by omega) rfl) ⟨rfl, rfl, rfl, trivial⟩

def zfnd (F : List Nat) (k : Int32) : Int32 := if k = -1 then -9 else zo (F[k.toInt.toNat]?)
def zall : List Nat := (List.range 999).map (fun q => q + 1)
theorem zall_cl : ∀ s, s < 6 → zcl s = zall.filter (fun r => zok r s 3) := by decide +kernel
theorem zall_at {i : Nat} (h : i < 999) : zall[i]? = some (i + 1) := by
  unfold zall
  rw [List.getElem?_map, List.getElem?_range h]
  rfl
theorem zflt_app {C : List Nat} {P : Nat → Bool} {i r : Nat} (hr : C[i]? = some r) : (C.take (i + 1)).filter P = (C.take i).filter P ++ if P r = true then [r] else [] := by
  rw [List.take_succ, hr, List.filter_append]
  congr 1
  cases hp : P r with
  | true => simp [List.filter, hp]
  | false => simp [List.filter, hp]
theorem zisc {s r : Nat} (hr : r < 2 ^ 31) (h0 : r ≠ 0) : (zs_row (nI r).toInt64 s 3 && !decide ((nI r).toInt64 = lN 0)) = zok r s 3 := by
  rw [nI_l hr, zs_row_lN (by omega), decide_eq_false (fun q => h0 ((zl_eq (by omega) (by decide)).mp q))]
  simp

theorem inX8_might_X8 : ∀ w ∈ u_ws RX8 TX8 14, w ∈ wsX8_might := by decide +kernel
theorem lkX8_might_7 : Cond.fieldLink RX8 7 RX8 "told" "[I" ∈ wsX8_might := by decide +kernel
set_option maxHeartbeats 4000000 in
set_option maxRecDepth 100000 in
theorem kkX8_might (l : Launch) (G : zz_C) (hJ : zz_J G) (M : zz_M) (S : Nat → Option Nat) (hs : List (Nat → Option Nat)) (x k : Int32) (hI : zJ M S hs) : Met l yX8_might wsX8_might ({ frames := 6, cells := 0, slots := 0, locals := 147 } : Room) (zz_P G M [.ref (G.2.2 100), .int x, .int k]) (zz_Qi G (fun r M1 => zhi M M1 ∧ zJ M1 S hs ∧ r = sp_might S x k)) 0 0 (zz_A G) := by
  refine zz_start hJ (by decide) rfl (Nat.le_of_ble_eq_true rfl) ?_
  intro p e s m below meth c E hr hlk
  have hts := E.2.2.2.2.1
  show zz_Z p l e (headSpec wsX8_might ({ frames := 6, cells := 0, slots := 0, locals := 147 } : Room)).room s m ([.ref (G.2.2 100), .int x, .int k] : List Value).toArray below meth c 0 0 (MQ below (zz_Qi G (fun r M1 => zhi M M1 ∧ zJ M1 S hs ∧ r = sp_might S x k)) ([.ref (G.2.2 100), .int x, .int k] : List Value).toArray s 0 0 (zz_A G)) 7 G (zz_A G) M 0 [(0, .ref (G.2.2 100)), (1, .int x), (2, .int k)] []
  obtain ⟨hV, hh, hS, hp⟩ := id hI
  refine zz_iload_n (pc := 0) E dX8_might_0 rfl ?_
  refine zz_ciS (pc := 1) E (kkX8_isSign l G hJ _ _ ) (va_cwS 1 hts gX8_might_X8_isSign rfl rfl rfl (by decide +kernel) ⟨Nat.le_of_ble_eq_true rfl, Nat.le_of_ble_eq_true rfl⟩) rfl rfl (Nat.le_of_ble_eq_true rfl) dX8_might_1 (fun r1 M1 q1 => ?_)
  obtain ⟨rfl, rfl⟩ := q1
  refine zb_if_ne (pc := 4) (tgt := 9) E dX8_might_4 (by decide) (fun h4 => ?_) (fun h4 => ?_)
  · obtain ⟨s0, hs0, hxs⟩ := zp_in_of h4 (by decide)
    refine zz_iload_n (pc := 9) E dX8_might_9 rfl ?_
    refine zz_iconst (pc := 10) (v := -1) E dX8_might_10 (by decide) ?_
    refine zz_icmp_ge (pc := 11) (tgt := 17) E dX8_might_11 (by decide) (fun h11 => ?_) (fun h11 => ?_)
    · have hsp : sp_might S x k = zkth (zmF S s0) k := by unfold sp_might; rw [if_pos h4, if_pos h11, hxs, nI_nat (by omega)]
      refine zz_aload_n (pc := 17) E dX8_might_17 rfl ?_
      refine zz_iload_n (pc := 18) E dX8_might_18 rfl ?_
      refine zz_eqi (y := nI s0) hxs ?_
      refine zz_ciV (pc := 19) E 100 (kkX8_claimOf l G hJ _ _ (by omega)) (cwV 1 hts gX8_might_X8_claimOf rfl rfl rfl (by decide +kernel) ⟨Nat.le_of_ble_eq_true rfl, Nat.le_of_ble_eq_true rfl⟩) (by decide) rfl rfl rfl rfl (Nat.le_of_ble_eq_true rfl) dX8_might_19 (fun r19 M19 q19 => ?_)
      obtain ⟨rfl, rfl⟩ := q19
      refine zz_istore_n (pc := 22) (lv' := [(0, _), (1, _), (2, _), (3, _)]) E dX8_might_22 (by decide) rfl ?_
      refine zz_iconst (pc := 23) (v := nI 0) E dX8_might_23 (by decide) ?_
      refine zz_istore (pc := 24) (lv' := [(0, _), (1, _), (2, _), (3, _), (4, _)]) E dX8_might_24 (by decide) rfl ?_
      refine zz_bipush (pc := 26) (v := -9) E dX8_might_26 (by decide) ?_
      refine zz_istore (pc := 28) (lv' := [(0, _), (1, _), (2, _), (3, _), (4, _), (5, _)]) E dX8_might_28 (by decide) rfl ?_
      refine zz_iconst (pc := 30) (v := nI 1) E dX8_might_30 (by decide) ?_
      refine zz_istore (pc := 31) (lv' := [(0, _), (1, _), (2, _), (3, _), (4, _), (5, _), (6, _)]) E dX8_might_31 (by decide) rfl ?_
      have key : ∀ (j i : Nat) (M2 : zz_M) (F : List Nat), i + j = 999 → zmf [101, 108, 109, 110] M M2 → (∀ q, q < 24 → q ≠ 18 + s0 → M2 101 q = zo (S q)) → F = ((zall.take i).filter (fun r => zok r s0 3)).filter (zmP S s0) → F.length ≤ i → zz_Z p l e (headSpec wsX8_might ({ frames := 6, cells := 0, slots := 0, locals := 147 } : Room)).room s m ([.ref (G.2.2 100), .int x, .int k] : List Value).toArray below meth c 0 0 (MQ below (zz_Qi G (fun r M1 => zhi M M1 ∧ zJ M1 S hs ∧ r = sp_might S x k)) ([.ref (G.2.2 100), .int x, .int k] : List Value).toArray s 0 0 (zz_A G)) 7 G (zz_A G) M2 33 [(0, .ref (G.2.2 100)), (1, .int x), (2, .int k), (3, .int (M 101 (18 + s0))), (4, .int (nI F.length)), (5, .int (zfnd F k)), (6, .int (nI (i + 1)))] [] := by
        intro j
        induction j with
        | zero =>
          intro i M2 F hi hf hq hF hFl
          have hall : F = zmF S s0 := by
            rw [hF, List.take_of_length_le (by unfold zall; rw [List.length_map, List.length_range]; omega)]
            unfold zmF
            rw [zall_cl s0 hs0]
          refine zz_iload (pc := 33) E dX8_might_33 rfl ?_
          refine zz_sipush (pc := 35) (v := nI 1000) E dX8_might_35 (by decide) ?_
          refine zn_icmp_ge (pc := 38) (tgt := 95) E dX8_might_38 (by decide) (by omega) (by omega) (fun h38 => ?_) (fun h38 => ?_)
          · refine zz_aload_n (pc := 95) E dX8_might_95 rfl ?_
            refine zz_gf (pc := 96) E 100 (by decide) rfl rfl inX8_might_X8 0 (by decide) lkX8_might_7 (fun _ h => h) rfl dX8_might_96 ?_
            refine zz_bipush (pc := 99) (v := nI 18) E dX8_might_99 (by decide) ?_
            refine zz_iload_n (pc := 101) E dX8_might_101 rfl ?_
            refine zz_eqi (y := nI s0) hxs ?_
            refine zn_iadd (pc := 102) E dX8_might_102 ?_
            refine zz_iload_n (pc := 103) E dX8_might_103 rfl ?_
            refine zz_iast (pc := 104) E 101 (18 + s0) (n := 24) (by decide) (fun _ => rfl) rfl (by omega) (by decide) dX8_might_104 ?_
            refine zz_iload_n (pc := 105) E dX8_might_105 rfl ?_
            refine zz_iconst (pc := 106) (v := -1) E dX8_might_106 (by decide) ?_
            refine zz_icmp_ne (pc := 107) (tgt := 115) E dX8_might_107 (by decide) (fun h107 => ?_) (fun h107 => ?_)
            · refine zz_iload (pc := 115) E dX8_might_115 rfl ?_
              exact zz_iret (pc := 117) E hr hlk dX8_might_117 ⟨zhi_up (zmf_hi hf (by decide)) (by decide), ⟨hV, hh, fun q hq1 => by rw [zz_up_same]; by_cases e : q = 18 + s0; rw [e, upd_same]; exact hS _ (by omega); rw [upd_ne _ _ e]; exact hq q hq1 e, zah_mf (ks := [101]) (zah_mf hp hf (by decide)) (zmf_up (zmf_rf _ _) (by simp) (by decide)) (by decide)⟩, by rw [hsp, ← hall]; first | (unfold zkth; rw [if_pos h107]; done) | (unfold zkth zfnd; rw [if_neg h107, if_neg h107])⟩
            · refine zz_iload (pc := 110) E dX8_might_110 rfl ?_
              refine zz_goto (pc := 112) (tgt := 117) E dX8_might_112 (by decide) ?_
              exact zz_iret (pc := 117) E hr hlk dX8_might_117 ⟨zhi_up (zmf_hi hf (by decide)) (by decide), ⟨hV, hh, fun q hq1 => by rw [zz_up_same]; by_cases e : q = 18 + s0; rw [e, upd_same]; exact hS _ (by omega); rw [upd_ne _ _ e]; exact hq q hq1 e, zah_mf (ks := [101]) (zah_mf hp hf (by decide)) (zmf_up (zmf_rf _ _) (by simp) (by decide)) (by decide)⟩, by rw [hsp, ← hall]; first | (unfold zkth; rw [if_pos h107]; done) | (unfold zkth zfnd; rw [if_neg h107, if_neg h107])⟩
          · exact absurd h38 (by omega)
        | succ j ih =>
          intro i M2 F hi hf hq hF hFl
          have hat := zall_at (i := i) (by omega)
          have hnx : ((zall.take (i + 1)).filter (fun r => zok r s0 3)).filter (zmP S s0) = F ++ if zok (i + 1) s0 3 = true ∧ zmP S s0 (i + 1) = true then [i + 1] else [] := by
            rw [zflt_app hat, List.filter_append, ← hF]
            congr 1
            cases h1 : zok (i + 1) s0 3 with
            | false => simp
            | true =>
              cases h2 : zmP S s0 (i + 1) with
              | false => simp [List.filter, h2]
              | true => simp [List.filter, h2]
          have hic := zisc (s := s0) (r := i + 1) (by omega) (by omega)
          refine zz_iload (pc := 33) E dX8_might_33 rfl ?_
          refine zz_sipush (pc := 35) (v := nI 1000) E dX8_might_35 (by decide) ?_
          refine zn_icmp_ge (pc := 38) (tgt := 95) E dX8_might_38 (by decide) (by omega) (by omega) (fun h38 => ?_) (fun h38 => ?_)
          · exact absurd h38 (by omega)
          · refine zz_iload_n (pc := 41) E dX8_might_41 rfl ?_
            refine zz_eqi (y := nI s0) hxs ?_
            refine zz_iload (pc := 42) E dX8_might_42 rfl ?_
            refine zz_ciS (pc := 44) E (kkX8_isClaim l G hJ _ _ _ (by omega)) (va_cwS 2 hts gX8_might_X8_isClaim rfl rfl rfl (by decide +kernel) ⟨Nat.le_of_ble_eq_true rfl, Nat.le_of_ble_eq_true rfl⟩) rfl rfl (Nat.le_of_ble_eq_true rfl) dX8_might_44 (fun r44 M44 q44 => ?_)
            obtain ⟨rfl, rfl⟩ := q44
            refine zb_if_eq (pc := 47) (tgt := 89) E dX8_might_47 (by decide) (fun h47 => ?_) (fun h47 => ?_)
            · rw [hic] at h47
              rw [if_neg (by rw [h47]; simp), List.append_nil] at hnx
              refine zn_inc (pc := 89) (lv' := [(0, _), (1, _), (2, _), (3, _), (4, _), (5, _), (6, _)]) E dX8_might_89 rfl (by decide) rfl ?_
              refine zz_goto (pc := 92) (tgt := 33) E dX8_might_92 (by decide) ?_
              exact zz_to (ih (i + 1) M2 F (by omega) hf hq hnx.symm (by omega)) ⟨rfl, rfl, rfl, rfl, rfl, rfl, rfl, trivial⟩
            · rw [hic] at h47
              have hr0 : i + 1 ≠ 0 := by omega
              refine zz_aload_n (pc := 50) E dX8_might_50 rfl ?_
              refine zz_gf (pc := 51) E 100 (by decide) rfl rfl inX8_might_X8 0 (by decide) lkX8_might_7 (fun _ h => h) rfl dX8_might_51 ?_
              refine zz_bipush (pc := 54) (v := nI 18) E dX8_might_54 (by decide) ?_
              refine zz_iload_n (pc := 56) E dX8_might_56 rfl ?_
              refine zz_eqi (y := nI s0) hxs ?_
              refine zn_iadd (pc := 57) E dX8_might_57 ?_
              refine zz_iload (pc := 58) E dX8_might_58 rfl ?_
              refine zz_iast (pc := 60) E 101 (18 + s0) (n := 24) (by decide) (fun _ => rfl) rfl (by omega) (by decide) dX8_might_60 ?_
              generalize hM3 : zz_up M2 101 (upd (M2 101) (18 + s0) (nI (i + 1))) = M3
              have hf3 : zmf [101, 108, 109, 110] M M3 := by rw [← hM3]; exact zmf_up hf (by simp) (by decide)
              have hq3 : ∀ q, q < 24 → q ≠ 18 + s0 → M3 101 q = zo (S q) := fun q hq1 e => by rw [← hM3, zz_up_same, upd_ne _ _ e]; exact hq q hq1 e
              have hT3 : ztl M3 (zvu S (18 + s0) (some (i + 1))) := fun q hq1 => by
                by_cases e : q = 18 + s0
                · rw [e, zvu_same, ← hM3, zz_up_same, upd_same]; rfl
                · rw [zvu_ne _ _ e]; exact hq3 q hq1 e
              clear hM3
              have hVT : zV (zvu S (18 + s0) (some (i + 1))) := zV_clm hV hs0 (fun a ha => by cases ha; exact ⟨h47, hr0⟩)
              have hlt : ∀ q, zbb (zvu S (18 + s0) (some (i + 1))) s0 = some q → q < 2 ^ 31 := fun q hq => by have := zfs_lt hq; omega
              refine zz_aload_n (pc := 61) E dX8_might_61 rfl ?_
              refine zz_iload_n (pc := 62) E dX8_might_62 rfl ?_
              refine zz_eqi (y := nI s0) hxs ?_
              refine zz_ciV (pc := 63) E 100 (kkX8_brokenBy l G hJ _  _ s0 hVT hT3 hs0) (cwV 1 hts gX8_might_X8_brokenBy rfl rfl rfl (by decide +kernel) ⟨Nat.le_of_ble_eq_true rfl, Nat.le_of_ble_eq_true rfl⟩) (by decide) rfl rfl rfl rfl (Nat.le_of_ble_eq_true rfl) dX8_might_63 (fun r63 M63 q63 => ?_)
              obtain ⟨f63, rfl⟩ := q63
              have hf4 : zmf [101, 108, 109, 110] M M63 := zmf_ct hf3 f63 (fun _ h => h) (by simp)
              have hq4 : ∀ q, q < 24 → q ≠ 18 + s0 → M63 101 q = zo (S q) := fun q hq1 e => by rw [f63.1 101 (by decide)]; exact hq3 q hq1 e
              refine zz_bipush (pc := 66) (v := -9) E dX8_might_66 (by decide) ?_
              refine zz_icmp_ne (pc := 68) (tgt := 89) E dX8_might_68 (by decide) (fun h68 => ?_) (fun h68 => ?_)
              · have hp2 : ¬ zmP S s0 (i + 1) = true := fun q => h68 (by unfold zmP at q; rw [Option.isNone_iff_eq_none.mp q]; rfl)
                rw [if_neg (fun q => hp2 q.2), List.append_nil] at hnx
                refine zn_inc (pc := 89) (lv' := [(0, _), (1, _), (2, _), (3, _), (4, _), (5, _), (6, _)]) E dX8_might_89 rfl (by decide) rfl ?_
                refine zz_goto (pc := 92) (tgt := 33) E dX8_might_92 (by decide) ?_
                exact zz_to (ih (i + 1) M63 F (by omega) hf4 hq4 hnx.symm (by omega)) ⟨rfl, rfl, rfl, rfl, rfl, rfl, rfl, trivial⟩
              · rw [zo_m9 hlt] at h68
                have hp2 : zmP S s0 (i + 1) = true := by unfold zmP; rw [h68]; rfl
                rw [if_pos ⟨h47, hp2⟩] at hnx
                have hfl : (F ++ [i + 1]).length = F.length + 1 := by rw [List.length_append]; rfl
                refine zz_iload (pc := 71) E dX8_might_71 rfl ?_
                refine zz_iload_n (pc := 73) E dX8_might_73 rfl ?_
                refine zz_icmp_ne (pc := 74) (tgt := 82) E dX8_might_74 (by decide) (fun h74 => ?_) (fun h74 => ?_)
                · have hfd : zfnd (F ++ [i + 1]) k = zfnd F k := by
                    unfold zfnd
                    by_cases hk1 : k = -1
                    · rw [if_pos hk1, if_pos hk1]
                    · rw [if_neg hk1, if_neg hk1]
                      obtain ⟨q, hq31, hkq⟩ := zcl_neg h11 hk1
                      rw [hkq, nI_nat hq31]
                      have hne : q ≠ F.length := fun e => h74 (by rw [hkq, e])
                      rcases Nat.lt_or_ge q F.length with h | h
                      · rw [List.getElem?_append_left h]
                      · rw [List.getElem?_eq_none (by rw [hfl]; omega), List.getElem?_eq_none (by omega)]
                  refine zz_iload (pc := 82) E dX8_might_82 rfl ?_
                  refine zz_istore (pc := 84) (lv' := [(0, _), (1, _), (2, _), (3, _), (4, _), (5, _), (6, _)]) E dX8_might_84 (by decide) rfl ?_
                  refine zn_inc (pc := 86) (lv' := [(0, _), (1, _), (2, _), (3, _), (4, _), (5, _), (6, _)]) E dX8_might_86 rfl (by decide) rfl ?_
                  refine zn_inc (pc := 89) (lv' := [(0, _), (1, _), (2, _), (3, _), (4, _), (5, _), (6, _)]) E dX8_might_89 rfl (by decide) rfl ?_
                  refine zz_goto (pc := 92) (tgt := 33) E dX8_might_92 (by decide) ?_
                  exact zz_to (ih (i + 1) M63 (F ++ [i + 1]) (by omega) hf4 hq4 hnx.symm (by rw [hfl]; omega)) ⟨rfl, rfl, rfl, rfl, by rw [hfl]; rfl, by rw [hfd]; rfl, rfl, trivial⟩
                · have hfd : zfnd (F ++ [i + 1]) k = nI (i + 1) := by
                    have hk1 : k ≠ -1 := by
                      rw [← h74]
                      intro q
                      have := congrArg Int32.toInt q
                      rw [nI_toInt (by omega), show (-1 : Int32).toInt = -1 by decide] at this
                      omega
                    unfold zfnd
                    rw [if_neg hk1, ← h74, nI_nat (by omega), List.getElem?_append_right (Nat.le_refl _), Nat.sub_self]
                    rfl
                  refine zz_iload (pc := 77) E dX8_might_77 rfl ?_
                  refine zz_goto (pc := 79) (tgt := 84) E dX8_might_79 (by decide) ?_
                  refine zz_istore (pc := 84) (lv' := [(0, _), (1, _), (2, _), (3, _), (4, _), (5, _), (6, _)]) E dX8_might_84 (by decide) rfl ?_
                  refine zn_inc (pc := 86) (lv' := [(0, _), (1, _), (2, _), (3, _), (4, _), (5, _), (6, _)]) E dX8_might_86 rfl (by decide) rfl ?_
                  refine zn_inc (pc := 89) (lv' := [(0, _), (1, _), (2, _), (3, _), (4, _), (5, _), (6, _)]) E dX8_might_89 rfl (by decide) rfl ?_
                  refine zz_goto (pc := 92) (tgt := 33) E dX8_might_92 (by decide) ?_
                  exact zz_to (ih (i + 1) M63 (F ++ [i + 1]) (by omega) hf4 hq4 hnx.symm (by rw [hfl]; omega)) ⟨rfl, rfl, rfl, rfl, by rw [hfl]; rfl, by rw [hfd]; rfl, rfl, trivial⟩
      exact zz_to (key 999 0 M [] (by omega) (zmf_rf _ _) (fun q hq _ => hS q hq) rfl (Nat.le_refl _)) ⟨rfl, rfl, rfl, rfl, rfl, by unfold zfnd; by_cases e : k = -1; rw [if_pos e]; rfl; rw [if_neg e]; rfl, rfl, trivial⟩
    · have hsp : sp_might S x k = -2 := by unfold sp_might; rw [if_pos h4, if_neg h11]
      refine zz_bipush (pc := 14) (v := -2) E dX8_might_14 (by decide) ?_
      exact zz_iret (pc := 16) E hr hlk dX8_might_16 ⟨zhi_rf _, hI, by rw [hsp]⟩
  · have hsp : sp_might S x k = -1 := by unfold sp_might; rw [if_neg (by rw [h4]; simp)]
    refine zz_iconst (pc := 7) (v := -1) E dX8_might_7 (by decide) ?_
    exact zz_iret (pc := 8) E hr hlk dX8_might_8 ⟨zhi_rf _, hI, by rw [hsp]⟩

theorem inX8_undo_X8 : ∀ w ∈ u_ws RX8 TX8 14, w ∈ wsX8_undo := by decide +kernel
theorem lkX8_undo_50 : Cond.fieldLink RX8 50 RX8 "changes" "I" ∈ wsX8_undo := by decide +kernel
theorem lkX8_undo_7 : Cond.fieldLink RX8 7 RX8 "told" "[I" ∈ wsX8_undo := by decide +kernel
theorem lkX8_undo_13 : Cond.fieldLink RX8 13 RX8 "ahead" "[I" ∈ wsX8_undo := by decide +kernel
set_option maxHeartbeats 4000000 in
set_option maxRecDepth 100000 in
theorem kkX8_undo (l : Launch) (G : zz_C) (hJ : zz_J G) (M : zz_M) (S : Nat → Option Nat) (hs : List (Nat → Option Nat)) (k : Int32) (hI : zJ M S hs) : Met l yX8_undo wsX8_undo ({ frames := 1, cells := 0, slots := 0, locals := 22 } : Room) (zz_P G M [.ref (G.2.2 100), .int k]) (zz_Qi G (fun r M1 => zhi M M1 ∧ r = (sp_undo S hs k).1 ∧ zJ M1 (sp_undo S hs k).2.1 (sp_undo S hs k).2.2)) 0 0 (zz_A G) := by
  refine zz_start hJ (by decide) rfl (Nat.le_of_ble_eq_true rfl) ?_
  intro p e s m below meth c E hr hlk
  have hts := E.2.2.2.2.1
  show zz_Z p l e (headSpec wsX8_undo ({ frames := 1, cells := 0, slots := 0, locals := 22 } : Room)).room s m ([.ref (G.2.2 100), .int k] : List Value).toArray below meth c 0 0 (MQ below (zz_Qi G (fun r M1 => zhi M M1 ∧ r = (sp_undo S hs k).1 ∧ zJ M1 (sp_undo S hs k).2.1 (sp_undo S hs k).2.2)) ([.ref (G.2.2 100), .int k] : List Value).toArray s 0 0 (zz_A G)) 3 G (zz_A G) M 0 [(0, .ref (G.2.2 100)), (1, .int k)] []
  obtain ⟨hV, hh, hS, hp⟩ := id hI
  obtain ⟨g1, g2, g3⟩ := id hp
  refine zz_iload_n (pc := 0) E dX8_undo_0 rfl ?_
  refine zz_iconst (pc := 1) (v := nI 0) E dX8_undo_1 (by decide) ?_
  refine zz_aload_n (pc := 2) E dX8_undo_2 rfl ?_
  refine zz_gf (pc := 3) E 100 (by decide) rfl rfl inX8_undo_X8 1 (by decide) lkX8_undo_50 (fun _ h => h) rfl dX8_undo_3 ?_
  refine zz_eqi (y := nI hs.length) g1 ?_
  refine zz_ciS (pc := 6) E (kkX8_within l G hJ _ _ _ _ ) (va_cwS 3 hts gX8_undo_X8_within rfl rfl rfl (by decide +kernel) ⟨Nat.le_of_ble_eq_true rfl, Nat.le_of_ble_eq_true rfl⟩) rfl rfl (Nat.le_of_ble_eq_true rfl) dX8_undo_6 (fun r6 M6 q6 => ?_)
  obtain ⟨rfl, rfl⟩ := q6
  refine zb_if_ne (pc := 9) (tgt := 15) E dX8_undo_9 (by decide) (fun h9 => ?_) (fun h9 => ?_)
  · rw [zp_w_0 (by omega)] at h9
    obtain ⟨q, hq, hkq⟩ := zp_in_of h9 (by omega)
    have hsp : sp_undo S hs k = (nI (hs.length - q), (S :: hs).getD q S, hs.drop q) := by unfold sp_undo; rw [if_pos h9, hkq, nI_nat (by omega)]
    refine zz_aload_n (pc := 15) E dX8_undo_15 rfl ?_
    refine zz_dup (pc := 16) E dX8_undo_16 rfl ?_
    refine zz_gf (pc := 17) E 100 (by decide) rfl rfl inX8_undo_X8 1 (by decide) lkX8_undo_50 (fun _ h => h) rfl dX8_undo_17 ?_
    refine zz_eqi (y := nI hs.length) g1 ?_
    refine zz_iload_n (pc := 20) E dX8_undo_20 rfl ?_
    refine zz_eqi (y := nI q) hkq ?_
    refine zn_isub (pc := 21) E dX8_undo_21 (by omega) ?_
    refine zz_pfj (pc := 22) E 100 0 (by decide) rfl rfl inX8_undo_X8 tyX8 tyX8_ok nmX8 1 (by decide) lkX8_undo_50 (fun _ h => h) rfl rfl (Nat.le_of_ble_eq_true rfl) rfl dX8_undo_22 ?_
    refine zz_iconst (pc := 25) (v := nI 0) E dX8_undo_25 (by decide) ?_
    refine zz_istore_n (pc := 26) (lv' := [(0, _), (1, _), (2, _)]) E dX8_undo_26 (by decide) rfl ?_
    generalize hM2 : zz_up _ 100 _ = M2
    have hf2 : zfr [100] M M2 := by rw [← hM2]; exact zfr_up (zfr_rf _ _) (by simp)
    have h0 : M2 100 0 = nI (hs.length - q) := by rw [← hM2, zz_up_same, upd_same]
    clear hM2
    have hend : ∀ (M3 : zz_M), zfr [101] M2 M3 → ztl M3 ((S :: hs).getD q S) → zhi M M3 ∧ zJ M3 ((S :: hs).getD q S) (hs.drop q) := fun M3 hf3 hT => by
      refine ⟨zhi_tr (zfr_hi hf2 (by decide)) (zfr_hi hf3 (by decide)), zV_getD hV hh q, fun T hT2 => hh T (List.mem_of_mem_drop hT2), hT, ?_, ?_, ?_⟩
      · rw [hf3 100 (by decide), h0, List.length_drop]
      · rw [List.length_drop]; omega
      · intro j T hj i hi
        rw [List.getElem?_drop] at hj
        have hjl := (List.getElem?_eq_some_iff.mp hj).1
        rw [hf3 102 (by decide), hf2 102 (by decide), List.length_drop, show hs.length - q - 1 - j = hs.length - 1 - (q + j) by omega]
        exact g3 _ T hj i hi
    rcases Nat.eq_zero_or_pos q with hq0 | hq0
    · have hT0 : ztl M2 ((S :: hs).getD q S) := by rw [hq0]; exact fun i hi => by rw [hf2 101 (by decide)]; exact hS i hi
      obtain ⟨r1, r2⟩ := hend M2 (zfr_rf _ _) hT0
      refine zz_iload_n (pc := 27) E dX8_undo_27 rfl ?_
      refine zz_bipush (pc := 28) (v := nI 24) E dX8_undo_28 (by decide) ?_
      refine zn_icmp_ge (pc := 30) (tgt := 63) E dX8_undo_30 (by decide) (by omega) (by omega) (fun h30 => ?_) (fun h30 => ?_)
      · exact absurd h30 (by decide)
      · refine zz_iload_n (pc := 33) E dX8_undo_33 rfl ?_
        refine zz_eqi (y := nI q) hkq ?_
        refine zn_if_le (pc := 34) (tgt := 63) E dX8_undo_34 (by decide) (by omega) (fun h34 => ?_) (fun h34 => ?_)
        · refine zz_aload_n (pc := 63) E dX8_undo_63 rfl ?_
          refine zz_gf (pc := 64) E 100 (by decide) rfl rfl inX8_undo_X8 1 (by decide) lkX8_undo_50 (fun _ h => h) rfl dX8_undo_64 ?_
          refine zz_eqi (y := nI (hs.length - q)) h0 ?_
          exact zz_iret (pc := 67) E hr hlk dX8_undo_67 ⟨r1, by rw [hsp], by rw [hsp]; exact r2⟩
        · exact absurd h34 (by omega)
    · obtain ⟨T, hT⟩ : ∃ T, hs[q - 1]? = some T := ⟨_, List.getElem?_eq_getElem (by omega)⟩
      have hgT : (S :: hs).getD q S = T := by obtain ⟨q, rfl⟩ : ∃ z, q = z + 1 := ⟨q - 1, by omega⟩; rw [List.getD_eq_getElem?_getD, List.getElem?_cons_succ]; rw [Nat.add_sub_cancel] at hT; rw [hT]; rfl
      have hTa : ∀ i, i < 24 → M 102 (24 * (hs.length - q) + i) = zo (T i) := fun i hi => by have := g3 _ T hT i hi; rw [show hs.length - 1 - (q - 1) = hs.length - q by omega] at this; exact this
      have key : ∀ (j i : Nat) (M3 : zz_M), i + j = 24 → zfr [101] M2 M3 → (∀ u, u < i → M3 101 u = zo (T u)) → zz_Z p l e (headSpec wsX8_undo ({ frames := 1, cells := 0, slots := 0, locals := 22 } : Room)).room s m ([.ref (G.2.2 100), .int k] : List Value).toArray below meth c 0 0 (MQ below (zz_Qi G (fun r M1 => zhi M M1 ∧ r = (sp_undo S hs k).1 ∧ zJ M1 (sp_undo S hs k).2.1 (sp_undo S hs k).2.2)) ([.ref (G.2.2 100), .int k] : List Value).toArray s 0 0 (zz_A G)) 3 G (zz_A G) M3 27 [(0, .ref (G.2.2 100)), (1, .int k), (2, .int (nI i))] [] := by
        intro j
        induction j with
        | zero =>
          intro i M3 hi hf3 hu
          obtain ⟨r1, r2⟩ := hend M3 hf3 (by rw [hgT]; exact fun u hu2 => hu u (by omega))
          refine zz_iload_n (pc := 27) E dX8_undo_27 rfl ?_
          refine zz_bipush (pc := 28) (v := nI 24) E dX8_undo_28 (by decide) ?_
          refine zn_icmp_ge (pc := 30) (tgt := 63) E dX8_undo_30 (by decide) (by omega) (by omega) (fun h30 => ?_) (fun h30 => ?_)
          · refine zz_aload_n (pc := 63) E dX8_undo_63 rfl ?_
            refine zz_gf (pc := 64) E 100 (by decide) rfl rfl inX8_undo_X8 1 (by decide) lkX8_undo_50 (fun _ h => h) rfl dX8_undo_64 ?_
            refine zz_eqi (y := nI (hs.length - q)) (by rw [hf3 100 (by decide)]; exact h0) ?_
            exact zz_iret (pc := 67) E hr hlk dX8_undo_67 ⟨r1, by rw [hsp], by rw [hsp]; exact r2⟩
          · exact absurd h30 (by omega)
        | succ j ih =>
          intro i M3 hi hf3 hu
          have hb480 : 24 * (hs.length - q) + i < 480 := by omega
          refine zz_iload_n (pc := 27) E dX8_undo_27 rfl ?_
          refine zz_bipush (pc := 28) (v := nI 24) E dX8_undo_28 (by decide) ?_
          refine zn_icmp_ge (pc := 30) (tgt := 63) E dX8_undo_30 (by decide) (by omega) (by omega) (fun h30 => ?_) (fun h30 => ?_)
          · exact absurd h30 (by omega)
          · refine zz_iload_n (pc := 33) E dX8_undo_33 rfl ?_
            refine zz_eqi (y := nI q) hkq ?_
            refine zn_if_le (pc := 34) (tgt := 63) E dX8_undo_34 (by decide) (by omega) (fun h34 => ?_) (fun h34 => ?_)
            · exact absurd h34 (by omega)
            · refine zz_aload_n (pc := 37) E dX8_undo_37 rfl ?_
              refine zz_gf (pc := 38) E 100 (by decide) rfl rfl inX8_undo_X8 0 (by decide) lkX8_undo_7 (fun _ h => h) rfl dX8_undo_38 ?_
              refine zz_iload_n (pc := 41) E dX8_undo_41 rfl ?_
              refine zz_aload_n (pc := 42) E dX8_undo_42 rfl ?_
              refine zz_gf (pc := 43) E 100 (by decide) rfl rfl inX8_undo_X8 2 (by decide) lkX8_undo_13 (fun _ h => h) rfl dX8_undo_43 ?_
              refine zz_bipush (pc := 46) (v := nI 24) E dX8_undo_46 (by decide) ?_
              refine zz_aload_n (pc := 48) E dX8_undo_48 rfl ?_
              refine zz_gf (pc := 49) E 100 (by decide) rfl rfl inX8_undo_X8 1 (by decide) lkX8_undo_50 (fun _ h => h) rfl dX8_undo_49 ?_
              refine zz_eqi (y := nI (hs.length - q)) (by rw [hf3 100 (by decide)]; exact h0) ?_
              refine zn_imul (pc := 52) E dX8_undo_52 ?_
              refine zz_iload_n (pc := 53) E dX8_undo_53 rfl ?_
              refine zn_iadd (pc := 54) E dX8_undo_54 ?_
              refine zz_iald (pc := 55) E 102 (24 * (hs.length - q) + i) (n := 480) (by decide) rfl rfl (by omega) (by decide) dX8_undo_55 ?_
              refine zz_iast (pc := 56) E 101 (_) (n := 24) (by decide) (fun _ => rfl) rfl (by omega) (by decide) dX8_undo_56 ?_
              refine zn_inc (pc := 57) (lv' := [(0, _), (1, _), (2, _)]) E dX8_undo_57 rfl (by decide) rfl ?_
              refine zz_goto (pc := 60) (tgt := 27) E dX8_undo_60 (by decide) ?_
              exact zz_to (ih (i + 1) _ (by omega) (zfr_up hf3 (by simp)) (fun u hu2 => by rw [zz_up_same]; by_cases e : u = i; rw [e, upd_same, hf3 102 (by decide), hf2 102 (by decide)]; exact hTa i (by omega); rw [upd_ne _ _ e]; exact hu u (by omega))) ⟨rfl, rfl, rfl, trivial⟩
      exact zz_to (key 24 0 M2 (by omega) (zfr_rf _ _) (fun u hu => absurd hu (by omega))) ⟨rfl, rfl, rfl, trivial⟩
  · rw [zp_w_0 (by omega)] at h9
    have hsp : sp_undo S hs k = (-2, S, hs) := by unfold sp_undo; rw [if_neg (by rw [h9]; simp)]
    refine zz_bipush (pc := 12) (v := -2) E dX8_undo_12 (by decide) ?_
    exact zz_iret (pc := 14) E hr hlk dX8_undo_14 ⟨zhi_rf _, by rw [hsp], by rw [hsp]; exact hI⟩

theorem inX8_manyTold_X8 : ∀ w ∈ u_ws RX8 TX8 14, w ∈ wsX8_manyTold := by decide +kernel
theorem lkX8_manyTold_7 : Cond.fieldLink RX8 7 RX8 "told" "[I" ∈ wsX8_manyTold := by decide +kernel
set_option maxHeartbeats 4000000 in
set_option maxRecDepth 100000 in
theorem kkX8_manyTold (l : Launch) (G : zz_C) (hJ : zz_J G) (M : zz_M) (S : Nat → Option Nat) (f0 n : Nat) (hV : ∀ j, j < n → ∀ a, S (f0 + j) = some a → a < 2 ^ 31) (hS : ztl M S) (hn : f0 + n ≤ 24) : Met l yX8_manyTold wsX8_manyTold ({ frames := 0, cells := 0, slots := 0, locals := 0 } : Room) (zz_P G M [.ref (G.2.2 100), .int (nI f0), .int (nI (f0 + n))]) (zz_Qi G (fun r M1 => M = M1 ∧ r = nI (zct S f0 n))) 0 0 (zz_A G) := by
  refine zz_start hJ (by decide) rfl (Nat.le_of_ble_eq_true rfl) ?_
  intro p e s m below meth c E hr hlk
  have hts := E.2.2.2.2.1
  show zz_Z p l e (headSpec wsX8_manyTold ({ frames := 0, cells := 0, slots := 0, locals := 0 } : Room)).room s m ([.ref (G.2.2 100), .int (nI f0), .int (nI (f0 + n))] : List Value).toArray below meth c 0 0 (MQ below (zz_Qi G (fun r M1 => M = M1 ∧ r = nI (zct S f0 n))) ([.ref (G.2.2 100), .int (nI f0), .int (nI (f0 + n))] : List Value).toArray s 0 0 (zz_A G)) 5 G (zz_A G) M 0 [(0, .ref (G.2.2 100)), (1, .int (nI f0)), (2, .int (nI (f0 + n)))] []
  refine zz_iconst (pc := 0) (v := nI 0) E dX8_manyTold_0 (by decide) ?_
  refine zz_istore_n (pc := 1) (lv' := [(0, _), (1, _), (2, _), (3, _)]) E dX8_manyTold_1 (by decide) rfl ?_
  refine zz_iload_n (pc := 2) E dX8_manyTold_2 rfl ?_
  refine zz_istore (pc := 3) (lv' := [(0, _), (1, _), (2, _), (3, _), (4, _)]) E dX8_manyTold_3 (by decide) rfl ?_
  have key : ∀ (j i : Nat), i + j = n → zz_Z p l e (headSpec wsX8_manyTold ({ frames := 0, cells := 0, slots := 0, locals := 0 } : Room)).room s m ([.ref (G.2.2 100), .int (nI f0), .int (nI (f0 + n))] : List Value).toArray below meth c 0 0 (MQ below (zz_Qi G (fun r M1 => M = M1 ∧ r = nI (zct S f0 n))) ([.ref (G.2.2 100), .int (nI f0), .int (nI (f0 + n))] : List Value).toArray s 0 0 (zz_A G)) 5 G (zz_A G) M 5 [(0, .ref (G.2.2 100)), (2, .int (nI (f0 + n))), (3, .int (nI (zct S f0 i))), (4, .int (nI (f0 + i)))] [] := by
    intro j
    induction j with
    | zero =>
      intro i hi
      refine zz_iload (pc := 5) E dX8_manyTold_5 rfl ?_
      refine zz_iload_n (pc := 7) E dX8_manyTold_7 rfl ?_
      refine zn_icmp_ge (pc := 8) (tgt := 37) E dX8_manyTold_8 (by decide) (by omega) (by omega) (fun h8 => ?_) (fun h8 => ?_)
      · refine zz_iload_n (pc := 37) E dX8_manyTold_37 rfl ?_
        exact zz_iret (pc := 38) E hr hlk dX8_manyTold_38 ⟨rfl, by rw [show i = n by omega]⟩
      · exact absurd h8 (by omega)
    | succ j ih =>
      intro i hi
      have h101 : M 101 (f0 + i) = zo (S (f0 + i)) := hS _ (by omega)
      have hlt := hV i (by omega)
      have hst : zct S f0 (i + 1) = zct S f0 i + (if (S (f0 + i)).isSome = true then 1 else 0) := rfl
      refine zz_iload (pc := 5) E dX8_manyTold_5 rfl ?_
      refine zz_iload_n (pc := 7) E dX8_manyTold_7 rfl ?_
      refine zn_icmp_ge (pc := 8) (tgt := 37) E dX8_manyTold_8 (by decide) (by omega) (by omega) (fun h8 => ?_) (fun h8 => ?_)
      · exact absurd h8 (by omega)
      · refine zz_iload_n (pc := 11) E dX8_manyTold_11 rfl ?_
        refine zz_aload_n (pc := 12) E dX8_manyTold_12 rfl ?_
        refine zz_gf (pc := 13) E 100 (by decide) rfl rfl inX8_manyTold_X8 0 (by decide) lkX8_manyTold_7 (fun _ h => h) rfl dX8_manyTold_13 ?_
        refine zz_iload (pc := 16) E dX8_manyTold_16 rfl ?_
        refine zz_iald (pc := 18) E 101 (_) (n := 24) (by decide) rfl rfl (by omega) (by decide) dX8_manyTold_18 ?_
        refine zz_eqi (y := zo (S (f0 + i))) h101 ?_
        refine zz_bipush (pc := 19) (v := -9) E dX8_manyTold_19 (by decide) ?_
        refine zz_icmp_eq (pc := 21) (tgt := 28) E dX8_manyTold_21 (by decide) (fun h21 => ?_) (fun h21 => ?_)
        · rw [zo_m9 hlt] at h21
          rw [h21] at hst
          refine zz_iconst (pc := 28) (v := nI 0) E dX8_manyTold_28 (by decide) ?_
          refine zn_iadd (pc := 29) E dX8_manyTold_29 ?_
          refine zz_istore_n (pc := 30) (lv' := [(0, _), (2, _), (3, _), (4, _)]) E dX8_manyTold_30 (by decide) rfl ?_
          refine zn_inc (pc := 31) (lv' := [(0, _), (2, _), (3, _), (4, _)]) E dX8_manyTold_31 rfl (by decide) rfl ?_
          refine zz_goto (pc := 34) (tgt := 5) E dX8_manyTold_34 (by decide) ?_
          exact zz_to (ih (i + 1) (by omega)) ⟨rfl, rfl, by rw [hst]; rfl, rfl, trivial⟩
        · rw [if_pos (by cases hv2 : S (f0 + i) with | none => { exact absurd (by rw [hv2]; rfl) h21 } | some q => { rfl })] at hst
          refine zz_iconst (pc := 24) (v := nI 1) E dX8_manyTold_24 (by decide) ?_
          refine zz_goto (pc := 25) (tgt := 29) E dX8_manyTold_25 (by decide) ?_
          refine zn_iadd (pc := 29) E dX8_manyTold_29 ?_
          refine zz_istore_n (pc := 30) (lv' := [(0, _), (2, _), (3, _), (4, _)]) E dX8_manyTold_30 (by decide) rfl ?_
          refine zn_inc (pc := 31) (lv' := [(0, _), (2, _), (3, _), (4, _)]) E dX8_manyTold_31 rfl (by decide) rfl ?_
          refine zz_goto (pc := 34) (tgt := 5) E dX8_manyTold_34 (by decide) ?_
          exact zz_to (ih (i + 1) (by omega)) ⟨rfl, rfl, by rw [hst]; rfl, rfl, trivial⟩
  exact zz_to (key n 0 (by omega)) ⟨rfl, rfl, rfl, rfl, trivial⟩

theorem inX8_manyWithWord_X8 : ∀ w ∈ u_ws RX8 TX8 14, w ∈ wsX8_manyWithWord := by decide +kernel
theorem lkX8_manyWithWord_19 : Cond.fieldLink RX8 19 RX8 "norms" "[I" ∈ wsX8_manyWithWord := by decide +kernel
set_option maxHeartbeats 4000000 in
set_option maxRecDepth 100000 in
theorem kkX8_manyWithWord (l : Launch) (G : zz_C) (hJ : zz_J G) (M : zz_M) (S : Nat → Option Nat) (hV : zV S) (hS : ztl M S) : Met l yX8_manyWithWord wsX8_manyWithWord ({ frames := 4, cells := 0, slots := 0, locals := 96 } : Room) (zz_P G M [.ref (G.2.2 100)]) (zz_Qi G (fun r M1 => zfr [104] M M1 ∧ r = nI (zct (zit S 36) 0 6))) 0 0 (zz_A G) := by
  refine zz_start hJ (by decide) rfl (Nat.le_of_ble_eq_true rfl) ?_
  intro p e s m below meth c E hr hlk
  have hts := E.2.2.2.2.1
  show zz_Z p l e (headSpec wsX8_manyWithWord ({ frames := 4, cells := 0, slots := 0, locals := 96 } : Room)).room s m ([.ref (G.2.2 100)] : List Value).toArray below meth c 0 0 (MQ below (zz_Qi G (fun r M1 => zfr [104] M M1 ∧ r = nI (zct (zit S 36) 0 6))) ([.ref (G.2.2 100)] : List Value).toArray s 0 0 (zz_A G)) 3 G (zz_A G) M 0 [(0, .ref (G.2.2 100))] []
  refine zz_aload_n (pc := 0) E dX8_manyWithWord_0 rfl ?_
  refine zz_cvV (pc := 1) E 100 (kkX8_findNorms l G hJ _  S hV hS) (cwV 0 hts gX8_manyWithWord_X8_findNorms rfl rfl rfl (by decide +kernel) ⟨Nat.le_of_ble_eq_true rfl, Nat.le_of_ble_eq_true rfl⟩) (by decide) rfl rfl rfl rfl (Nat.le_of_ble_eq_true rfl) dX8_manyWithWord_1 (fun M1 q1 => ?_)
  obtain ⟨f1, w1⟩ := q1
  refine zz_iconst (pc := 4) (v := nI 0) E dX8_manyWithWord_4 (by decide) ?_
  refine zz_istore_n (pc := 5) (lv' := [(0, _), (1, _)]) E dX8_manyWithWord_5 (by decide) rfl ?_
  refine zz_iconst (pc := 6) (v := nI 0) E dX8_manyWithWord_6 (by decide) ?_
  refine zz_istore_n (pc := 7) (lv' := [(0, _), (1, _), (2, _)]) E dX8_manyWithWord_7 (by decide) rfl ?_
  have key : ∀ (j i : Nat), i + j = 6 → zz_Z p l e (headSpec wsX8_manyWithWord ({ frames := 4, cells := 0, slots := 0, locals := 96 } : Room)).room s m ([.ref (G.2.2 100)] : List Value).toArray below meth c 0 0 (MQ below (zz_Qi G (fun r M1 => zfr [104] M M1 ∧ r = nI (zct (zit S 36) 0 6))) ([.ref (G.2.2 100)] : List Value).toArray s 0 0 (zz_A G)) 3 G (zz_A G) M1 8 [(0, .ref (G.2.2 100)), (1, .int (nI (zct (zit S 36) 0 i))), (2, .int (nI i))] [] := by
    intro j
    induction j with
    | zero =>
      intro i hi
      refine zz_iload_n (pc := 8) E dX8_manyWithWord_8 rfl ?_
      refine zz_bipush (pc := 9) (v := nI 6) E dX8_manyWithWord_9 (by decide) ?_
      refine zn_icmp_ge (pc := 11) (tgt := 39) E dX8_manyWithWord_11 (by decide) (by omega) (by omega) (fun h11 => ?_) (fun h11 => ?_)
      · refine zz_iload_n (pc := 39) E dX8_manyWithWord_39 rfl ?_
        exact zz_iret (pc := 40) E hr hlk dX8_manyWithWord_40 ⟨f1, by rw [show i = 6 by omega]⟩
      · exact absurd h11 (by omega)
    | succ j ih =>
      intro i hi
      have h104 : M1 104 i = zo (zit S 36 i) := w1 i (by omega)
      have hlt : ∀ q, zit S 36 i = some q → q < 2 ^ 31 := fun q hq => by have := zit_bd hV 36 i (by omega) q hq; omega
      have hst : zct (zit S 36) 0 (i + 1) = zct (zit S 36) 0 i + (if (zit S 36 i).isSome = true then 1 else 0) := by rw [zct, Nat.zero_add]
      refine zz_iload_n (pc := 8) E dX8_manyWithWord_8 rfl ?_
      refine zz_bipush (pc := 9) (v := nI 6) E dX8_manyWithWord_9 (by decide) ?_
      refine zn_icmp_ge (pc := 11) (tgt := 39) E dX8_manyWithWord_11 (by decide) (by omega) (by omega) (fun h11 => ?_) (fun h11 => ?_)
      · exact absurd h11 (by omega)
      · refine zz_iload_n (pc := 14) E dX8_manyWithWord_14 rfl ?_
        refine zz_aload_n (pc := 15) E dX8_manyWithWord_15 rfl ?_
        refine zz_gf (pc := 16) E 100 (by decide) rfl rfl inX8_manyWithWord_X8 5 (by decide) lkX8_manyWithWord_19 (fun _ h => h) rfl dX8_manyWithWord_16 ?_
        refine zz_iload_n (pc := 19) E dX8_manyWithWord_19 rfl ?_
        refine zz_iald (pc := 20) E 104 (_) (n := 6) (by decide) rfl rfl (by omega) (by decide) dX8_manyWithWord_20 ?_
        refine zz_eqi (y := zo (zit S 36 i)) h104 ?_
        refine zz_bipush (pc := 21) (v := -9) E dX8_manyWithWord_21 (by decide) ?_
        refine zz_icmp_eq (pc := 23) (tgt := 30) E dX8_manyWithWord_23 (by decide) (fun h23 => ?_) (fun h23 => ?_)
        · rw [zo_m9 hlt] at h23
          rw [h23] at hst
          refine zz_iconst (pc := 30) (v := nI 0) E dX8_manyWithWord_30 (by decide) ?_
          refine zn_iadd (pc := 31) E dX8_manyWithWord_31 ?_
          refine zz_istore_n (pc := 32) (lv' := [(0, _), (1, _), (2, _)]) E dX8_manyWithWord_32 (by decide) rfl ?_
          refine zn_inc (pc := 33) (lv' := [(0, _), (1, _), (2, _)]) E dX8_manyWithWord_33 rfl (by decide) rfl ?_
          refine zz_goto (pc := 36) (tgt := 8) E dX8_manyWithWord_36 (by decide) ?_
          exact zz_to (ih (i + 1) (by omega)) ⟨rfl, by rw [hst]; rfl, rfl, trivial⟩
        · rw [if_pos (by cases hv2 : zit S 36 i with | none => { exact absurd (by rw [hv2]; rfl) h23 } | some q => { rfl })] at hst
          refine zz_iconst (pc := 26) (v := nI 1) E dX8_manyWithWord_26 (by decide) ?_
          refine zz_goto (pc := 27) (tgt := 31) E dX8_manyWithWord_27 (by decide) ?_
          refine zn_iadd (pc := 31) E dX8_manyWithWord_31 ?_
          refine zz_istore_n (pc := 32) (lv' := [(0, _), (1, _), (2, _)]) E dX8_manyWithWord_32 (by decide) rfl ?_
          refine zn_inc (pc := 33) (lv' := [(0, _), (1, _), (2, _)]) E dX8_manyWithWord_33 rfl (by decide) rfl ?_
          refine zz_goto (pc := 36) (tgt := 8) E dX8_manyWithWord_36 (by decide) ?_
          exact zz_to (ih (i + 1) (by omega)) ⟨rfl, by rw [hst]; rfl, rfl, trivial⟩
  exact zz_to (key 6 0 (by omega)) ⟨rfl, rfl, rfl, trivial⟩

theorem inX8_many_X8 : ∀ w ∈ u_ws RX8 TX8 14, w ∈ wsX8_many := by decide +kernel
theorem lkX8_many_50 : Cond.fieldLink RX8 50 RX8 "changes" "I" ∈ wsX8_many := by decide +kernel
set_option maxHeartbeats 4000000 in
set_option maxRecDepth 100000 in
theorem kkX8_many (l : Launch) (G : zz_C) (hJ : zz_J G) (M : zz_M) (S : Nat → Option Nat) (hs : List (Nat → Option Nat)) (w : Int32) (hI : zJ M S hs) : Met l yX8_many wsX8_many ({ frames := 7, cells := 0, slots := 0, locals := 169 } : Room) (zz_P G M [.ref (G.2.2 100), .int w]) (zz_Qi G (fun r M1 => zhi M M1 ∧ zJ M1 S hs ∧ r = sp_many S hs w)) 0 0 (zz_A G) := by
  refine zz_start hJ (by decide) rfl (Nat.le_of_ble_eq_true rfl) ?_
  intro p e s m below meth c E hr hlk
  have hts := E.2.2.2.2.1
  show zz_Z p l e (headSpec wsX8_many ({ frames := 7, cells := 0, slots := 0, locals := 169 } : Room)).room s m ([.ref (G.2.2 100), .int w] : List Value).toArray below meth c 0 0 (MQ below (zz_Qi G (fun r M1 => zhi M M1 ∧ zJ M1 S hs ∧ r = sp_many S hs w)) ([.ref (G.2.2 100), .int w] : List Value).toArray s 0 0 (zz_A G)) 2 G (zz_A G) M 0 [(0, .ref (G.2.2 100)), (1, .int w)] []
  obtain ⟨hV, hh, hS, hp⟩ := id hI
  refine zz_iload_n (pc := 0) E dX8_many_0 rfl ?_
  cases hw4 : zp_in w 5 with
  | false =>
    have hsp : sp_many S hs w = -2 := by unfold sp_many; rw [if_neg (by rw [hw4]; simp)]
    have hout : w.toInt < 0 ∨ 4 < w.toInt := by unfold zp_in at hw4; rw [decide_eq_false_iff_not] at hw4; omega
    refine zz_tableOut (tgt := 71) E dX8_many_1 hout (by decide) ?_
    refine zz_bipush (pc := 71) (v := -2) E dX8_many_71 (by decide) ?_
    exact zz_iret (pc := 73) E hr hlk dX8_many_73 ⟨zhi_rf _, hI, by rw [hsp]⟩
  | true =>
    obtain ⟨u, hu, hwu⟩ := zp_in_of hw4 (by decide)
    have hsp : sp_many S hs w = zmny S hs.length u := by unfold sp_many; rw [if_pos hw4, hwu, nI_nat (by omega)]
    refine zz_eqi (y := nI u) hwu ?_
    obtain rfl | rfl | rfl | rfl | rfl : u = 0 ∨ u = 1 ∨ u = 2 ∨ u = 3 ∨ u = 4 := by omega
    · refine zz_tableIn (tgt := 36) E dX8_many_1 (by decide) (by decide) (by rfl) (by decide) ?_
      refine zz_aload_n (pc := 36) E dX8_many_36 rfl ?_
      refine zz_iconst (pc := 37) (v := nI 0) E dX8_many_37 (by decide) ?_
      refine zz_bipush (pc := 38) (v := nI 18) E dX8_many_38 (by decide) ?_
      refine zz_ciV (pc := 40) E 100 (kkX8_manyTold l G hJ _  S 0 18 (fun j hj a ha => by rw [Nat.zero_add] at ha; have := zV_lt hV hj ha; omega) hS (by decide)) (cwV 2 hts gX8_many_X8_manyTold rfl rfl rfl (by decide +kernel) ⟨Nat.le_of_ble_eq_true rfl, Nat.le_of_ble_eq_true rfl⟩) (by decide) rfl rfl rfl rfl (Nat.le_of_ble_eq_true rfl) dX8_many_40 (fun r40 M40 q40 => ?_)
      obtain ⟨rfl, rfl⟩ := q40
      exact zz_iret (pc := 43) E hr hlk dX8_many_43 ⟨zhi_rf _, hI, by rw [hsp]; rfl⟩
    · refine zz_tableIn (tgt := 44) E dX8_many_1 (by decide) (by decide) (by rfl) (by decide) ?_
      refine zz_aload_n (pc := 44) E dX8_many_44 rfl ?_
      refine zz_bipush (pc := 45) (v := nI 18) E dX8_many_45 (by decide) ?_
      refine zz_bipush (pc := 47) (v := nI 24) E dX8_many_47 (by decide) ?_
      refine zz_ciV (pc := 49) E 100 (kkX8_manyTold l G hJ _  S 18 6 (fun j hj a ha => by have := zV_lt2 hV hj ha; omega) hS (by decide)) (cwV 2 hts gX8_many_X8_manyTold rfl rfl rfl (by decide +kernel) ⟨Nat.le_of_ble_eq_true rfl, Nat.le_of_ble_eq_true rfl⟩) (by decide) rfl rfl rfl rfl (Nat.le_of_ble_eq_true rfl) dX8_many_49 (fun r49 M49 q49 => ?_)
      obtain ⟨rfl, rfl⟩ := q49
      exact zz_iret (pc := 52) E hr hlk dX8_many_52 ⟨zhi_rf _, hI, by rw [hsp]; rfl⟩
    · refine zz_tableIn (tgt := 53) E dX8_many_1 (by decide) (by decide) (by rfl) (by decide) ?_
      refine zz_aload_n (pc := 53) E dX8_many_53 rfl ?_
      refine zz_ciV (pc := 54) E 100 (kkX8_manyWithWord l G hJ _  S hV hS) (cwV 0 hts gX8_many_X8_manyWithWord rfl rfl rfl (by decide +kernel) ⟨Nat.le_of_ble_eq_true rfl, Nat.le_of_ble_eq_true rfl⟩) (by decide) rfl rfl rfl rfl (Nat.le_of_ble_eq_true rfl) dX8_many_54 (fun r54 M54 q54 => ?_)
      obtain ⟨f54, rfl⟩ := q54
      exact zz_iret (pc := 57) E hr hlk dX8_many_57 ⟨zfr_hi f54 (by decide), zJ_mf hI (zmf_fr f54 (by decide)) (by decide) (by decide), by rw [hsp]; rfl⟩
    · refine zz_tableIn (tgt := 58) E dX8_many_1 (by decide) (by decide) (by rfl) (by decide) ?_
      refine zz_aload_n (pc := 58) E dX8_many_58 rfl ?_
      refine zz_gf (pc := 59) E 100 (by decide) rfl rfl inX8_many_X8 1 (by decide) lkX8_many_50 (fun _ h => h) rfl dX8_many_59 ?_
      refine zz_eqi (y := nI hs.length) hp.1 ?_
      exact zz_iret (pc := 62) E hr hlk dX8_many_62 ⟨zhi_rf _, hI, by rw [hsp]; rfl⟩
    · refine zz_tableIn (tgt := 63) E dX8_many_1 (by decide) (by decide) (by rfl) (by decide) ?_
      refine zz_aload_n (pc := 63) E dX8_many_63 rfl ?_
      refine zz_ciV (pc := 64) E 100 (kkX8_brokenNow l G hJ _  S hV hS) (cwV 0 hts gX8_many_X8_brokenNow rfl rfl rfl (by decide +kernel) ⟨Nat.le_of_ble_eq_true rfl, Nat.le_of_ble_eq_true rfl⟩) (by decide) rfl rfl rfl rfl (Nat.le_of_ble_eq_true rfl) dX8_many_64 (fun r64 M64 q64 => ?_)
      obtain ⟨f64, rfl⟩ := q64
      refine zz_ciS (pc := 67) E (kkX8_sizeOf l G hJ _ _ (zbs_lt S)) (va_cwS 1 hts gX8_many_X8_sizeOf rfl rfl rfl (by decide +kernel) ⟨Nat.le_of_ble_eq_true rfl, Nat.le_of_ble_eq_true rfl⟩) rfl rfl (Nat.le_of_ble_eq_true rfl) dX8_many_67 (fun r67 M67 q67 => ?_)
      obtain ⟨rfl, rfl⟩ := q67
      exact zz_iret (pc := 70) E hr hlk dX8_many_70 ⟨zmf_hi f64 (by decide), zJ_mf hI f64 (by decide) (by decide), by rw [hsp]; rfl⟩
