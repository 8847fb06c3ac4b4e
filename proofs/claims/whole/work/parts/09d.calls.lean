theorem zcl_ok : ∀ s, s < 6 → ∀ q, q < s + s * s + s * s * s → zok (zro (q + 1) s) s 3 = true ∧ zro (q + 1) s ≠ 0 ∧ zro (q + 1) s < 1000 := by decide +kernel
theorem zcl_last {s : Nat} (h : s < 6) : s + s * s + s * s * s < 1000 := by
  match s, h with
  | 0, _ => decide
  | 1, _ => decide
  | 2, _ => decide
  | 3, _ => decide
  | 4, _ => decide
  | 5, _ => decide
theorem zflt_at {C : List Nat} {P : Nat → Bool} {i r : Nat} (hr : C[i]? = some r) (hp : P r = true) : (C.filter P)[((C.take i).filter P).length]? = some r := by
  have e : C = C.take i ++ r :: C.drop (i + 1) := by
    obtain ⟨h1, rfl⟩ := List.getElem?_eq_some_iff.mp hr
    rw [← List.drop_eq_getElem_cons h1, List.take_append_drop]
  have e2 : C.filter P = (C.take i).filter P ++ r :: (C.drop (i + 1)).filter P := by
    conv => lhs; rw [e]
    rw [List.filter_append, List.filter_cons_of_pos hp]
  rw [e2, List.getElem?_append_right (Nat.le_refl _), Nat.sub_self]
  rfl
theorem zflt_take {C : List Nat} {P : Nat → Bool} {i r : Nat} (hr : C[i]? = some r) : ((C.take (i + 1)).filter P).length = ((C.take i).filter P).length + if P r = true then 1 else 0 := by
  obtain ⟨h1, rfl⟩ := List.getElem?_eq_some_iff.mp hr
  rw [List.take_succ, hr, List.filter_append, List.length_append]
  congr 1
  cases hp : P C[i] with
  | true => simp [List.filter, hp]
  | false => simp [List.filter, hp]
theorem zcl_at {s i : Nat} (h : i < s + s * s + s * s * s) : (zcl s)[i]? = some (zro (i + 1) s) := by
  unfold zcl
  rw [List.getElem?_map, List.getElem?_range h]
  rfl
theorem zcl_len (s : Nat) : (zcl s).length = s + s * s + s * s * s := by
  unfold zcl
  rw [List.length_map, List.length_range]
theorem zct_cnt {f : Nat → Int32} {S : Nat → Option Nat} {i : Nat} : ∀ {n : Nat}, (∀ j, j < n → f j = zo (S (i + j)) ∧ ∀ a, S (i + j) = some a → a < 2 ^ 31) → zcnt f n = zct S i n
  | 0, _ => rfl
  | n + 1, h => by
    rw [zcnt, zct, zct_cnt (fun j hj => h j (by omega))]
    obtain ⟨h1, h2⟩ := h n (by omega)
    rw [h1]
    cases hs : S (i + n) with
    | none => rfl
    | some a =>
      rw [if_neg (fun q => by rw [zo_m9 (fun b hb => h2 b (by rw [hs, hb]))] at q; cases q)]
      rfl
theorem zsl_step {f : Nat} {S : Nat → Option Nat} : zsl (f + 1) S = if zbs S = 0 then (0, S) else (zpc (zbs S) + (zsl f (zrmv S (zbs S))).1, (zsl f (zrmv S (zbs S))).2) := rfl
theorem zfs_step {P : Nat → Bool} {i n : Nat} : zfs P i (n + 1) = if P i = true then some i else zfs P (i + 1) n := rfl

theorem inX7_broken_X7 : ∀ w ∈ u_ws RX7 TX7 8, w ∈ wsX7_broken := by decide +kernel
theorem lkX7_broken_49 : Cond.fieldLink RX7 49 RX7 "forms" "LFirstSigns$Forms;" ∈ wsX7_broken := by decide +kernel
theorem lkX7_broken_12 : Cond.fieldLink RX7 12 RX7 "table" "LFirstSigns$Table;" ∈ wsX7_broken := by decide +kernel
set_option maxHeartbeats 4000000 in
set_option maxRecDepth 100000 in
theorem kkX7_broken (l : Launch) (G : zz_C) (hJ : zz_J G) (M : zz_M) (S : Nat → Option Nat) (hs : List (Nat → Option Nat)) (w : Int32) (hI : zI M S hs) : Met l yX7_broken wsX7_broken ({ frames := 5, cells := 0, slots := 0, locals := 154 } : Room) (zz_P G M [.ref (G.2.2 0), .int w]) (zz_Qi G (fun r M1 => zlo M M1 ∧ zI M1 S hs ∧ r = sp_broken S w)) 0 0 (zz_A G) := by
  refine zz_start hJ (by decide) rfl (Nat.le_of_ble_eq_true rfl) ?_
  intro p e s m below meth c E hr hlk
  have hts := E.2.2.2.2.1
  show zz_Z p l e (headSpec wsX7_broken ({ frames := 5, cells := 0, slots := 0, locals := 154 } : Room)).room s m ([.ref (G.2.2 0), .int w] : List Value).toArray below meth c 0 0 (MQ below (zz_Qi G (fun r M1 => zlo M M1 ∧ zI M1 S hs ∧ r = sp_broken S w)) ([.ref (G.2.2 0), .int w] : List Value).toArray s 0 0 (zz_A G)) 4 G (zz_A G) M 0 [(0, .ref (G.2.2 0)), (1, .int w)] []
  refine zz_iload_n (pc := 0) E dX7_broken_0 rfl ?_
  refine zz_if_lt (pc := 1) (tgt := 9) E dX7_broken_1 (by decide) (fun h1 => ?_) (fun h1 => ?_)
  · have hsp : sp_broken S w = -2 := by unfold sp_broken; rw [if_neg (by rw [zp_in_f1 h1]; simp)]
    refine zz_bipush (pc := 9) (v := -2) E dX7_broken_9 (by decide) ?_
    exact zz_iret (pc := 11) E hr hlk dX7_broken_11 ⟨zI_lo_rf _, hI, by rw [hsp]⟩
  · refine zz_iload_n (pc := 4) E dX7_broken_4 rfl ?_
    refine zz_iconst (pc := 5) (v := nI 1) E dX7_broken_5 (by decide) ?_
    refine zz_icmp_le (pc := 6) (tgt := 12) E dX7_broken_6 (by decide) (fun h6 => ?_) (fun h6 => ?_)
    · have hw4 := zp_w3t h1 h6
      obtain ⟨u, hu, hwu⟩ := zp_in_of hw4 (by decide)
      have hsp : sp_broken S w = match zfs (fun s => (zbb S s).isSome) 0 6 with | none => -9 | some s => if u = 0 then nI s else zo (zbb S s) := by
        unfold sp_broken
        rw [if_pos hw4, hwu, nI_nat (by omega)]
        rfl
      refine zz_aload_n (pc := 12) E dX7_broken_12 rfl ?_
      refine zz_gf (pc := 13) E 0 (by decide) rfl rfl inX7_broken_X7 5 (by decide) lkX7_broken_49 (fun _ h => h) rfl dX7_broken_13 ?_
      refine zz_aload_n (pc := 16) E dX7_broken_16 rfl ?_
      refine zz_gf (pc := 17) E 0 (by decide) rfl rfl inX7_broken_X7 0 (by decide) lkX7_broken_12 (fun _ h => h) rfl dX7_broken_17 ?_
      refine zz_cvV (pc := 20) E 22 (kkX1_find l G hJ _  S hI.1 hI.2.2.1) (cwV 1 hts gX7_broken_X1_find rfl rfl rfl (by decide +kernel) ⟨Nat.le_of_ble_eq_true rfl, Nat.le_of_ble_eq_true rfl⟩) (by decide) rfl rfl rfl rfl (Nat.le_of_ble_eq_true rfl) dX7_broken_20 (fun M20 q20 => ?_)
      obtain ⟨f20, w20⟩ := q20
      refine zz_iconst (pc := 23) (v := nI 0) E dX7_broken_23 (by decide) ?_
      refine zz_istore_n (pc := 24) (lv' := [(0, _), (1, _), (2, _)]) E dX7_broken_24 (by decide) rfl ?_
      have key : ∀ (j i : Nat) (M2 : zz_M), i + j = 6 → zfr zKR M M2 → zfrm M2 (zfm S) 6 → zfs (fun s => (zbb S s).isSome) 0 6 = zfs (fun s => (zbb S s).isSome) i j → zz_Z p l e (headSpec wsX7_broken ({ frames := 5, cells := 0, slots := 0, locals := 154 } : Room)).room s m ([.ref (G.2.2 0), .int w] : List Value).toArray below meth c 0 0 (MQ below (zz_Qi G (fun r M1 => zlo M M1 ∧ zI M1 S hs ∧ r = sp_broken S w)) ([.ref (G.2.2 0), .int w] : List Value).toArray s 0 0 (zz_A G)) 4 G (zz_A G) M2 25 [(0, .ref (G.2.2 0)), (1, .int w), (2, .int (nI i))] [] := by
        intro j
        induction j with
        | zero =>
          intro i M2 hi hf hw he
          refine zz_iload_n (pc := 25) E dX7_broken_25 rfl ?_
          refine zz_bipush (pc := 26) (v := nI 6) E dX7_broken_26 (by decide) ?_
          refine zn_icmp_ge (pc := 28) (tgt := 59) E dX7_broken_28 (by decide) (by omega) (by omega) (fun h28 => ?_) (fun h28 => ?_)
          · refine zz_bipush (pc := 59) (v := -9) E dX7_broken_59 (by decide) ?_
            exact zz_iret (pc := 61) E hr hlk dX7_broken_61 ⟨zfr_lo hf (by decide), zI_fr hI hf (by decide), by rw [hsp, he]; rfl⟩
          · exact absurd h28 (by omega)
        | succ j ih =>
          intro i M2 hi hf hw he
          have hS2 : ztab M2 1 S := ztab_fr hI.2.2.1 hf (by decide) (by decide)
          have hlt : ∀ q, zbb S i = some q → q < 2 ^ 31 := fun q hq => by have := zfs_lt hq; omega
          rw [zfs_step (n := j)] at he
          refine zz_iload_n (pc := 25) E dX7_broken_25 rfl ?_
          refine zz_bipush (pc := 26) (v := nI 6) E dX7_broken_26 (by decide) ?_
          refine zn_icmp_ge (pc := 28) (tgt := 59) E dX7_broken_28 (by decide) (by omega) (by omega) (fun h28 => ?_) (fun h28 => ?_)
          · exact absurd h28 (by omega)
          · refine zz_aload_n (pc := 31) E dX7_broken_31 rfl ?_
            refine zz_iload_n (pc := 32) E dX7_broken_32 rfl ?_
            refine zz_ciV (pc := 33) E 0 (kkX7_breakingLetter l G hJ _  S i hI.1 hS2 hw (by omega)) (cwV 1 hts gX7_broken_X7_breakingLetter rfl rfl rfl (by decide +kernel) ⟨Nat.le_of_ble_eq_true rfl, Nat.le_of_ble_eq_true rfl⟩) (by decide) rfl rfl rfl rfl (Nat.le_of_ble_eq_true rfl) dX7_broken_33 (fun r33 M33 q33 => ?_)
            obtain ⟨f33, rfl⟩ := q33
            refine zz_istore_n (pc := 36) (lv' := [(0, _), (1, _), (2, _), (3, _)]) E dX7_broken_36 (by decide) rfl ?_
            refine zz_iload_n (pc := 37) E dX7_broken_37 rfl ?_
            refine zz_bipush (pc := 38) (v := -9) E dX7_broken_38 (by decide) ?_
            refine zz_icmp_eq (pc := 40) (tgt := 53) E dX7_broken_40 (by decide) (fun h40 => ?_) (fun h40 => ?_)
            · rw [zo_m9 hlt] at h40
              rw [h40] at he
              refine zn_inc (pc := 53) (lv' := [(0, _), (1, _), (2, _), (3, _)]) E dX7_broken_53 rfl (by decide) rfl ?_
              refine zz_goto (pc := 56) (tgt := 25) E dX7_broken_56 (by decide) ?_
              exact zz_to (ih (i + 1) M33 (by omega) (zfr_ct hf f33 (fun _ h => h) (by simp)) (fun t ht => zrow_fr (hw t ht) f33 (by simp; omega) (by simp; omega)) he) ⟨rfl, rfl, rfl, trivial⟩
            · obtain ⟨q, hq⟩ : ∃ q, zbb S i = some q := by
                cases hv2 : zbb S i with
                | none => exact absurd (by rw [hv2]; rfl) h40
                | some q => exact ⟨q, rfl⟩
              rw [if_pos (by rw [hq]; rfl)] at he
              have hf := zfr_ct hf f33 (ks := zKR) (fun _ h => h) (by simp)
              refine zz_iload_n (pc := 43) E dX7_broken_43 rfl ?_
              refine zz_eqi (y := nI u) hwu ?_
              refine zn_if_ne (pc := 44) (tgt := 51) E dX7_broken_44 (by decide) (by omega) (fun h44 => ?_) (fun h44 => ?_)
              · refine zz_iload_n (pc := 51) E dX7_broken_51 rfl ?_
                exact zz_iret (pc := 52) E hr hlk dX7_broken_52 ⟨zfr_lo hf (by decide), zI_fr hI hf (by decide), by rw [hsp, he]; first | exact (if_pos h44).symm | exact (if_neg h44).symm⟩
              · refine zz_iload_n (pc := 47) E dX7_broken_47 rfl ?_
                refine zz_goto (pc := 48) (tgt := 52) E dX7_broken_48 (by decide) ?_
                exact zz_iret (pc := 52) E hr hlk dX7_broken_52 ⟨zfr_lo hf (by decide), zI_fr hI hf (by decide), by rw [hsp, he]; first | exact (if_pos h44).symm | exact (if_neg h44).symm⟩
      exact zz_to (key 6 0 M20 (by omega) (zfr_mono f20 (by simp)) w20 rfl) ⟨rfl, rfl, rfl, trivial⟩
    · have hsp : sp_broken S w = -2 := by unfold sp_broken; rw [if_neg (by rw [zp_w3 h6]; simp)]
      refine zz_bipush (pc := 9) (v := -2) E dX7_broken_9 (by decide) ?_
      exact zz_iret (pc := 11) E hr hlk dX7_broken_11 ⟨zI_lo_rf _, hI, by rw [hsp]⟩

theorem inX7_settle_X7 : ∀ w ∈ u_ws RX7 TX7 8, w ∈ wsX7_settle := by decide +kernel
theorem lkX7_settle_21 : Cond.fieldLink RX7 21 RX7 "past" "LFirstSigns$Past;" ∈ wsX7_settle := by decide +kernel
theorem lkX7_settle_12 : Cond.fieldLink RX7 12 RX7 "table" "LFirstSigns$Table;" ∈ wsX7_settle := by decide +kernel
set_option maxHeartbeats 4000000 in
set_option maxRecDepth 100000 in
theorem kkX7_settle (l : Launch) (G : zz_C) (hJ : zz_J G) (M : zz_M) (S : Nat → Option Nat) (hs : List (Nat → Option Nat)) (hI : zI M S hs) : Met l yX7_settle wsX7_settle ({ frames := 6, cells := 0, slots := 0, locals := 176 } : Room) (zz_P G M [.ref (G.2.2 0)]) (zz_Qi G (fun r M1 => zlo M M1 ∧ r = (sp_settle S hs).1 ∧ zI M1 (sp_settle S hs).2.1 (sp_settle S hs).2.2)) 0 0 (zz_A G) := by
  refine zz_start hJ (by decide) rfl (Nat.le_of_ble_eq_true rfl) ?_
  intro p e s m below meth c E hr hlk
  have hts := E.2.2.2.2.1
  show zz_Z p l e (headSpec wsX7_settle ({ frames := 6, cells := 0, slots := 0, locals := 176 } : Room)).room s m ([.ref (G.2.2 0)] : List Value).toArray below meth c 0 0 (MQ below (zz_Qi G (fun r M1 => zlo M M1 ∧ r = (sp_settle S hs).1 ∧ zI M1 (sp_settle S hs).2.1 (sp_settle S hs).2.2)) ([.ref (G.2.2 0)] : List Value).toArray s 0 0 (zz_A G)) 4 G (zz_A G) M 0 [(0, .ref (G.2.2 0))] []
  obtain ⟨hV, hh, hS, nx, hp⟩ := id hI
  refine zz_aload_n (pc := 0) E dX7_settle_0 rfl ?_
  refine zz_gf (pc := 1) E 0 (by decide) rfl rfl inX7_settle_X7 1 (by decide) lkX7_settle_21 (fun _ h => h) rfl dX7_settle_1 ?_
  refine zz_aload_n (pc := 4) E dX7_settle_4 rfl ?_
  refine zz_gf (pc := 5) E 0 (by decide) rfl rfl inX7_settle_X7 0 (by decide) lkX7_settle_12 (fun _ h => h) rfl dX7_settle_5 ?_
  refine zz_cvV (pc := 8) E 4 (kkX3_keep l G hJ _  nx hs S hp hS) (cwV 1 hts gX7_settle_X3_keep rfl rfl rfl (by decide +kernel) ⟨Nat.le_of_ble_eq_true rfl, Nat.le_of_ble_eq_true rfl⟩) (by decide) rfl rfl rfl rfl (Nat.le_of_ble_eq_true rfl) dX7_settle_8 (fun M8 q8 => ?_)
  obtain ⟨f8, w8⟩ := q8
  refine zz_iconst (pc := 11) (v := nI 0) E dX7_settle_11 (by decide) ?_
  refine zz_istore_n (pc := 12) (lv' := [(0, _), (1, _)]) E dX7_settle_12 (by decide) rfl ?_
  refine zz_aload_n (pc := 13) E dX7_settle_13 rfl ?_
  refine zz_ciV (pc := 14) E 0 (kkX7_brokenClaims l G hJ _  S hV (ztab_fr hS f8 (by decide) (by decide))) (cwV 0 hts gX7_settle_X7_brokenClaims rfl rfl rfl (by decide +kernel) ⟨Nat.le_of_ble_eq_true rfl, Nat.le_of_ble_eq_true rfl⟩) (by decide) rfl rfl rfl rfl (Nat.le_of_ble_eq_true rfl) dX7_settle_14 (fun r14 M14 q14 => ?_)
  obtain ⟨f14, rfl⟩ := q14
  refine zz_istore_n (pc := 17) (lv' := [(0, _), (1, _), (2, _)]) E dX7_settle_17 (by decide) rfl ?_
  refine zz_iconst (pc := 18) (v := nI 0) E dX7_settle_18 (by decide) ?_
  refine zz_istore_n (pc := 19) (lv' := [(0, _), (1, _), (2, _), (3, _)]) E dX7_settle_19 (by decide) rfl ?_
  have key : ∀ (j i n : Nat) (M2 : zz_M) (T : Nat → Option Nat), i + j = 6 → zlo M M2 → zV T → ztab M2 1 T → zpast M2 ((nx + 1) % 20) (zkp S hs) → (zsl 6 S).1 = n + (zsl j T).1 → (zsl 6 S).2 = (zsl j T).2 → zz_Z p l e (headSpec wsX7_settle ({ frames := 6, cells := 0, slots := 0, locals := 176 } : Room)).room s m ([.ref (G.2.2 0)] : List Value).toArray below meth c 0 0 (MQ below (zz_Qi G (fun r M1 => zlo M M1 ∧ r = (sp_settle S hs).1 ∧ zI M1 (sp_settle S hs).2.1 (sp_settle S hs).2.2)) ([.ref (G.2.2 0)] : List Value).toArray s 0 0 (zz_A G)) 4 G (zz_A G) M2 20 [(0, .ref (G.2.2 0)), (1, .int (nI n)), (2, .int (nI (zbs T))), (3, .int (nI i))] [] := by
    intro j
    induction j with
    | zero =>
      intro i n M2 T hi hlo hVT hT hpT e1 e2
      refine zz_iload_n (pc := 20) E dX7_settle_20 rfl ?_
      refine zz_bipush (pc := 21) (v := nI 6) E dX7_settle_21 (by decide) ?_
      refine zn_icmp_ge (pc := 23) (tgt := 53) E dX7_settle_23 (by decide) (by omega) (by omega) (fun h23 => ?_) (fun h23 => ?_)
      · refine zz_iload_n (pc := 53) E dX7_settle_53 rfl ?_
        exact zz_iret (pc := 54) E hr hlk dX7_settle_54 ⟨hlo, by show nI n = nI (zsl 6 S).1; rw [e1]; rfl, by show zI M2 (zsl 6 S).2 (zkp S hs); rw [e2]; exact ⟨hVT, zkp_V hV hh, hT, _, hpT⟩⟩
      · exact absurd h23 (by omega)
    | succ j ih =>
      intro i n M2 T hi hlo hVT hT hpT e1 e2
      have hb := zbs_lt T
      rw [zsl_step (f := j) (S := T)] at e1 e2
      refine zz_iload_n (pc := 20) E dX7_settle_20 rfl ?_
      refine zz_bipush (pc := 21) (v := nI 6) E dX7_settle_21 (by decide) ?_
      refine zn_icmp_ge (pc := 23) (tgt := 53) E dX7_settle_23 (by decide) (by omega) (by omega) (fun h23 => ?_) (fun h23 => ?_)
      · exact absurd h23 (by omega)
      · refine zz_iload_n (pc := 26) E dX7_settle_26 rfl ?_
        refine zn_if_eq (pc := 27) (tgt := 53) E dX7_settle_27 (by decide) (by omega) (fun h27 => ?_) (fun h27 => ?_)
        · rw [if_pos h27] at e1 e2
          refine zz_iload_n (pc := 53) E dX7_settle_53 rfl ?_
          exact zz_iret (pc := 54) E hr hlk dX7_settle_54 ⟨hlo, by show nI n = nI (zsl 6 S).1; rw [e1]; rfl, by show zI M2 (zsl 6 S).2 (zkp S hs); rw [e2]; exact ⟨hVT, zkp_V hV hh, hT, _, hpT⟩⟩
        · rw [if_neg h27] at e1 e2
          refine zz_aload_n (pc := 30) E dX7_settle_30 rfl ?_
          refine zz_iload_n (pc := 31) E dX7_settle_31 rfl ?_
          refine zz_cvV (pc := 32) E 0 (kkX7_removeClaims l G hJ _  T _ hT hb) (cwV 1 hts gX7_settle_X7_removeClaims rfl rfl rfl (by decide +kernel) ⟨Nat.le_of_ble_eq_true rfl, Nat.le_of_ble_eq_true rfl⟩) (by decide) rfl rfl rfl rfl (Nat.le_of_ble_eq_true rfl) dX7_settle_32 (fun M32 q32 => ?_)
          obtain ⟨f32, w32⟩ := q32
          refine zz_iload_n (pc := 35) E dX7_settle_35 rfl ?_
          refine zz_iload_n (pc := 36) E dX7_settle_36 rfl ?_
          refine zz_ciS (pc := 37) E (kkJ6_bitCount_0f7a4 l G hJ _ _ hb) (va_cwS 1 hts gX7_settle_J6_bitCount_0f7a4 rfl rfl rfl (by decide +kernel) ⟨Nat.le_of_ble_eq_true rfl, Nat.le_of_ble_eq_true rfl⟩) rfl rfl (Nat.le_of_ble_eq_true rfl) dX7_settle_37 (fun r37 M37 q37 => ?_)
          obtain ⟨rfl, rfl⟩ := q37
          refine zn_iadd (pc := 40) E dX7_settle_40 ?_
          refine zz_istore_n (pc := 41) (lv' := [(0, _), (1, _), (2, _), (3, _)]) E dX7_settle_41 (by decide) rfl ?_
          refine zz_aload_n (pc := 42) E dX7_settle_42 rfl ?_
          refine zz_ciV (pc := 43) E 0 (kkX7_brokenClaims l G hJ _  (zrmv T (zbs T)) (zrmv_V hVT _) w32) (cwV 0 hts gX7_settle_X7_brokenClaims rfl rfl rfl (by decide +kernel) ⟨Nat.le_of_ble_eq_true rfl, Nat.le_of_ble_eq_true rfl⟩) (by decide) rfl rfl rfl rfl (Nat.le_of_ble_eq_true rfl) dX7_settle_43 (fun r43 M43 q43 => ?_)
          obtain ⟨f43, rfl⟩ := q43
          refine zz_istore_n (pc := 46) (lv' := [(0, _), (1, _), (2, _), (3, _)]) E dX7_settle_46 (by decide) rfl ?_
          refine zn_inc (pc := 47) (lv' := [(0, _), (1, _), (2, _), (3, _)]) E dX7_settle_47 rfl (by decide) rfl ?_
          refine zz_goto (pc := 50) (tgt := 20) E dX7_settle_50 (by decide) ?_
          exact zz_to (ih (i + 1) (n + zpc (zbs T)) M43 (zrmv T (zbs T)) (by omega) (zlo_tr (zlo_tr hlo (zfr_lo f32 (by decide))) (zfr_lo f43 (by decide))) (zrmv_V hVT _) (ztab_fr w32 f43 (by decide) (by decide)) (zpast_fr (zpast_fr hpT f32 (by decide)) f43 (by decide)) (by rw [e1]; simp only; omega) e2) ⟨rfl, rfl, rfl, rfl, trivial⟩
  exact zz_to (key 6 0 0 M14 S (by omega) (zlo_tr (zfr_lo f8 zKP_lo) (zfr_lo f14 (by decide))) hV (ztab_fr (ztab_fr hS f8 (by decide) (by decide)) f14 (by decide) (by decide)) (zpast_fr w8 f14 (by decide)) (by omega) rfl) ⟨rfl, rfl, rfl, rfl, trivial⟩

theorem inX7_mightFrom_X7 : ∀ w ∈ u_ws RX7 TX7 8, w ∈ wsX7_mightFrom := by decide +kernel
theorem lkX7_mightFrom_12 : Cond.fieldLink RX7 12 RX7 "table" "LFirstSigns$Table;" ∈ wsX7_mightFrom := by decide +kernel
theorem lkX7_mightFrom_49 : Cond.fieldLink RX7 49 RX7 "forms" "LFirstSigns$Forms;" ∈ wsX7_mightFrom := by decide +kernel
set_option maxHeartbeats 4000000 in
set_option maxRecDepth 100000 in
theorem kkX7_mightFrom (l : Launch) (G : zz_C) (hJ : zz_J G) (M : zz_M) (S : Nat → Option Nat) (s0 : Nat) (k : Int32) (hV : zV S) (hS : ztab M 1 S) (hs0 : s0 < 6) (hk : -1 ≤ k) : Met l yX7_mightFrom wsX7_mightFrom ({ frames := 5, cells := 0, slots := 0, locals := 154 } : Room) (zz_P G M [.ref (G.2.2 0), .int (nI s0), .int k]) (zz_Qi G (fun r M1 => zfr (3 :: zKR) M M1 ∧ (∀ q, q < 6 → q ≠ s0 → M1 3 q = M 3 q) ∧ r = zkth (zmF S s0) k)) 0 0 (zz_A G) := by
  refine zz_start hJ (by decide) rfl (Nat.le_of_ble_eq_true rfl) ?_
  intro p e s m below meth c E hr hlk
  have hts := E.2.2.2.2.1
  show zz_Z p l e (headSpec wsX7_mightFrom ({ frames := 5, cells := 0, slots := 0, locals := 154 } : Room)).room s m ([.ref (G.2.2 0), .int (nI s0), .int k] : List Value).toArray below meth c 0 0 (MQ below (zz_Qi G (fun r M1 => zfr (3 :: zKR) M M1 ∧ (∀ q, q < 6 → q ≠ s0 → M1 3 q = M 3 q) ∧ r = zkth (zmF S s0) k)) ([.ref (G.2.2 0), .int (nI s0), .int k] : List Value).toArray s 0 0 (zz_A G)) 7 G (zz_A G) M 0 [(0, .ref (G.2.2 0)), (1, .int (nI s0)), (2, .int k)] []
  have hlast := zcl_last hs0
  refine zz_iconst (pc := 0) (v := nI 0) E dX7_mightFrom_0 (by decide) ?_
  refine zz_istore_n (pc := 1) (lv' := [(0, _), (1, _), (2, _), (3, _)]) E dX7_mightFrom_1 (by decide) rfl ?_
  refine zz_iload_n (pc := 2) E dX7_mightFrom_2 rfl ?_
  refine zz_iload_n (pc := 3) E dX7_mightFrom_3 rfl ?_
  refine zz_iload_n (pc := 4) E dX7_mightFrom_4 rfl ?_
  refine zn_imul (pc := 5) E dX7_mightFrom_5 ?_
  refine zn_iadd (pc := 6) E dX7_mightFrom_6 ?_
  refine zz_iload_n (pc := 7) E dX7_mightFrom_7 rfl ?_
  refine zz_iload_n (pc := 8) E dX7_mightFrom_8 rfl ?_
  refine zn_imul (pc := 9) E dX7_mightFrom_9 ?_
  refine zz_iload_n (pc := 10) E dX7_mightFrom_10 rfl ?_
  refine zn_imul (pc := 11) E dX7_mightFrom_11 ?_
  refine zn_iadd (pc := 12) E dX7_mightFrom_12 ?_
  refine zz_istore (pc := 13) (lv' := [(0, _), (1, _), (2, _), (3, _), (4, _)]) E dX7_mightFrom_13 (by decide) rfl ?_
  refine zz_iconst (pc := 15) (v := nI 1) E dX7_mightFrom_15 (by decide) ?_
  refine zz_istore (pc := 16) (lv' := [(0, _), (1, _), (2, _), (3, _), (4, _), (5, _)]) E dX7_mightFrom_16 (by decide) rfl ?_
  have key : ∀ (j i n : Nat) (M2 : zz_M), i + j = s0 + s0 * s0 + s0 * s0 * s0 → zfr (3 :: zKR) M M2 → (∀ q, q < 6 → q ≠ s0 → M2 3 q = M 3 q) → n = (((zcl s0).take i).filter (zmP S s0)).length → (∀ q, q < 2 ^ 31 → k = nI q → n ≤ q) → zz_Z p l e (headSpec wsX7_mightFrom ({ frames := 5, cells := 0, slots := 0, locals := 154 } : Room)).room s m ([.ref (G.2.2 0), .int (nI s0), .int k] : List Value).toArray below meth c 0 0 (MQ below (zz_Qi G (fun r M1 => zfr (3 :: zKR) M M1 ∧ (∀ q, q < 6 → q ≠ s0 → M1 3 q = M 3 q) ∧ r = zkth (zmF S s0) k)) ([.ref (G.2.2 0), .int (nI s0), .int k] : List Value).toArray s 0 0 (zz_A G)) 7 G (zz_A G) M2 18 [(0, .ref (G.2.2 0)), (1, .int (nI s0)), (2, .int k), (3, .int (nI n)), (4, .int (nI (s0 + s0 * s0 + s0 * s0 * s0))), (5, .int (nI (i + 1)))] [] := by
    intro j
    induction j with
    | zero =>
      intro i n M2 hi hf hq hn hkn
      have hall : n = (zmF S s0).length := by rw [hn, List.take_of_length_le (by rw [zcl_len]; omega)]; rfl
      refine zz_iload (pc := 18) E dX7_mightFrom_18 rfl ?_
      refine zz_iload (pc := 20) E dX7_mightFrom_20 rfl ?_
      refine zn_icmp_gt (pc := 22) (tgt := 81) E dX7_mightFrom_22 (by decide) (by omega) (by omega) (fun h22 => ?_) (fun h22 => ?_)
      · refine zz_iload_n (pc := 81) E dX7_mightFrom_81 rfl ?_
        refine zz_iconst (pc := 82) (v := -1) E dX7_mightFrom_82 (by decide) ?_
        refine zz_icmp_ne (pc := 83) (tgt := 90) E dX7_mightFrom_83 (by decide) (fun h83 => ?_) (fun h83 => ?_)
        · obtain ⟨q, hq31, hkq⟩ := zcl_neg hk h83
          have hr9 : zkth (zmF S s0) k = -9 := by
            unfold zkth
            rw [if_neg h83, hkq, nI_nat hq31, List.getElem?_eq_none (by rw [← hall]; exact hkn q hq31 hkq)]
            rfl
          refine zz_bipush (pc := 90) (v := -9) E dX7_mightFrom_90 (by decide) ?_
          exact zz_iret (pc := 92) E hr hlk dX7_mightFrom_92 ⟨hf, hq, hr9.symm⟩
        · have hr9 : zkth (zmF S s0) k = nI n := by unfold zkth; rw [if_pos h83, hall]
          refine zz_iload_n (pc := 86) E dX7_mightFrom_86 rfl ?_
          refine zz_goto (pc := 87) (tgt := 92) E dX7_mightFrom_87 (by decide) ?_
          exact zz_iret (pc := 92) E hr hlk dX7_mightFrom_92 ⟨hf, hq, hr9.symm⟩
      · exact absurd h22 (by omega)
    | succ j ih =>
      intro i n M2 hi hf hq hn hkn
      have hat := zcl_at (s := s0) (i := i) (by omega)
      obtain ⟨hrz, hr0, hr1⟩ := zcl_ok s0 hs0 i (by omega)
      have hVT : zV (zvu S (18 + s0) (some (zro (i + 1) s0))) := zV_clm hV hs0 (fun a ha => by cases ha; exact ⟨hrz, hr0⟩)
      have hnl : n ≤ i := by rw [hn]; refine Nat.le_trans (List.length_filter_le _ _) ?_; rw [List.length_take]; omega
      have hlt : ∀ q, zbb (zvu S (18 + s0) (some (zro (i + 1) s0))) s0 = some q → q < 2 ^ 31 := fun q hq => by have := zfs_lt hq; omega
      have hnx := zflt_take (P := zmP S s0) hat
      rw [← hn] at hnx
      refine zz_iload (pc := 18) E dX7_mightFrom_18 rfl ?_
      refine zz_iload (pc := 20) E dX7_mightFrom_20 rfl ?_
      refine zn_icmp_gt (pc := 22) (tgt := 81) E dX7_mightFrom_22 (by decide) (by omega) (by omega) (fun h22 => ?_) (fun h22 => ?_)
      · exact absurd h22 (by omega)
      · refine zz_iload (pc := 25) E dX7_mightFrom_25 rfl ?_
        refine zz_iload_n (pc := 27) E dX7_mightFrom_27 rfl ?_
        refine zz_ciS (pc := 28) E (kkX7_rowInOrder l G hJ _ _ _ (by omega) (by omega)) (va_cwS 2 hts gX7_mightFrom_X7_rowInOrder rfl rfl rfl (by decide +kernel) ⟨Nat.le_of_ble_eq_true rfl, Nat.le_of_ble_eq_true rfl⟩) rfl rfl (Nat.le_of_ble_eq_true rfl) dX7_mightFrom_28 (fun r28 M28 q28 => ?_)
        obtain ⟨rfl, rfl⟩ := q28
        refine zz_istore (pc := 31) (lv' := [(0, _), (1, _), (2, _), (3, _), (4, _), (5, _), (6, _)]) E dX7_mightFrom_31 (by decide) rfl ?_
        refine zz_aload_n (pc := 33) E dX7_mightFrom_33 rfl ?_
        refine zz_gf (pc := 34) E 0 (by decide) rfl rfl inX7_mightFrom_X7 0 (by decide) lkX7_mightFrom_12 (fun _ h => h) rfl dX7_mightFrom_34 ?_
        refine zz_iload_n (pc := 37) E dX7_mightFrom_37 rfl ?_
        refine zz_iload (pc := 38) E dX7_mightFrom_38 rfl ?_
        refine zz_cvV (pc := 40) E 1 (kkX6_setClaim l G hJ _ _ zz_T1 s0 _ hs0) (cwV 2 hts gX7_mightFrom_X6_setClaim rfl rfl rfl (by decide +kernel) ⟨Nat.le_of_ble_eq_true rfl, Nat.le_of_ble_eq_true rfl⟩) (by decide) rfl rfl rfl rfl (Nat.le_of_ble_eq_true rfl) dX7_mightFrom_40 (fun M40 q40 => ?_)
        obtain rfl := q40
        generalize hM3 : zz_up M2 (1 + 2) (upd (M2 (1 + 2)) s0 (nI (zro (i + 1) s0))) = M3
        have hT3 : ztab M3 1 (zvu S (18 + s0) (some (zro (i + 1) s0))) := by
          rw [← hM3]
          refine ⟨fun q hq1 => ?_, fun q hq1 => ?_⟩
          · rw [zz_up_ne _ _ (by omega), zvu_ne _ _ (by omega), hf (1 + 1) (by decide)]; exact hS.1 q hq1
          · rw [zz_up_same]
            by_cases e : q = s0
            · rw [e, upd_same, zvu_same]; rfl
            · rw [upd_ne _ _ e, zvu_ne _ _ (by omega)]
              have h9 := hq q hq1 e
              exact h9.trans (hS.2 q hq1)
        have hf3 : zfr (3 :: zKR) M M3 := by rw [← hM3]; exact zfr_up hf (by simp)
        have hq3 : ∀ q, q < 6 → q ≠ s0 → M3 3 q = M 3 q := fun q hq1 e => by rw [← hM3]; show zz_up M2 3 _ 3 q = _; rw [zz_up_same, upd_ne _ _ e]; exact hq q hq1 e
        clear hM3
        refine zz_aload_n (pc := 43) E dX7_mightFrom_43 rfl ?_
        refine zz_gf (pc := 44) E 0 (by decide) rfl rfl inX7_mightFrom_X7 5 (by decide) lkX7_mightFrom_49 (fun _ h => h) rfl dX7_mightFrom_44 ?_
        refine zz_aload_n (pc := 47) E dX7_mightFrom_47 rfl ?_
        refine zz_gf (pc := 48) E 0 (by decide) rfl rfl inX7_mightFrom_X7 0 (by decide) lkX7_mightFrom_12 (fun _ h => h) rfl dX7_mightFrom_48 ?_
        refine zz_cvV (pc := 51) E 22 (kkX1_find l G hJ _  _ hVT hT3) (cwV 1 hts gX7_mightFrom_X1_find rfl rfl rfl (by decide +kernel) ⟨Nat.le_of_ble_eq_true rfl, Nat.le_of_ble_eq_true rfl⟩) (by decide) rfl rfl rfl rfl (Nat.le_of_ble_eq_true rfl) dX7_mightFrom_51 (fun M51 q51 => ?_)
        obtain ⟨f51, w51⟩ := q51
        refine zz_aload_n (pc := 54) E dX7_mightFrom_54 rfl ?_
        refine zz_iload_n (pc := 55) E dX7_mightFrom_55 rfl ?_
        refine zz_ciV (pc := 56) E 0 (kkX7_breakingLetter l G hJ _  _ s0 hVT (ztab_fr hT3 f51 (by decide) (by decide)) w51 hs0) (cwV 1 hts gX7_mightFrom_X7_breakingLetter rfl rfl rfl (by decide +kernel) ⟨Nat.le_of_ble_eq_true rfl, Nat.le_of_ble_eq_true rfl⟩) (by decide) rfl rfl rfl rfl (Nat.le_of_ble_eq_true rfl) dX7_mightFrom_56 (fun r56 M56 q56 => ?_)
        obtain ⟨f56, rfl⟩ := q56
        have hf4 : zfr (3 :: zKR) M M56 := zfr_ct (zfr_ct hf3 f51 (ks := 3 :: zKR) (fun _ h => h) (by simp)) f56 (fun _ h => h) (by simp)
        have hq4 : ∀ q, q < 6 → q ≠ s0 → M56 3 q = M 3 q := fun q hq1 e => by rw [f56 3 (by decide), f51 3 (by decide)]; exact hq3 q hq1 e
        refine zz_bipush (pc := 59) (v := -9) E dX7_mightFrom_59 (by decide) ?_
        refine zz_icmp_ne (pc := 61) (tgt := 75) E dX7_mightFrom_61 (by decide) (fun h61 => ?_) (fun h61 => ?_)
        · have hp : ¬ zmP S s0 (zro (i + 1) s0) = true := fun q => h61 (by unfold zmP at q; rw [Option.isNone_iff_eq_none.mp q]; rfl)
          rw [if_neg hp] at hnx
          refine zn_inc (pc := 75) (lv' := [(0, _), (1, _), (2, _), (3, _), (4, _), (5, _), (6, _)]) E dX7_mightFrom_75 rfl (by decide) rfl ?_
          refine zz_goto (pc := 78) (tgt := 18) E dX7_mightFrom_78 (by decide) ?_
          exact zz_to (ih (i + 1) n M56 (by omega) hf4 hq4 hnx.symm hkn) ⟨rfl, rfl, rfl, rfl, rfl, rfl, trivial⟩
        · rw [zo_m9 hlt] at h61
          have hp : zmP S s0 (zro (i + 1) s0) = true := by unfold zmP; rw [h61]; rfl
          rw [if_pos hp] at hnx
          refine zz_iload_n (pc := 64) E dX7_mightFrom_64 rfl ?_
          refine zz_iload_n (pc := 65) E dX7_mightFrom_65 rfl ?_
          refine zz_icmp_ne (pc := 66) (tgt := 72) E dX7_mightFrom_66 (by decide) (fun h66 => ?_) (fun h66 => ?_)
          · refine zn_inc (pc := 72) (lv' := [(0, _), (1, _), (2, _), (3, _), (4, _), (5, _), (6, _)]) E dX7_mightFrom_72 rfl (by decide) rfl ?_
            refine zn_inc (pc := 75) (lv' := [(0, _), (1, _), (2, _), (3, _), (4, _), (5, _), (6, _)]) E dX7_mightFrom_75 rfl (by decide) rfl ?_
            refine zz_goto (pc := 78) (tgt := 18) E dX7_mightFrom_78 (by decide) ?_
            exact zz_to (ih (i + 1) (n + 1) M56 (by omega) hf4 hq4 hnx.symm (fun q hq1 hq2 => by have := hkn q hq1 hq2; rcases Nat.lt_or_ge n q with h | h; exact h; exact absurd (by rw [hq2, show n = q by omega]) h66)) ⟨rfl, rfl, rfl, rfl, rfl, rfl, trivial⟩
          · have hkn2 : k ≠ -1 := by
              rw [← h66]
              intro q
              have := congrArg Int32.toInt q
              rw [nI_toInt (by omega), show (-1 : Int32).toInt = -1 by decide] at this
              omega
            have hr9 : zkth (zmF S s0) k = nI (zro (i + 1) s0) := by
              unfold zkth
              rw [if_neg hkn2, ← h66, nI_nat (by omega), hn]
              unfold zmF
              rw [zflt_at hat hp]
              rfl
            refine zz_iload (pc := 69) E dX7_mightFrom_69 rfl ?_
            exact zz_iret (pc := 71) E hr hlk dX7_mightFrom_71 ⟨hf4, hq4, hr9.symm⟩
  exact zz_to (key (s0 + s0 * s0 + s0 * s0 * s0) 0 0 M (by omega) (zfr_rf _ _) (fun _ _ _ => rfl) rfl (fun q _ _ => Nat.zero_le _)) ⟨rfl, rfl, rfl, rfl, rfl, rfl, trivial⟩

theorem inX7_might_X7 : ∀ w ∈ u_ws RX7 TX7 8, w ∈ wsX7_might := by decide +kernel
theorem lkX7_might_12 : Cond.fieldLink RX7 12 RX7 "table" "LFirstSigns$Table;" ∈ wsX7_might := by decide +kernel
set_option maxHeartbeats 4000000 in
set_option maxRecDepth 100000 in
theorem kkX7_might (l : Launch) (G : zz_C) (hJ : zz_J G) (M : zz_M) (S : Nat → Option Nat) (hs : List (Nat → Option Nat)) (x k : Int32) (hI : zI M S hs) : Met l yX7_might wsX7_might ({ frames := 6, cells := 0, slots := 0, locals := 180 } : Room) (zz_P G M [.ref (G.2.2 0), .int x, .int k]) (zz_Qi G (fun r M1 => zlo M M1 ∧ zI M1 S hs ∧ r = sp_might S x k)) 0 0 (zz_A G) := by
  refine zz_start hJ (by decide) rfl (Nat.le_of_ble_eq_true rfl) ?_
  intro p e s m below meth c E hr hlk
  have hts := E.2.2.2.2.1
  show zz_Z p l e (headSpec wsX7_might ({ frames := 6, cells := 0, slots := 0, locals := 180 } : Room)).room s m ([.ref (G.2.2 0), .int x, .int k] : List Value).toArray below meth c 0 0 (MQ below (zz_Qi G (fun r M1 => zlo M M1 ∧ zI M1 S hs ∧ r = sp_might S x k)) ([.ref (G.2.2 0), .int x, .int k] : List Value).toArray s 0 0 (zz_A G)) 5 G (zz_A G) M 0 [(0, .ref (G.2.2 0)), (1, .int x), (2, .int k)] []
  obtain ⟨hV, hh, hS, nx, hp⟩ := id hI
  refine zz_iload_n (pc := 0) E dX7_might_0 rfl ?_
  refine zz_ciS (pc := 1) E (kkX7_isSign l G hJ _ _ ) (va_cwS 1 hts gX7_might_X7_isSign rfl rfl rfl (by decide +kernel) ⟨Nat.le_of_ble_eq_true rfl, Nat.le_of_ble_eq_true rfl⟩) rfl rfl (Nat.le_of_ble_eq_true rfl) dX7_might_1 (fun r1 M1 q1 => ?_)
  obtain ⟨rfl, rfl⟩ := q1
  refine zb_if_ne (pc := 4) (tgt := 9) E dX7_might_4 (by decide) (fun h4 => ?_) (fun h4 => ?_)
  · obtain ⟨s0, hs0, hxs⟩ := zp_in_of h4 (by decide)
    refine zz_iload_n (pc := 9) E dX7_might_9 rfl ?_
    refine zz_iconst (pc := 10) (v := -1) E dX7_might_10 (by decide) ?_
    refine zz_icmp_ge (pc := 11) (tgt := 17) E dX7_might_11 (by decide) (fun h11 => ?_) (fun h11 => ?_)
    · have hsp : sp_might S x k = zkth (zmF S s0) k := by unfold sp_might; rw [if_pos h4, if_pos h11, hxs, nI_nat (by omega)]
      refine zz_aload_n (pc := 17) E dX7_might_17 rfl ?_
      refine zz_gf (pc := 18) E 0 (by decide) rfl rfl inX7_might_X7 0 (by decide) lkX7_might_12 (fun _ h => h) rfl dX7_might_18 ?_
      refine zz_iload_n (pc := 21) E dX7_might_21 rfl ?_
      refine zz_eqi (y := nI s0) hxs ?_
      refine zz_ciV (pc := 22) E 1 (kkX6_claimOf l G hJ _ _ zz_T1 s0 hs0) (cwV 1 hts gX7_might_X6_claimOf rfl rfl rfl (by decide +kernel) ⟨Nat.le_of_ble_eq_true rfl, Nat.le_of_ble_eq_true rfl⟩) (by decide) rfl rfl rfl rfl (Nat.le_of_ble_eq_true rfl) dX7_might_22 (fun r22 M22 q22 => ?_)
      obtain ⟨rfl, rfl⟩ := q22
      refine zz_istore_n (pc := 25) (lv' := [(0, _), (1, _), (2, _), (3, _)]) E dX7_might_25 (by decide) rfl ?_
      refine zz_aload_n (pc := 26) E dX7_might_26 rfl ?_
      refine zz_iload_n (pc := 27) E dX7_might_27 rfl ?_
      refine zz_eqi (y := nI s0) hxs ?_
      refine zz_iload_n (pc := 28) E dX7_might_28 rfl ?_
      refine zz_ciV (pc := 29) E 0 (kkX7_mightFrom l G hJ _  S s0 k hV hS hs0 h11) (cwV 2 hts gX7_might_X7_mightFrom rfl rfl rfl (by decide +kernel) ⟨Nat.le_of_ble_eq_true rfl, Nat.le_of_ble_eq_true rfl⟩) (by decide) rfl rfl rfl rfl (Nat.le_of_ble_eq_true rfl) dX7_might_29 (fun r29 M29 q29 => ?_)
      obtain ⟨f29, w29, rfl⟩ := q29
      refine zz_istore (pc := 32) (lv' := [(0, _), (1, _), (2, _), (3, _), (4, _)]) E dX7_might_32 (by decide) rfl ?_
      refine zz_aload_n (pc := 34) E dX7_might_34 rfl ?_
      refine zz_gf (pc := 35) E 0 (by decide) rfl rfl inX7_might_X7 0 (by decide) lkX7_might_12 (fun _ h => h) rfl dX7_might_35 ?_
      refine zz_iload_n (pc := 38) E dX7_might_38 rfl ?_
      refine zz_eqi (y := nI s0) hxs ?_
      refine zz_iload_n (pc := 39) E dX7_might_39 rfl ?_
      refine zz_cvV (pc := 40) E 1 (kkX6_setClaim l G hJ _ _ zz_T1 s0 _ hs0) (cwV 2 hts gX7_might_X6_setClaim rfl rfl rfl (by decide +kernel) ⟨Nat.le_of_ble_eq_true rfl, Nat.le_of_ble_eq_true rfl⟩) (by decide) rfl rfl rfl rfl (Nat.le_of_ble_eq_true rfl) dX7_might_40 (fun M40 q40 => ?_)
      obtain rfl := q40
      refine zz_iload (pc := 43) E dX7_might_43 rfl ?_
      exact zz_iret (pc := 45) E hr hlk dX7_might_45 ⟨zlo_up (zfr_lo f29 (by decide)) (by decide), ⟨hV, hh, ⟨fun q hq => by rw [zz_up_ne _ _ (by omega), f29 (1 + 1) (by decide)]; exact hS.1 q hq, fun q hq => by rw [zz_up_same]; by_cases e : q = s0; rw [e, upd_same]; exact hS.2 s0 hs0; rw [upd_ne _ _ e]; exact (w29 q hq e).trans (hS.2 q hq)⟩, nx, zpast_fr (zpast_fr hp f29 (by decide)) (ks := [3]) (zfr_up (zfr_rf _ _) (by simp)) (by decide)⟩, by rw [hsp]⟩
    · have hsp : sp_might S x k = -2 := by unfold sp_might; rw [if_pos h4, if_neg h11]
      refine zz_bipush (pc := 14) (v := -2) E dX7_might_14 (by decide) ?_
      exact zz_iret (pc := 16) E hr hlk dX7_might_16 ⟨zI_lo_rf _, hI, by rw [hsp]⟩
  · have hsp : sp_might S x k = -1 := by unfold sp_might; rw [if_neg (by rw [h4]; simp)]
    refine zz_iconst (pc := 7) (v := -1) E dX7_might_7 (by decide) ?_
    exact zz_iret (pc := 8) E hr hlk dX7_might_8 ⟨zI_lo_rf _, hI, by rw [hsp]⟩

theorem inX7_undo_X7 : ∀ w ∈ u_ws RX7 TX7 8, w ∈ wsX7_undo := by decide +kernel
theorem lkX7_undo_21 : Cond.fieldLink RX7 21 RX7 "past" "LFirstSigns$Past;" ∈ wsX7_undo := by decide +kernel
theorem lkX7_undo_12 : Cond.fieldLink RX7 12 RX7 "table" "LFirstSigns$Table;" ∈ wsX7_undo := by decide +kernel
set_option maxHeartbeats 4000000 in
set_option maxRecDepth 100000 in
theorem kkX7_undo (l : Launch) (G : zz_C) (hJ : zz_J G) (M : zz_M) (S : Nat → Option Nat) (hs : List (Nat → Option Nat)) (k : Int32) (hI : zI M S hs) : Met l yX7_undo wsX7_undo ({ frames := 3, cells := 0, slots := 0, locals := 103 } : Room) (zz_P G M [.ref (G.2.2 0), .int k]) (zz_Qi G (fun r M1 => zlo M M1 ∧ r = (sp_undo S hs k).1 ∧ zI M1 (sp_undo S hs k).2.1 (sp_undo S hs k).2.2)) 0 0 (zz_A G) := by
  refine zz_start hJ (by decide) rfl (Nat.le_of_ble_eq_true rfl) ?_
  intro p e s m below meth c E hr hlk
  have hts := E.2.2.2.2.1
  show zz_Z p l e (headSpec wsX7_undo ({ frames := 3, cells := 0, slots := 0, locals := 103 } : Room)).room s m ([.ref (G.2.2 0), .int k] : List Value).toArray below meth c 0 0 (MQ below (zz_Qi G (fun r M1 => zlo M M1 ∧ r = (sp_undo S hs k).1 ∧ zI M1 (sp_undo S hs k).2.1 (sp_undo S hs k).2.2)) ([.ref (G.2.2 0), .int k] : List Value).toArray s 0 0 (zz_A G)) 2 G (zz_A G) M 0 [(0, .ref (G.2.2 0)), (1, .int k)] []
  obtain ⟨hV, hh, hS, nx, hp⟩ := id hI
  have hkl := hp.2.2.2.1
  refine zz_iload_n (pc := 0) E dX7_undo_0 rfl ?_
  refine zz_if_lt (pc := 1) (tgt := 15) E dX7_undo_1 (by decide) (fun h1 => ?_) (fun h1 => ?_)
  · have hsp : sp_undo S hs k = (-2, S, hs) := by unfold sp_undo; rw [if_neg (by rw [zp_in_f1 h1]; simp)]
    refine zz_bipush (pc := 15) (v := -2) E dX7_undo_15 (by decide) ?_
    exact zz_iret (pc := 17) E hr hlk dX7_undo_17 ⟨zI_lo_rf _, by rw [hsp], by rw [hsp]; exact hI⟩
  · refine zz_iload_n (pc := 4) E dX7_undo_4 rfl ?_
    refine zz_aload_n (pc := 5) E dX7_undo_5 rfl ?_
    refine zz_gf (pc := 6) E 0 (by decide) rfl rfl inX7_undo_X7 1 (by decide) lkX7_undo_21 (fun _ h => h) rfl dX7_undo_6 ?_
    refine zz_ciV (pc := 9) E 4 (kkX3_kept l G hJ _  ) (cwV 0 hts gX7_undo_X3_kept rfl rfl rfl (by decide +kernel) ⟨Nat.le_of_ble_eq_true rfl, Nat.le_of_ble_eq_true rfl⟩) (by decide) rfl rfl rfl rfl (Nat.le_of_ble_eq_true rfl) dX7_undo_9 (fun r9 M9 q9 => ?_)
    obtain ⟨rfl, rfl⟩ := q9
    refine zz_eqi (y := nI hs.length) hp.2.2.1 ?_
    refine zz_icmp_le (pc := 12) (tgt := 18) E dX7_undo_12 (by decide) (fun h12 => ?_) (fun h12 => ?_)
    · have hw4 := zp_w3t h1 h12 (by omega)
      obtain ⟨q, hq, hkq⟩ := zp_in_of hw4 (by omega)
      have hsp : sp_undo S hs k = (nI (hs.length - q), (S :: hs).getD q S, hs.drop q) := by unfold sp_undo; rw [if_pos hw4, hkq, nI_nat (by omega)]
      refine zz_aload_n (pc := 18) E dX7_undo_18 rfl ?_
      refine zz_gf (pc := 19) E 0 (by decide) rfl rfl inX7_undo_X7 1 (by decide) lkX7_undo_21 (fun _ h => h) rfl dX7_undo_19 ?_
      refine zz_aload_n (pc := 22) E dX7_undo_22 rfl ?_
      refine zz_gf (pc := 23) E 0 (by decide) rfl rfl inX7_undo_X7 0 (by decide) lkX7_undo_12 (fun _ h => h) rfl dX7_undo_23 ?_
      refine zz_iload_n (pc := 26) E dX7_undo_26 rfl ?_
      refine zz_eqi (y := nI q) hkq ?_
      refine zz_cvV (pc := 27) E 4 (kkX3_bringBack l G hJ _  nx hs S q hp hS (by omega)) (cwV 2 hts gX7_undo_X3_bringBack rfl rfl rfl (by decide +kernel) ⟨Nat.le_of_ble_eq_true rfl, Nat.le_of_ble_eq_true rfl⟩) (by decide) rfl rfl rfl rfl (Nat.le_of_ble_eq_true rfl) dX7_undo_27 (fun M27 q27 => ?_)
      obtain ⟨f27, w27, t27⟩ := q27
      refine zz_aload_n (pc := 30) E dX7_undo_30 rfl ?_
      refine zz_gf (pc := 31) E 0 (by decide) rfl rfl inX7_undo_X7 1 (by decide) lkX7_undo_21 (fun _ h => h) rfl dX7_undo_31 ?_
      refine zz_ciV (pc := 34) E 4 (kkX3_kept l G hJ _  ) (cwV 0 hts gX7_undo_X3_kept rfl rfl rfl (by decide +kernel) ⟨Nat.le_of_ble_eq_true rfl, Nat.le_of_ble_eq_true rfl⟩) (by decide) rfl rfl rfl rfl (Nat.le_of_ble_eq_true rfl) dX7_undo_34 (fun r34 M34 q34 => ?_)
      obtain ⟨rfl, rfl⟩ := q34
      refine zz_eqi (y := nI (hs.length - q)) (by obtain ⟨n2, hn2⟩ := w27; rw [hn2.2.2.1, List.length_drop]) ?_
      exact zz_iret (pc := 37) E hr hlk dX7_undo_37 ⟨zfr_lo f27 (by decide), by rw [hsp], by rw [hsp]; exact ⟨zV_getD hV hh q, fun T hT => hh T (List.mem_of_mem_drop hT), t27, w27⟩⟩
    · have hsp : sp_undo S hs k = (-2, S, hs) := by unfold sp_undo; rw [if_neg (by rw [zp_w3 h12 (by omega)]; simp)]
      refine zz_bipush (pc := 15) (v := -2) E dX7_undo_15 (by decide) ?_
      exact zz_iret (pc := 17) E hr hlk dX7_undo_17 ⟨zI_lo_rf _, by rw [hsp], by rw [hsp]; exact hI⟩

theorem inX7_many_X7 : ∀ w ∈ u_ws RX7 TX7 8, w ∈ wsX7_many := by decide +kernel
theorem lkX7_many_12 : Cond.fieldLink RX7 12 RX7 "table" "LFirstSigns$Table;" ∈ wsX7_many := by decide +kernel
theorem lkX7_many_35 : Cond.fieldLink RX7 35 RX7 "norms" "LFirstSigns$Norms;" ∈ wsX7_many := by decide +kernel
theorem lkX7_many_21 : Cond.fieldLink RX7 21 RX7 "past" "LFirstSigns$Past;" ∈ wsX7_many := by decide +kernel
set_option maxHeartbeats 4000000 in
set_option maxRecDepth 100000 in
theorem kkX7_many (l : Launch) (G : zz_C) (hJ : zz_J G) (M : zz_M) (S : Nat → Option Nat) (hs : List (Nat → Option Nat)) (w : Int32) (hI : zI M S hs) : Met l yX7_many wsX7_many ({ frames := 6, cells := 0, slots := 0, locals := 176 } : Room) (zz_P G M [.ref (G.2.2 0), .int w]) (zz_Qi G (fun r M1 => zlo M M1 ∧ zI M1 S hs ∧ r = sp_many S hs w)) 0 0 (zz_A G) := by
  refine zz_start hJ (by decide) rfl (Nat.le_of_ble_eq_true rfl) ?_
  intro p e s m below meth c E hr hlk
  have hts := E.2.2.2.2.1
  show zz_Z p l e (headSpec wsX7_many ({ frames := 6, cells := 0, slots := 0, locals := 176 } : Room)).room s m ([.ref (G.2.2 0), .int w] : List Value).toArray below meth c 0 0 (MQ below (zz_Qi G (fun r M1 => zlo M M1 ∧ zI M1 S hs ∧ r = sp_many S hs w)) ([.ref (G.2.2 0), .int w] : List Value).toArray s 0 0 (zz_A G)) 2 G (zz_A G) M 0 [(0, .ref (G.2.2 0)), (1, .int w)] []
  obtain ⟨hV, hh, hS, nx, hp⟩ := id hI
  refine zz_iload_n (pc := 0) E dX7_many_0 rfl ?_
  cases hw4 : zp_in w 5 with
  | false =>
    have hsp : sp_many S hs w = -2 := by unfold sp_many; rw [if_neg (by rw [hw4]; simp)]
    have hout : w.toInt < 0 ∨ 4 < w.toInt := by unfold zp_in at hw4; rw [decide_eq_false_iff_not] at hw4; omega
    refine zz_tableOut (tgt := 87) E dX7_many_1 hout (by decide) ?_
    refine zz_bipush (pc := 87) (v := -2) E dX7_many_87 (by decide) ?_
    exact zz_iret (pc := 89) E hr hlk dX7_many_89 ⟨zI_lo_rf _, hI, by rw [hsp]⟩
  | true =>
    obtain ⟨u, hu, hwu⟩ := zp_in_of hw4 (by decide)
    have hsp : sp_many S hs w = zmny S hs.length u := by unfold sp_many; rw [if_pos hw4, hwu, nI_nat (by omega)]
    refine zz_eqi (y := nI u) hwu ?_
    obtain rfl | rfl | rfl | rfl | rfl : u = 0 ∨ u = 1 ∨ u = 2 ∨ u = 3 ∨ u = 4 := by omega
    · refine zz_tableIn (tgt := 36) E dX7_many_1 (by decide) (by decide) (by rfl) (by decide) ?_
      refine zz_aload_n (pc := 36) E dX7_many_36 rfl ?_
      refine zz_gf (pc := 37) E 0 (by decide) rfl rfl inX7_many_X7 0 (by decide) lkX7_many_12 (fun _ h => h) rfl dX7_many_37 ?_
      refine zz_ciV (pc := 40) E 1 (kkX6_countRules l G hJ _ _ zz_T1) (cwV 0 hts gX7_many_X6_countRules rfl rfl rfl (by decide +kernel) ⟨Nat.le_of_ble_eq_true rfl, Nat.le_of_ble_eq_true rfl⟩) (by decide) rfl rfl rfl rfl (Nat.le_of_ble_eq_true rfl) dX7_many_40 (fun r40 M40 q40 => ?_)
      obtain ⟨rfl, rfl⟩ := q40
      exact zz_iret (pc := 43) E hr hlk dX7_many_43 ⟨zI_lo_rf _, hI, by rw [hsp]; show _ = nI (zct S 0 18); rw [zct_cnt (S := S) (i := 0) (fun j hj => ⟨by rw [Nat.zero_add]; exact hS.1 j hj, fun a ha => by rw [Nat.zero_add] at ha; have := zV_lt hV hj ha; omega⟩)]⟩
    · refine zz_tableIn (tgt := 44) E dX7_many_1 (by decide) (by decide) (by rfl) (by decide) ?_
      refine zz_aload_n (pc := 44) E dX7_many_44 rfl ?_
      refine zz_gf (pc := 45) E 0 (by decide) rfl rfl inX7_many_X7 0 (by decide) lkX7_many_12 (fun _ h => h) rfl dX7_many_45 ?_
      refine zz_ciV (pc := 48) E 1 (kkX6_countClaims l G hJ _ _ zz_T1) (cwV 0 hts gX7_many_X6_countClaims rfl rfl rfl (by decide +kernel) ⟨Nat.le_of_ble_eq_true rfl, Nat.le_of_ble_eq_true rfl⟩) (by decide) rfl rfl rfl rfl (Nat.le_of_ble_eq_true rfl) dX7_many_48 (fun r48 M48 q48 => ?_)
      obtain ⟨rfl, rfl⟩ := q48
      exact zz_iret (pc := 51) E hr hlk dX7_many_51 ⟨zI_lo_rf _, hI, by rw [hsp]; show _ = nI (zct S 18 6); rw [zct_cnt (S := S) (i := 18) (fun j hj => ⟨hS.2 j hj, fun a ha => by have := zV_lt2 hV hj ha; omega⟩)]⟩
    · refine zz_tableIn (tgt := 52) E dX7_many_1 (by decide) (by decide) (by rfl) (by decide) ?_
      refine zz_aload_n (pc := 52) E dX7_many_52 rfl ?_
      refine zz_gf (pc := 53) E 0 (by decide) rfl rfl inX7_many_X7 3 (by decide) lkX7_many_35 (fun _ h => h) rfl dX7_many_53 ?_
      refine zz_aload_n (pc := 56) E dX7_many_56 rfl ?_
      refine zz_gf (pc := 57) E 0 (by decide) rfl rfl inX7_many_X7 0 (by decide) lkX7_many_12 (fun _ h => h) rfl dX7_many_57 ?_
      refine zz_cvV (pc := 60) E 11 (kkX2_find l G hJ _  S hV hS) (cwV 1 hts gX7_many_X2_find rfl rfl rfl (by decide +kernel) ⟨Nat.le_of_ble_eq_true rfl, Nat.le_of_ble_eq_true rfl⟩) (by decide) rfl rfl rfl rfl (Nat.le_of_ble_eq_true rfl) dX7_many_60 (fun M60 q60 => ?_)
      obtain ⟨f60, w60⟩ := q60
      refine zz_aload_n (pc := 63) E dX7_many_63 rfl ?_
      refine zz_gf (pc := 64) E 0 (by decide) rfl rfl inX7_many_X7 3 (by decide) lkX7_many_35 (fun _ h => h) rfl dX7_many_64 ?_
      refine zz_ciV (pc := 67) E 11 (kkX2_countFound l G hJ _  ) (cwV 0 hts gX7_many_X2_countFound rfl rfl rfl (by decide +kernel) ⟨Nat.le_of_ble_eq_true rfl, Nat.le_of_ble_eq_true rfl⟩) (by decide) rfl rfl rfl rfl (Nat.le_of_ble_eq_true rfl) dX7_many_67 (fun r67 M67 q67 => ?_)
      obtain ⟨rfl, rfl⟩ := q67
      exact zz_iret (pc := 70) E hr hlk dX7_many_70 ⟨zfr_lo f60 (by decide), zI_fr hI f60 (by decide), by rw [hsp]; show _ = nI (zct (zit S 36) 0 6); rw [zct_cnt (S := zit S 36) (i := 0) (fun j hj => ⟨by rw [Nat.zero_add]; exact w60 j hj, fun a ha => by rw [Nat.zero_add] at ha; have := zit_bd hV 36 j hj a ha; omega⟩)]⟩
    · refine zz_tableIn (tgt := 71) E dX7_many_1 (by decide) (by decide) (by rfl) (by decide) ?_
      refine zz_aload_n (pc := 71) E dX7_many_71 rfl ?_
      refine zz_gf (pc := 72) E 0 (by decide) rfl rfl inX7_many_X7 1 (by decide) lkX7_many_21 (fun _ h => h) rfl dX7_many_72 ?_
      refine zz_ciV (pc := 75) E 4 (kkX3_kept l G hJ _  ) (cwV 0 hts gX7_many_X3_kept rfl rfl rfl (by decide +kernel) ⟨Nat.le_of_ble_eq_true rfl, Nat.le_of_ble_eq_true rfl⟩) (by decide) rfl rfl rfl rfl (Nat.le_of_ble_eq_true rfl) dX7_many_75 (fun r75 M75 q75 => ?_)
      obtain ⟨rfl, rfl⟩ := q75
      refine zz_eqi (y := nI hs.length) hp.2.2.1 ?_
      exact zz_iret (pc := 78) E hr hlk dX7_many_78 ⟨zI_lo_rf _, hI, by rw [hsp]; rfl⟩
    · refine zz_tableIn (tgt := 79) E dX7_many_1 (by decide) (by decide) (by rfl) (by decide) ?_
      refine zz_aload_n (pc := 79) E dX7_many_79 rfl ?_
      refine zz_ciV (pc := 80) E 0 (kkX7_brokenClaims l G hJ _  S hV hS) (cwV 0 hts gX7_many_X7_brokenClaims rfl rfl rfl (by decide +kernel) ⟨Nat.le_of_ble_eq_true rfl, Nat.le_of_ble_eq_true rfl⟩) (by decide) rfl rfl rfl rfl (Nat.le_of_ble_eq_true rfl) dX7_many_80 (fun r80 M80 q80 => ?_)
      obtain ⟨f80, rfl⟩ := q80
      refine zz_ciS (pc := 83) E (kkJ6_bitCount_0f7a4 l G hJ _ _ (zbs_lt S)) (va_cwS 1 hts gX7_many_J6_bitCount_0f7a4 rfl rfl rfl (by decide +kernel) ⟨Nat.le_of_ble_eq_true rfl, Nat.le_of_ble_eq_true rfl⟩) rfl rfl (Nat.le_of_ble_eq_true rfl) dX7_many_83 (fun r83 M83 q83 => ?_)
      obtain ⟨rfl, rfl⟩ := q83
      exact zz_iret (pc := 86) E hr hlk dX7_many_86 ⟨zfr_lo f80 (by decide), zI_fr hI f80 (by decide), by rw [hsp]; rfl⟩
