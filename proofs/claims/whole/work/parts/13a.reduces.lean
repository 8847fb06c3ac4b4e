/-! rows laid out in arrays, the first first -/
def zA (f : Nat → Int32) (L : List Nat) : Prop := ∀ (i a : Nat), L[i]? = some a → f i = nI a
theorem zA_app {f g : Nat → Int32} {L K : List Nat} (h : zA f L) (h1 : ∀ i, i < L.length → g i = f i) (h2 : ∀ i a, K[i]? = some a → g (L.length + i) = nI a) : zA g (L ++ K) := fun i a hi => by
  by_cases hl : i < L.length
  · rw [List.getElem?_append_left hl] at hi
    rw [h1 i hl]
    exact h i a hi
  · rw [List.getElem?_append_right (by omega)] at hi
    have := h2 _ a hi
    rw [show L.length + (i - L.length) = i by omega] at this
    exact this
theorem zA_take {f : Nat → Int32} {L : List Nat} (n : Nat) (h : zA f L) : zA f (L.take n) := fun i a hi => by
  rw [List.getElem?_take] at hi
  by_cases e : i < n
  · rw [if_pos e] at hi; exact h i a hi
  · rw [if_neg e] at hi; cases hi
/-- each s gives place to K -/
def zsub (s : Nat) (K : List Nat) (x : Nat) : List Nat := if x = s then K else [x]
theorem zred_sub {S : Nat → Option Nat} (hV : zV S) {s r : Nat} (hs : s < 6) (hr : S (18 + s) = some r) (L : List Nat) : zred S (L.flatMap (zsub s (zr r))) = zred S L := by
  unfold zred
  rw [List.flatMap_assoc]
  refine zfm_congr (fun x _ => ?_)
  unfold zsub
  by_cases e : x = s
  · rw [if_pos e, e, zfm_some hV hs hr]
  · rw [if_neg e, List.flatMap_cons, List.flatMap_nil, List.append_nil]
theorem zlen_le {f : Nat → List Nat} : ∀ {L : List Nat}, (∀ x ∈ L, 0 < (f x).length) → L.length ≤ (L.flatMap f).length
  | [], _ => Nat.le_refl _
  | x :: L, h => by
    rw [List.flatMap_cons, List.length_append, List.length_cons]
    have h1 := h x List.mem_cons_self
    have h2 := zlen_le (f := f) (L := L) (fun y hy => h y (List.mem_cons_of_mem _ hy))
    omega
theorem zred_ge {S : Nat → Option Nat} (hV : zV S) {L : List Nat} (h6 : ∀ x ∈ L, x < 6) : L.length ≤ (zred S L).length := zlen_le (fun x hx => zfm_pos hV x (h6 x hx))
theorem zred_id {S : Nat → Option Nat} (hV : zV S) : ∀ {L : List Nat}, (∀ x ∈ L, x < 6 ∧ S (18 + x) = none) → zred S L = L
  | [], _ => rfl
  | x :: L, h => by
    have h1 := h x List.mem_cons_self
    show zfm S x ++ zred S L = x :: L
    rw [zfm_none hV h1.1 h1.2, zred_id hV (fun y hy => h y (List.mem_cons_of_mem _ hy))]
    rfl
theorem zflat_take {f : Nat → List Nat} {L : List Nat} {i x : Nat} (h : L[i]? = some x) : (L.take (i + 1)).flatMap f = (L.take i).flatMap f ++ f x := by
  rw [List.take_succ, h, List.flatMap_append]
  show _ ++ ([x].flatMap f) = _
  rw [List.flatMap_cons, List.flatMap_nil, List.append_nil]
theorem zflat_len {f : Nat → List Nat} {L : List Nat} {i : Nat} : ((L.take i).flatMap f).length ≤ (L.flatMap f).length := by
  conv => rhs; rw [← List.take_append_drop i L]
  rw [List.flatMap_append, List.length_append]
  omega

set_option maxHeartbeats 4000000 in
set_option maxRecDepth 100000 in
theorem kkX8_lays (l : Launch) (G : zz_C) (hJ : zz_J G) (M : zz_M) (kk a mo : Nat) (L : List Nat) (hk : kk < 111) (hF : ∀ f, zz_F G kk f = .inl (G.2.1 0, 2400, .inl f)) (hz : zok a 6 mo = true) (hmo : mo < 10) (hL : zA (M kk) L) (hc : L.length + (zd a).length ≤ 2400) : Met l yX8_lays wsX8_lays ({ frames := 2, cells := 0, slots := 0, locals := 47 } : Room) (zz_P G M [.int (nI a), .ref (G.2.2 kk), .int (nI L.length)]) (zz_Qi G (fun r M1 => zfr [kk] M M1 ∧ r = nI (L ++ zr a).length ∧ zA (M1 kk) (L ++ zr a))) 0 0 (zz_A G) := by
  refine zz_start hJ (by decide) rfl (Nat.le_of_ble_eq_true rfl) ?_
  intro p e s m below meth c E hr hlk
  have hts := E.2.2.2.2.1
  show zz_Z p l e (headSpec wsX8_lays ({ frames := 2, cells := 0, slots := 0, locals := 47 } : Room)).room s m ([.int (nI a), .ref (G.2.2 kk), .int (nI L.length)] : List Value).toArray below meth c 0 0 (MQ below (zz_Qi G (fun r M1 => zfr [kk] M M1 ∧ r = nI (L ++ zr a).length ∧ zA (M1 kk) (L ++ zr a))) ([.int (nI a), .ref (G.2.2 kk), .int (nI L.length)] : List Value).toArray s 0 0 (zz_A G)) 5 G (zz_A G) M 0 [(0, .int (nI a)), (1, .ref (G.2.2 kk)), (2, .int (nI L.length))] []
  have ha : a < 2 ^ 31 := by
    have h1 := zok_lt hz (by omega)
    have h2 : 10 ^ mo ≤ 10 ^ 9 := Nat.pow_le_pow_right (by decide) (by omega)
    omega
  have hz20 : zok a 6 20 = true := zok_mono hz (Nat.le_refl 6) (by omega)
  refine zz_iload_n (pc := 0) E dX8_lays_0 rfl ?_
  refine zn_i2l (pc := 1) E dX8_lays_1 (by omega) ?_
  refine zz_bipush (pc := 2) (v := nI 6) E dX8_lays_2 (by decide) ?_
  refine zz_ciS (pc := 4) E (kkX8_digits l G hJ _ _ _ (by decide)) (va_cwS 2 hts gX8_lays_X8_digits rfl rfl rfl (by decide +kernel) ⟨Nat.le_of_ble_eq_true rfl, Nat.le_of_ble_eq_true rfl⟩) rfl rfl (Nat.le_of_ble_eq_true rfl) dX8_lays_4 (fun r4 M4 q4 => ?_)
  obtain ⟨rfl, rfl⟩ := q4
  refine zz_eqi (y := nI (zd a).length) (zdg_ok hz (by omega)) ?_
  refine zz_istore_n (pc := 7) (lv' := [(0, _), (1, _), (2, _), (3, _)]) E dX8_lays_7 (by decide) rfl ?_
  refine zz_iconst (pc := 8) (v := nI 0) E dX8_lays_8 (by decide) ?_
  refine zz_istore (pc := 9) (lv' := [(0, _), (1, _), (2, _), (3, _), (4, _)]) E dX8_lays_9 (by decide) rfl ?_
  have key : ∀ (j i : Nat) (M2 : zz_M), i + j = (zd a).length → zfr [kk] M M2 → zA (M2 kk) (L ++ (zr a).take i) → zz_Z p l e (headSpec wsX8_lays ({ frames := 2, cells := 0, slots := 0, locals := 47 } : Room)).room s m ([.int (nI a), .ref (G.2.2 kk), .int (nI L.length)] : List Value).toArray below meth c 0 0 (MQ below (zz_Qi G (fun r M1 => zfr [kk] M M1 ∧ r = nI (L ++ zr a).length ∧ zA (M1 kk) (L ++ zr a))) ([.int (nI a), .ref (G.2.2 kk), .int (nI L.length)] : List Value).toArray s 0 0 (zz_A G)) 5 G (zz_A G) M2 11 [(0, .int (nI a)), (1, .ref (G.2.2 kk)), (2, .int (nI L.length)), (3, .int (nI (zd a).length)), (4, .int (nI i))] [] := by
    intro j
    induction j with
    | zero =>
      intro i M2 hi hf hw
      rw [List.take_of_length_le (by rw [zr_len]; omega)] at hw
      refine zz_iload (pc := 11) E dX8_lays_11 rfl ?_
      refine zz_iload_n (pc := 13) E dX8_lays_13 rfl ?_
      refine zn_icmp_ge (pc := 14) (tgt := 37) E dX8_lays_14 (by decide) (by omega) (by omega) (fun h14 => ?_) (fun h14 => ?_)
      · refine zz_iload_n (pc := 37) E dX8_lays_37 rfl ?_
        refine zz_iload_n (pc := 38) E dX8_lays_38 rfl ?_
        refine zn_iadd (pc := 39) E dX8_lays_39 ?_
        exact zz_iret (pc := 40) E hr hlk dX8_lays_40 ⟨hf, by rw [List.length_append, zr_len], hw⟩
      · exact absurd h14 (by omega)
    | succ j ih =>
      intro i M2 hi hf hw
      have hat := zr_at (a := a) (j := i) (by omega)
      have hlen : (L ++ (zr a).take i).length = L.length + i := by rw [List.length_append, List.length_take, zr_len]; omega
      refine zz_iload (pc := 11) E dX8_lays_11 rfl ?_
      refine zz_iload_n (pc := 13) E dX8_lays_13 rfl ?_
      refine zn_icmp_ge (pc := 14) (tgt := 37) E dX8_lays_14 (by decide) (by omega) (by omega) (fun h14 => ?_) (fun h14 => ?_)
      · exact absurd h14 (by omega)
      · refine zz_aload_n (pc := 17) E dX8_lays_17 rfl ?_
        refine zz_iload_n (pc := 18) E dX8_lays_18 rfl ?_
        refine zz_iload (pc := 19) E dX8_lays_19 rfl ?_
        refine zn_iadd (pc := 21) E dX8_lays_21 ?_
        refine zz_iload_n (pc := 22) E dX8_lays_22 rfl ?_
        refine zn_i2l (pc := 23) E dX8_lays_23 (by omega) ?_
        refine zz_iload_n (pc := 24) E dX8_lays_24 rfl ?_
        refine zz_iload (pc := 25) E dX8_lays_25 rfl ?_
        refine zz_ciS (pc := 27) E (kkX8_digitAt l G hJ _ _ _ _ 6 (by omega) rfl (by omega) hz20) (va_cwS 3 hts gX8_lays_X8_digitAt rfl rfl rfl (by decide +kernel) ⟨Nat.le_of_ble_eq_true rfl, Nat.le_of_ble_eq_true rfl⟩) rfl rfl (Nat.le_of_ble_eq_true rfl) dX8_lays_27 (fun r27 M27 q27 => ?_)
        obtain ⟨rfl, rfl⟩ := q27
        refine zz_iast (pc := 30) E kk (L.length + i) (n := 2400) hk hF rfl (by omega) (by decide) dX8_lays_30 ?_
        refine zn_inc (pc := 31) (lv' := [(0, _), (1, _), (2, _), (3, _), (4, _)]) E dX8_lays_31 rfl (by decide) rfl ?_
        refine zz_goto (pc := 34) (tgt := 11) E dX8_lays_34 (by decide) ?_
        exact zz_to (ih (i + 1) _ (by omega) (zfr_up hf (by simp)) (by rw [zz_up_same, List.take_succ, hat, ← List.append_assoc]; exact zA_app hw (fun q hq => upd_ne _ _ (by omega)) (fun q b hb => by obtain ⟨h9, h8⟩ : q = 0 ∧ b = (zr a).getD i 0 := (by cases q with | zero => { exact ⟨rfl, (Option.some.inj hb).symm⟩ } | succ q => { cases hb }); rw [h9, hlen, Nat.add_zero, upd_same, h8]))) ⟨rfl, rfl, rfl, rfl, rfl, trivial⟩
  exact zz_to (key _ 0 M (Nat.zero_add _) (zfr_rf _ _) (by rw [List.take_zero, List.append_nil]; exact hL)) ⟨rfl, rfl, rfl, rfl, rfl, trivial⟩

theorem zF108 (G : zz_C) : ∀ f, zz_F G 108 f = .inl (G.2.1 0, 2400, .inl f) := fun _ => rfl
theorem zF109 (G : zz_C) : ∀ f, zz_F G 109 f = .inl (G.2.1 0, 2400, .inl f) := fun _ => rfl
theorem zF110 (G : zz_C) : ∀ f, zz_F G 110 f = .inl (G.2.1 0, 2400, .inl f) := fun _ => rfl

theorem inX8_reduces_X8 : ∀ w ∈ u_ws RX8 TX8 14, w ∈ wsX8_reduces := by decide +kernel
theorem lkX8_reduces_37 : Cond.fieldLink RX8 37 RX8 "scratch" "[I" ∈ wsX8_reduces := by decide +kernel
set_option maxHeartbeats 4000000 in
set_option maxRecDepth 100000 in
theorem kkX8_reduces (l : Launch) (G : zz_C) (hJ : zz_J G) (M : zz_M) (S : Nat → Option Nat) (kk : Nat) (L : List Nat) (hV : zV S) (hS : ztl M S) (hk : kk = 108 ∨ kk = 109) (hF : ∀ f, zz_F G kk f = .inl (G.2.1 0, 2400, .inl f)) (hL : zA (M kk) L) (h6 : ∀ x ∈ L, x < 6) (hc : (zred S L).length ≤ 2400) : Met l yX8_reduces wsX8_reduces ({ frames := 3, cells := 0, slots := 0, locals := 71 } : Room) (zz_P G M [.ref (G.2.2 100), .ref (G.2.2 kk), .int (nI L.length)]) (zz_Qi G (fun r M1 => zfr [kk, 110] M M1 ∧ r = nI (zred S L).length ∧ zA (M1 kk) (zred S L))) 0 0 (zz_A G) := by
  refine zz_start hJ (by decide) rfl (Nat.le_of_ble_eq_true rfl) ?_
  intro p e s m below meth c E hr hlk
  have hts := E.2.2.2.2.1
  show zz_Z p l e (headSpec wsX8_reduces ({ frames := 3, cells := 0, slots := 0, locals := 71 } : Room)).room s m ([.ref (G.2.2 100), .ref (G.2.2 kk), .int (nI L.length)] : List Value).toArray below meth c 0 0 (MQ below (zz_Qi G (fun r M1 => zfr [kk, 110] M M1 ∧ r = nI (zred S L).length ∧ zA (M1 kk) (zred S L))) ([.ref (G.2.2 100), .ref (G.2.2 kk), .int (nI L.length)] : List Value).toArray s 0 0 (zz_A G)) 7 G (zz_A G) M 0 [(0, .ref (G.2.2 100)), (1, .ref (G.2.2 kk)), (2, .int (nI L.length))] []
  refine zz_iload_n (pc := 0) E dX8_reduces_0 rfl ?_
  refine zz_istore_n (pc := 1) (lv' := [(0, _), (1, _), (2, _), (3, _)]) E dX8_reduces_1 (by decide) rfl ?_
  refine zz_iconst (pc := 2) (v := nI 5) E dX8_reduces_2 (by decide) ?_
  refine zz_istore (pc := 3) (lv' := [(0, _), (1, _), (2, _), (3, _), (4, _)]) E dX8_reduces_3 (by decide) rfl ?_
  have key : ∀ (s0 : Nat) (M2 : zz_M) (K : List Nat), s0 < 6 → zfr [kk, 110] M M2 → zA (M2 kk) K → (∀ x ∈ K, x < 6) → zred S K = zred S L → (∀ x ∈ K, s0 < x → S (18 + x) = none) → zz_Z p l e (headSpec wsX8_reduces ({ frames := 3, cells := 0, slots := 0, locals := 71 } : Room)).room s m ([.ref (G.2.2 100), .ref (G.2.2 kk), .int (nI L.length)] : List Value).toArray below meth c 0 0 (MQ below (zz_Qi G (fun r M1 => zfr [kk, 110] M M1 ∧ r = nI (zred S L).length ∧ zA (M1 kk) (zred S L))) ([.ref (G.2.2 100), .ref (G.2.2 kk), .int (nI L.length)] : List Value).toArray s 0 0 (zz_A G)) 7 G (zz_A G) M2 5 [(0, .ref (G.2.2 100)), (1, .ref (G.2.2 kk)), (3, .int (nI K.length)), (4, .int (nI s0))] [] := by
    intro s0
    induction s0 with
    | zero =>
      intro M2 K hs0 hf hw hk6 he hn
      have hid : zred S K = K := zred_id hV (fun x hx => ⟨hk6 x hx, by
        rcases Nat.eq_zero_or_pos x with h | h
        · rw [h]; exact zV_0 hV
        · exact hn x hx h⟩)
      refine zz_iload (pc := 5) E dX8_reduces_5 rfl ?_
      refine zn_if_le (pc := 7) (tgt := 118) E dX8_reduces_7 (by decide) (by omega) (fun h7 => ?_) (fun h7 => ?_)
      · refine zz_iload_n (pc := 118) E dX8_reduces_118 rfl ?_
        exact zz_iret (pc := 119) E hr hlk dX8_reduces_119 ⟨hf, by rw [← he, hid], by rw [← he, hid]; exact hw⟩
      · exact absurd h7 (by omega)
    | succ s0 ih =>
      intro M2 K hs0 hf hw hk6 he hn
      have hS2 : ztl M2 S := fun i hi => by rw [hf 101 (by simp; omega)]; exact hS i hi
      have hcl : M2 101 (18 + (s0 + 1)) = zo (S (18 + (s0 + 1))) := hS2 _ (by omega)
      have hlt : ∀ q, S (18 + (s0 + 1)) = some q → q < 2 ^ 31 := fun q hq => by have := zV_lt2 hV hs0 hq; omega
      have hKl := zred_ge hV hk6
      rw [he] at hKl
      refine zz_iload (pc := 5) E dX8_reduces_5 rfl ?_
      refine zn_if_le (pc := 7) (tgt := 118) E dX8_reduces_7 (by decide) (by omega) (fun h7 => ?_) (fun h7 => ?_)
      · exact absurd h7 (by omega)
      · refine zz_aload_n (pc := 10) E dX8_reduces_10 rfl ?_
        refine zz_iload (pc := 11) E dX8_reduces_11 rfl ?_
        refine zz_ciV (pc := 13) E 100 (kkX8_claimOf l G hJ _ _ (by omega)) (cwV 1 hts gX8_reduces_X8_claimOf rfl rfl rfl (by decide +kernel) ⟨Nat.le_of_ble_eq_true rfl, Nat.le_of_ble_eq_true rfl⟩) (by decide) rfl rfl rfl rfl (Nat.le_of_ble_eq_true rfl) dX8_reduces_13 (fun r13 M13 q13 => ?_)
        obtain ⟨rfl, rfl⟩ := q13
        refine zz_eqi (y := zo (S (18 + (s0 + 1)))) hcl ?_
        refine zz_bipush (pc := 16) (v := -9) E dX8_reduces_16 (by decide) ?_
        refine zz_icmp_eq (pc := 18) (tgt := 112) E dX8_reduces_18 (by decide) (fun h18 => ?_) (fun h18 => ?_)
        · rw [zo_m9 hlt] at h18
          refine zn_dec (pc := 112) (lv' := [(0, _), (1, _), (3, _), (4, _)]) E dX8_reduces_112 rfl (by decide) rfl ?_
          refine zz_goto (pc := 115) (tgt := 5) E dX8_reduces_115 (by decide) ?_
          exact zz_to (ih M2 K (by omega) hf hw hk6 he (fun x hx h => by by_cases e : x = s0 + 1; rw [e]; exact h18; exact hn x hx (by omega))) ⟨rfl, rfl, rfl, rfl, trivial⟩
        · obtain ⟨r, hrr⟩ : ∃ q, S (18 + (s0 + 1)) = some q := by
            cases hv2 : S (18 + (s0 + 1)) with
            | none => exact absurd (by rw [hv2]; rfl) h18
            | some q => exact ⟨q, rfl⟩
          obtain ⟨hc1, hc2, hc3, hc4⟩ := zV_claim hV hs0 hrr
          have hzr := zok_mono (hV.2 (s0 + 1) hs0 r hrr).1 (show s0 + 1 ≤ 6 by omega) (Nat.le_refl 3)
          have hK2 : ∀ x ∈ K.flatMap (zsub (s0 + 1) (zr r)), x < 6 := fun x hx => by
            obtain ⟨y, hy, hxy⟩ := List.mem_flatMap.mp hx
            unfold zsub at hxy
            by_cases e : y = s0 + 1
            · rw [if_pos e] at hxy; have := hc1 x hxy; omega
            · rw [if_neg e] at hxy; rw [List.mem_singleton.mp hxy]; exact hk6 y hy
          have hlen2 := zred_ge hV hK2
          rw [zred_sub hV hs0 hrr, he] at hlen2
          refine zz_iconst (pc := 21) (v := nI 0) E dX8_reduces_21 (by decide) ?_
          refine zz_istore (pc := 22) (lv' := [(0, _), (1, _), (3, _), (4, _), (5, _)]) E dX8_reduces_22 (by decide) rfl ?_
          refine zz_iconst (pc := 24) (v := nI 0) E dX8_reduces_24 (by decide) ?_
          refine zz_istore (pc := 25) (lv' := [(0, _), (1, _), (3, _), (4, _), (5, _), (6, _)]) E dX8_reduces_25 (by decide) rfl ?_
          have key2 : ∀ (j2 i2 : Nat) (M3 : zz_M), i2 + j2 = K.length → zfr [kk, 110] M M3 → zA (M3 kk) K → zA (M3 110) ((K.take i2).flatMap (zsub (s0 + 1) (zr r))) → zz_Z p l e (headSpec wsX8_reduces ({ frames := 3, cells := 0, slots := 0, locals := 71 } : Room)).room s m ([.ref (G.2.2 100), .ref (G.2.2 kk), .int (nI L.length)] : List Value).toArray below meth c 0 0 (MQ below (zz_Qi G (fun r M1 => zfr [kk, 110] M M1 ∧ r = nI (zred S L).length ∧ zA (M1 kk) (zred S L))) ([.ref (G.2.2 100), .ref (G.2.2 kk), .int (nI L.length)] : List Value).toArray s 0 0 (zz_A G)) 7 G (zz_A G) M3 27 [(0, .ref (G.2.2 100)), (1, .ref (G.2.2 kk)), (3, .int (nI K.length)), (4, .int (nI (s0 + 1))), (5, .int (nI ((K.take i2).flatMap (zsub (s0 + 1) (zr r))).length)), (6, .int (nI i2))] [] := by
            intro j2
            induction j2 with
            | zero =>
              intro i2 M3 hi2 hf3 hw3 hq3
              rw [List.take_of_length_le (by omega)] at hq3 ⊢
              generalize hQ : K.flatMap (zsub (s0 + 1) (zr r)) = Q at hq3 hK2 hlen2 ⊢
              have hQr : zred S Q = zred S L := by rw [← hQ, zred_sub hV hs0 hrr, he]
              refine zz_iload (pc := 27) E dX8_reduces_27 rfl ?_
              refine zz_iload_n (pc := 29) E dX8_reduces_29 rfl ?_
              refine zn_icmp_ge (pc := 30) (tgt := 82) E dX8_reduces_30 (by decide) (by omega) (by omega) (fun h30 => ?_) (fun h30 => ?_)
              · refine zz_iconst (pc := 82) (v := nI 0) E dX8_reduces_82 (by decide) ?_
                refine zz_istore (pc := 83) (lv' := [(0, _), (1, _), (3, _), (4, _), (5, _), (6, _)]) E dX8_reduces_83 (by decide) rfl ?_
                have key3 : ∀ (j3 i3 : Nat) (M4 : zz_M), i3 + j3 = Q.length → zfr [kk, 110] M M4 → zA (M4 110) Q → zA (M4 kk) (Q.take i3) → zz_Z p l e (headSpec wsX8_reduces ({ frames := 3, cells := 0, slots := 0, locals := 71 } : Room)).room s m ([.ref (G.2.2 100), .ref (G.2.2 kk), .int (nI L.length)] : List Value).toArray below meth c 0 0 (MQ below (zz_Qi G (fun r M1 => zfr [kk, 110] M M1 ∧ r = nI (zred S L).length ∧ zA (M1 kk) (zred S L))) ([.ref (G.2.2 100), .ref (G.2.2 kk), .int (nI L.length)] : List Value).toArray s 0 0 (zz_A G)) 7 G (zz_A G) M4 85 [(0, .ref (G.2.2 100)), (1, .ref (G.2.2 kk)), (4, .int (nI (s0 + 1))), (5, .int (nI Q.length)), (6, .int (nI i3))] [] := by
                  intro j3
                  induction j3 with
                  | zero =>
                    intro i3 M4 hi3 hf4 hw4 hq4
                    rw [List.take_of_length_le (by omega)] at hq4
                    refine zz_iload (pc := 85) E dX8_reduces_85 rfl ?_
                    refine zz_iload (pc := 87) E dX8_reduces_87 rfl ?_
                    refine zn_icmp_ge (pc := 89) (tgt := 109) E dX8_reduces_89 (by decide) (by omega) (by omega) (fun h89 => ?_) (fun h89 => ?_)
                    · refine zz_iload (pc := 109) E dX8_reduces_109 rfl ?_
                      refine zz_istore_n (pc := 111) (lv' := [(0, _), (1, _), (3, _), (4, _), (5, _), (6, _)]) E dX8_reduces_111 (by decide) rfl ?_
                      refine zn_dec (pc := 112) (lv' := [(0, _), (1, _), (3, _), (4, _), (5, _), (6, _)]) E dX8_reduces_112 rfl (by decide) rfl ?_
                      refine zz_goto (pc := 115) (tgt := 5) E dX8_reduces_115 (by decide) ?_
                      exact zz_to (ih M4 Q (by omega) hf4 hq4 hK2 hQr (fun x hx h => by rw [← hQ] at hx; obtain ⟨y, hy, hxy⟩ := List.mem_flatMap.mp hx; unfold zsub at hxy; by_cases e : y = s0 + 1; rw [if_pos e] at hxy; exact absurd (hc1 x hxy) (by omega); rw [if_neg e] at hxy; rw [List.mem_singleton.mp hxy]; rw [List.mem_singleton.mp hxy] at h; exact hn y hy (by omega))) ⟨rfl, rfl, rfl, rfl, trivial⟩
                    · exact absurd h89 (by omega)
                  | succ j3 ih3 =>
                    intro i3 M4 hi3 hf4 hw4 hq4
                    obtain ⟨y, hy⟩ : ∃ a, Q[i3]? = some a := ⟨_, List.getElem?_eq_getElem (by omega)⟩
                    have hlq : (Q.take i3).length = i3 := by rw [List.length_take]; omega
                    refine zz_iload (pc := 85) E dX8_reduces_85 rfl ?_
                    refine zz_iload (pc := 87) E dX8_reduces_87 rfl ?_
                    refine zn_icmp_ge (pc := 89) (tgt := 109) E dX8_reduces_89 (by decide) (by omega) (by omega) (fun h89 => ?_) (fun h89 => ?_)
                    · exact absurd h89 (by omega)
                    · refine zz_aload_n (pc := 92) E dX8_reduces_92 rfl ?_
                      refine zz_iload (pc := 93) E dX8_reduces_93 rfl ?_
                      refine zz_aload_n (pc := 95) E dX8_reduces_95 rfl ?_
                      refine zz_gf (pc := 96) E 100 (by decide) rfl rfl inX8_reduces_X8 13 (by decide) lkX8_reduces_37 (fun _ h => h) rfl dX8_reduces_96 ?_
                      refine zz_iload (pc := 99) E dX8_reduces_99 rfl ?_
                      refine zz_iald (pc := 101) E 110 (i3) (n := 2400) (by decide) rfl rfl (by omega) (by decide) dX8_reduces_101 ?_
                      refine zz_eqi (y := nI y) (hw4 i3 y hy) ?_
                      refine zz_iast (pc := 102) E kk (_) (n := 2400) (by omega) hF rfl (by omega) (by decide) dX8_reduces_102 ?_
                      refine zn_inc (pc := 103) (lv' := [(0, _), (1, _), (4, _), (5, _), (6, _)]) E dX8_reduces_103 rfl (by decide) rfl ?_
                      refine zz_goto (pc := 106) (tgt := 85) E dX8_reduces_106 (by decide) ?_
                      exact zz_to (ih3 (i3 + 1) _ (by omega) (zfr_up hf4 (by simp)) (by rw [zz_up_ne _ _ (by omega)]; exact hw4) (by rw [zz_up_same, List.take_succ, hy]; exact zA_app hq4 (fun q hq => upd_ne _ _ (by omega)) (fun q b hb => by obtain ⟨h9, h8⟩ : q = 0 ∧ b = y := (by cases q with | zero => { exact ⟨rfl, (Option.some.inj hb).symm⟩ } | succ q => { cases hb }); rw [h9, Nat.add_zero, hlq, upd_same, h8]))) ⟨rfl, rfl, rfl, rfl, rfl, trivial⟩
                exact zz_to (key3 Q.length 0 M3 (Nat.zero_add _) hf3 hq3 (fun i a hi => by cases hi)) ⟨rfl, rfl, rfl, rfl, rfl, trivial⟩
              · exact absurd h30 (by omega)
            | succ j2 ih2 =>
              intro i2 M3 hi2 hf3 hw3 hq3
              obtain ⟨x, hx⟩ : ∃ a, K[i2]? = some a := ⟨_, List.getElem?_eq_getElem (by omega)⟩
              have hx6 := hk6 x (List.mem_of_getElem? hx)
              have hwx := hw3 i2 x hx
              have htk := zflat_take (f := zsub (s0 + 1) (zr r)) hx
              have hle := zflat_len (f := zsub (s0 + 1) (zr r)) (L := K) (i := i2 + 1)
              rw [htk, List.length_append] at hle
              have h101 : M3 101 (18 + (s0 + 1)) = nI r := by rw [hf3 101 (by simp; omega), hS _ (by omega), hrr]; rfl
              refine zz_iload (pc := 27) E dX8_reduces_27 rfl ?_
              refine zz_iload_n (pc := 29) E dX8_reduces_29 rfl ?_
              refine zn_icmp_ge (pc := 30) (tgt := 82) E dX8_reduces_30 (by decide) (by omega) (by omega) (fun h30 => ?_) (fun h30 => ?_)
              · exact absurd h30 (by omega)
              · refine zz_aload_n (pc := 33) E dX8_reduces_33 rfl ?_
                refine zz_iload (pc := 34) E dX8_reduces_34 rfl ?_
                refine zz_iald (pc := 36) E kk (i2) (n := 2400) (by omega) (hF _) rfl (by omega) (by decide) dX8_reduces_36 ?_
                refine zz_eqi (y := nI x) hwx ?_
                refine zz_iload (pc := 37) E dX8_reduces_37 rfl ?_
                refine zn_icmp_ne (pc := 39) (tgt := 62) E dX8_reduces_39 (by decide) (by omega) (by omega) (fun h39 => ?_) (fun h39 => ?_)
                · have hsx : zsub (s0 + 1) (zr r) x = [x] := if_neg h39
                  rw [hsx] at htk hle
                  rw [List.length_singleton] at hle
                  refine zz_aload_n (pc := 62) E dX8_reduces_62 rfl ?_
                  refine zz_gf (pc := 63) E 100 (by decide) rfl rfl inX8_reduces_X8 13 (by decide) lkX8_reduces_37 (fun _ h => h) rfl dX8_reduces_63 ?_
                  refine zz_iload (pc := 66) E dX8_reduces_66 rfl ?_
                  refine zz_aload_n (pc := 68) E dX8_reduces_68 rfl ?_
                  refine zz_iload (pc := 69) E dX8_reduces_69 rfl ?_
                  refine zz_iald (pc := 71) E kk (i2) (n := 2400) (by omega) (hF _) rfl (by omega) (by decide) dX8_reduces_71 ?_
                  refine zz_eqi (y := nI x) hwx ?_
                  refine zz_iast (pc := 72) E 110 (((K.take i2).flatMap (zsub (s0 + 1) (zr r))).length) (n := 2400) (by decide) (fun _ => rfl) rfl (by omega) (by decide) dX8_reduces_72 ?_
                  refine zn_inc (pc := 73) (lv' := [(0, _), (1, _), (3, _), (4, _), (5, _), (6, _)]) E dX8_reduces_73 rfl (by decide) rfl ?_
                  refine zn_inc (pc := 76) (lv' := [(0, _), (1, _), (3, _), (4, _), (5, _), (6, _)]) E dX8_reduces_76 rfl (by decide) rfl ?_
                  refine zz_goto (pc := 79) (tgt := 27) E dX8_reduces_79 (by decide) ?_
                  exact zz_to (ih2 (i2 + 1) _ (by omega) (zfr_up hf3 (by simp)) (by rw [zz_up_ne _ _ (by omega)]; exact hw3) (by rw [htk, zz_up_same]; exact zA_app hq3 (fun q hq => upd_ne _ _ (by omega)) (fun q b hb => by obtain ⟨h9, h8⟩ : q = 0 ∧ b = x := (by cases q with | zero => { exact ⟨rfl, (Option.some.inj hb).symm⟩ } | succ q => { cases hb }); rw [h9, h8]; exact upd_same _ _ _))) ⟨rfl, rfl, rfl, rfl, by rw [htk, List.length_append]; rfl, rfl, trivial⟩
                · have hsx : zsub (s0 + 1) (zr r) x = zr r := if_pos h39
                  rw [hsx] at htk hle
                  rw [zr_len] at hle
                  refine zz_aload_n (pc := 42) E dX8_reduces_42 rfl ?_
                  refine zz_iload (pc := 43) E dX8_reduces_43 rfl ?_
                  refine zz_ciV (pc := 45) E 100 (kkX8_claimOf l G hJ _ _ (by omega)) (cwV 1 hts gX8_reduces_X8_claimOf rfl rfl rfl (by decide +kernel) ⟨Nat.le_of_ble_eq_true rfl, Nat.le_of_ble_eq_true rfl⟩) (by decide) rfl rfl rfl rfl (Nat.le_of_ble_eq_true rfl) dX8_reduces_45 (fun r45 M45 q45 => ?_)
                  obtain ⟨rfl, rfl⟩ := q45
                  refine zz_eqi (y := nI r) h101 ?_
                  refine zz_aload_n (pc := 48) E dX8_reduces_48 rfl ?_
                  refine zz_gf (pc := 49) E 100 (by decide) rfl rfl inX8_reduces_X8 13 (by decide) lkX8_reduces_37 (fun _ h => h) rfl dX8_reduces_49 ?_
                  refine zz_iload (pc := 52) E dX8_reduces_52 rfl ?_
                  refine zz_ciS (pc := 54) E (kkX8_lays l G hJ _  110 r 3 _ (by decide) (zF110 G) hzr (by decide) hq3 (by omega)) (va_cwS 3 hts gX8_reduces_X8_lays rfl rfl rfl (by decide +kernel) ⟨Nat.le_of_ble_eq_true rfl, Nat.le_of_ble_eq_true rfl⟩) rfl rfl (Nat.le_of_ble_eq_true rfl) dX8_reduces_54 (fun r54 M54 q54 => ?_)
                  obtain ⟨f54, rfl, w54⟩ := q54
                  refine zz_istore (pc := 57) (lv' := [(0, _), (1, _), (3, _), (4, _), (5, _), (6, _)]) E dX8_reduces_57 (by decide) rfl ?_
                  refine zz_goto (pc := 59) (tgt := 76) E dX8_reduces_59 (by decide) ?_
                  refine zn_inc (pc := 76) (lv' := [(0, _), (1, _), (3, _), (4, _), (5, _), (6, _)]) E dX8_reduces_76 rfl (by decide) rfl ?_
                  refine zz_goto (pc := 79) (tgt := 27) E dX8_reduces_79 (by decide) ?_
                  rw [← htk] at w54
                  exact zz_to (ih2 (i2 + 1) M54 (by omega) (zfr_ct hf3 f54 (fun _ h => h) (by simp)) (by rw [f54 kk (by simp; omega)]; exact hw3) w54) ⟨rfl, rfl, rfl, rfl, by rw [htk]; rfl, rfl, trivial⟩
          exact zz_to (key2 K.length 0 M2 (Nat.zero_add _) hf hw (fun i a hi => by cases hi)) ⟨rfl, rfl, rfl, rfl, rfl, rfl, trivial⟩
  exact zz_to (key 5 M L (by decide) (zfr_rf _ _) hL h6 rfl (fun x hx h => absurd (h6 x hx) (by omega))) ⟨rfl, rfl, rfl, rfl, trivial⟩
