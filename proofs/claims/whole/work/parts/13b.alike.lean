/-- two rows side by side -/
def zal (M : zz_M) (A B : List Nat) : Prop := M 100 2 = nI A.length ∧ zA (M 108) A ∧ M 100 3 = nI B.length ∧ zA (M 109) B ∧ A.length ≤ 2400 ∧ B.length ≤ 2400 ∧ (∀ x ∈ A, x < 6) ∧ ∀ x ∈ B, x < 6
theorem zred_6 {S : Nat → Option Nat} (hV : zV S) {L : List Nat} (h6 : ∀ x ∈ L, x < 6) : ∀ y ∈ zred S L, y < 6 := fun y hy => by
  obtain ⟨x, hx, hxy⟩ := List.mem_flatMap.mp hy
  have h1 := h6 x hx
  have h2 := (zfm_mem hV x h1 y hxy).1
  omega
def zrv (b : Bool) (L : List Nat) : List Nat := if b = true then L.reverse else L
theorem zrv_len (b : Bool) (L : List Nat) : (zrv b L).length = L.length := by
  unfold zrv
  cases b with
  | true => rw [if_pos rfl, List.length_reverse]
  | false => rw [if_neg (by simp)]
theorem zrv_mem {b : Bool} {L : List Nat} {x : Nat} (h : x ∈ zrv b L) : x ∈ L := by
  unfold zrv at h
  cases b with
  | true => rw [if_pos rfl, List.mem_reverse] at h; exact h
  | false => rw [if_neg (by simp)] at h; exact h
theorem zrv_t {L : List Nat} {i a : Nat} (h : (zrv true L)[i]? = some a) : L[L.length - 1 - i]? = some a := by
  unfold zrv at h
  rw [if_pos rfl] at h
  have hl := (List.getElem?_eq_some_iff.mp h).1
  rw [List.length_reverse] at hl
  rw [List.getElem?_reverse hl] at h
  exact h
theorem zrv_f {L : List Nat} {i a : Nat} (h : (zrv false L)[i]? = some a) : L[i]? = some a := by
  unfold zrv at h
  rw [if_neg (by simp)] at h
  exact h

theorem inX8_alikeFrom_X8 : ∀ w ∈ u_ws RX8 TX8 14, w ∈ wsX8_alikeFrom := by decide +kernel
theorem lkX8_alikeFrom_136 : Cond.fieldLink RX8 136 RX8 "oneMany" "I" ∈ wsX8_alikeFrom := by decide +kernel
theorem lkX8_alikeFrom_139 : Cond.fieldLink RX8 139 RX8 "otherMany" "I" ∈ wsX8_alikeFrom := by decide +kernel
theorem lkX8_alikeFrom_31 : Cond.fieldLink RX8 31 RX8 "one" "[I" ∈ wsX8_alikeFrom := by decide +kernel
theorem lkX8_alikeFrom_34 : Cond.fieldLink RX8 34 RX8 "other" "[I" ∈ wsX8_alikeFrom := by decide +kernel
set_option maxHeartbeats 4000000 in
set_option maxRecDepth 100000 in
theorem kkX8_alikeFrom (l : Launch) (G : zz_C) (hJ : zz_J G) (M : zz_M) (A B : List Nat) (b : Bool) (hA : zal M A B) : Met l yX8_alikeFrom wsX8_alikeFrom ({ frames := 0, cells := 0, slots := 0, locals := 0 } : Room) (zz_P G M [.ref (G.2.2 100), .int (zz_b b)]) (zz_Qi G (fun r M1 => M = M1 ∧ r = nI (zcp (zrv b A) (zrv b B)))) 0 0 (zz_A G) := by
  refine zz_start hJ (by decide) rfl (Nat.le_of_ble_eq_true rfl) ?_
  intro p e s m below meth c E hr hlk
  have hts := E.2.2.2.2.1
  show zz_Z p l e (headSpec wsX8_alikeFrom ({ frames := 0, cells := 0, slots := 0, locals := 0 } : Room)).room s m ([.ref (G.2.2 100), .int (zz_b b)] : List Value).toArray below meth c 0 0 (MQ below (zz_Qi G (fun r M1 => M = M1 ∧ r = nI (zcp (zrv b A) (zrv b B)))) ([.ref (G.2.2 100), .int (zz_b b)] : List Value).toArray s 0 0 (zz_A G)) 5 G (zz_A G) M 0 [(0, .ref (G.2.2 100)), (1, .int (zz_b b))] []
  obtain ⟨g1, g2, g3, g4, g5, g6, g7, g8⟩ := id hA
  refine zz_iconst (pc := 0) (v := nI 0) E dX8_alikeFrom_0 (by decide) ?_
  refine zz_istore_n (pc := 1) (lv' := [(0, _), (1, _), (2, _)]) E dX8_alikeFrom_1 (by decide) rfl ?_
  have key : ∀ (j i : Nat), i + j = min A.length B.length → i + zcp ((zrv b A).drop i) ((zrv b B).drop i) = zcp (zrv b A) (zrv b B) → zz_Z p l e (headSpec wsX8_alikeFrom ({ frames := 0, cells := 0, slots := 0, locals := 0 } : Room)).room s m ([.ref (G.2.2 100), .int (zz_b b)] : List Value).toArray below meth c 0 0 (MQ below (zz_Qi G (fun r M1 => M = M1 ∧ r = nI (zcp (zrv b A) (zrv b B)))) ([.ref (G.2.2 100), .int (zz_b b)] : List Value).toArray s 0 0 (zz_A G)) 5 G (zz_A G) M 2 [(0, .ref (G.2.2 100)), (1, .int (zz_b b)), (2, .int (nI i))] [] := by
    intro j
    induction j with
    | zero =>
      intro i hi hz
      rw [zcp_end (by rw [zrv_len, zrv_len]; omega)] at hz
      refine zz_iload_n (pc := 2) E dX8_alikeFrom_2 rfl ?_
      refine zz_aload_n (pc := 3) E dX8_alikeFrom_3 rfl ?_
      refine zz_gf (pc := 4) E 100 (by decide) rfl rfl inX8_alikeFrom_X8 9 (by decide) lkX8_alikeFrom_136 (fun _ h => h) rfl dX8_alikeFrom_4 ?_
      refine zz_eqi (y := nI A.length) g1 ?_
      refine zn_icmp_ge (pc := 7) (tgt := 77) E dX8_alikeFrom_7 (by decide) (by omega) (by omega) (fun h7 => ?_) (fun h7 => ?_)
      · refine zz_iload_n (pc := 77) E dX8_alikeFrom_77 rfl ?_
        exact zz_iret (pc := 78) E hr hlk dX8_alikeFrom_78 ⟨rfl, by rw [← hz]; rfl⟩
      · refine zz_iload_n (pc := 10) E dX8_alikeFrom_10 rfl ?_
        refine zz_aload_n (pc := 11) E dX8_alikeFrom_11 rfl ?_
        refine zz_gf (pc := 12) E 100 (by decide) rfl rfl inX8_alikeFrom_X8 10 (by decide) lkX8_alikeFrom_139 (fun _ h => h) rfl dX8_alikeFrom_12 ?_
        refine zz_eqi (y := nI B.length) g3 ?_
        refine zn_icmp_ge (pc := 15) (tgt := 77) E dX8_alikeFrom_15 (by decide) (by omega) (by omega) (fun h15 => ?_) (fun h15 => ?_)
        · refine zz_iload_n (pc := 77) E dX8_alikeFrom_77 rfl ?_
          exact zz_iret (pc := 78) E hr hlk dX8_alikeFrom_78 ⟨rfl, by rw [← hz]; rfl⟩
        · exact absurd h15 (by omega)
    | succ j ih =>
      intro i hi hz
      obtain ⟨u, hu⟩ : ∃ a, (zrv b A)[i]? = some a := ⟨_, List.getElem?_eq_getElem (by rw [zrv_len]; omega)⟩
      obtain ⟨w, hw⟩ : ∃ a, (zrv b B)[i]? = some a := ⟨_, List.getElem?_eq_getElem (by rw [zrv_len]; omega)⟩
      have hu6 := g7 u (zrv_mem (List.mem_of_getElem? hu))
      have hw6 := g8 w (zrv_mem (List.mem_of_getElem? hw))
      rw [zcp_drop hu hw] at hz
      refine zz_iload_n (pc := 2) E dX8_alikeFrom_2 rfl ?_
      refine zz_aload_n (pc := 3) E dX8_alikeFrom_3 rfl ?_
      refine zz_gf (pc := 4) E 100 (by decide) rfl rfl inX8_alikeFrom_X8 9 (by decide) lkX8_alikeFrom_136 (fun _ h => h) rfl dX8_alikeFrom_4 ?_
      refine zz_eqi (y := nI A.length) g1 ?_
      refine zn_icmp_ge (pc := 7) (tgt := 77) E dX8_alikeFrom_7 (by decide) (by omega) (by omega) (fun h7 => ?_) (fun h7 => ?_)
      · exact absurd h7 (by omega)
      · refine zz_iload_n (pc := 10) E dX8_alikeFrom_10 rfl ?_
        refine zz_aload_n (pc := 11) E dX8_alikeFrom_11 rfl ?_
        refine zz_gf (pc := 12) E 100 (by decide) rfl rfl inX8_alikeFrom_X8 10 (by decide) lkX8_alikeFrom_139 (fun _ h => h) rfl dX8_alikeFrom_12 ?_
        refine zz_eqi (y := nI B.length) g3 ?_
        refine zn_icmp_ge (pc := 15) (tgt := 77) E dX8_alikeFrom_15 (by decide) (by omega) (by omega) (fun h15 => ?_) (fun h15 => ?_)
        · exact absurd h15 (by omega)
        · refine zz_aload_n (pc := 18) E dX8_alikeFrom_18 rfl ?_
          refine zz_gf (pc := 19) E 100 (by decide) rfl rfl inX8_alikeFrom_X8 11 (by decide) lkX8_alikeFrom_31 (fun _ h => h) rfl dX8_alikeFrom_19 ?_
          refine zz_iload_n (pc := 22) E dX8_alikeFrom_22 rfl ?_
          refine zb_if_eq (pc := 23) (tgt := 37) E dX8_alikeFrom_23 (by decide) (fun h23 => ?_) (fun h23 => ?_)
          · subst h23
            have hu1 := g2 _ u (zrv_f hu)
            have hw1 := g4 _ w (zrv_f hw)
            refine zz_iload_n (pc := 37) E dX8_alikeFrom_37 rfl ?_
            refine zz_iald (pc := 38) E 108 (i) (n := 2400) (by decide) rfl rfl (by omega) (by decide) dX8_alikeFrom_38 ?_
            refine zz_eqi (y := nI u) hu1 ?_
            refine zz_istore_n (pc := 39) (lv' := [(0, _), (1, _), (2, _), (3, _)]) E dX8_alikeFrom_39 (by decide) rfl ?_
            refine zz_aload_n (pc := 40) E dX8_alikeFrom_40 rfl ?_
            refine zz_gf (pc := 41) E 100 (by decide) rfl rfl inX8_alikeFrom_X8 12 (by decide) lkX8_alikeFrom_34 (fun _ h => h) rfl dX8_alikeFrom_41 ?_
            refine zz_iload_n (pc := 44) E dX8_alikeFrom_44 rfl ?_
            refine zb_if_eq (pc := 45) (tgt := 59) E dX8_alikeFrom_45 (by decide) (fun h45 => ?_) (fun h45 => ?_)
            · refine zz_iload_n (pc := 59) E dX8_alikeFrom_59 rfl ?_
              refine zz_iald (pc := 60) E 109 (i) (n := 2400) (by decide) rfl rfl (by omega) (by decide) dX8_alikeFrom_60 ?_
              refine zz_eqi (y := nI w) hw1 ?_
              refine zz_istore (pc := 61) (lv' := [(0, _), (1, _), (2, _), (3, _), (4, _)]) E dX8_alikeFrom_61 (by decide) rfl ?_
              refine zz_iload_n (pc := 63) E dX8_alikeFrom_63 rfl ?_
              refine zz_iload (pc := 64) E dX8_alikeFrom_64 rfl ?_
              refine zn_icmp_eq (pc := 66) (tgt := 71) E dX8_alikeFrom_66 (by decide) (by omega) (by omega) (fun h66 => ?_) (fun h66 => ?_)
              · refine zn_inc (pc := 71) (lv' := [(0, _), (1, _), (2, _), (3, _), (4, _)]) E dX8_alikeFrom_71 rfl (by decide) rfl ?_
                refine zz_goto (pc := 74) (tgt := 2) E dX8_alikeFrom_74 (by decide) ?_
                rw [if_pos h66] at hz
                exact zz_to (ih (i + 1) (by omega) (by omega)) ⟨rfl, rfl, rfl, trivial⟩
              · rw [if_neg h66] at hz
                refine zz_iload_n (pc := 69) E dX8_alikeFrom_69 rfl ?_
                exact zz_iret (pc := 70) E hr hlk dX8_alikeFrom_70 ⟨rfl, by rw [← hz]; rfl⟩
            · exact absurd h45 (by simp)
          · subst h23
            have hu1 := g2 _ u (zrv_t hu)
            have hw1 := g4 _ w (zrv_t hw)
            refine zz_aload_n (pc := 26) E dX8_alikeFrom_26 rfl ?_
            refine zz_gf (pc := 27) E 100 (by decide) rfl rfl inX8_alikeFrom_X8 9 (by decide) lkX8_alikeFrom_136 (fun _ h => h) rfl dX8_alikeFrom_27 ?_
            refine zz_eqi (y := nI A.length) g1 ?_
            refine zz_iconst (pc := 30) (v := nI 1) E dX8_alikeFrom_30 (by decide) ?_
            refine zn_isub (pc := 31) E dX8_alikeFrom_31 (by omega) ?_
            refine zz_iload_n (pc := 32) E dX8_alikeFrom_32 rfl ?_
            refine zn_isub (pc := 33) E dX8_alikeFrom_33 (by omega) ?_
            refine zz_goto (pc := 34) (tgt := 38) E dX8_alikeFrom_34 (by decide) ?_
            refine zz_iald (pc := 38) E 108 (A.length - 1 - i) (n := 2400) (by decide) rfl rfl (by omega) (by decide) dX8_alikeFrom_38 ?_
            refine zz_eqi (y := nI u) hu1 ?_
            refine zz_istore_n (pc := 39) (lv' := [(0, _), (1, _), (2, _), (3, _)]) E dX8_alikeFrom_39 (by decide) rfl ?_
            refine zz_aload_n (pc := 40) E dX8_alikeFrom_40 rfl ?_
            refine zz_gf (pc := 41) E 100 (by decide) rfl rfl inX8_alikeFrom_X8 12 (by decide) lkX8_alikeFrom_34 (fun _ h => h) rfl dX8_alikeFrom_41 ?_
            refine zz_iload_n (pc := 44) E dX8_alikeFrom_44 rfl ?_
            refine zb_if_eq (pc := 45) (tgt := 59) E dX8_alikeFrom_45 (by decide) (fun h45 => ?_) (fun h45 => ?_)
            · exact absurd h45 (by simp)
            · refine zz_aload_n (pc := 48) E dX8_alikeFrom_48 rfl ?_
              refine zz_gf (pc := 49) E 100 (by decide) rfl rfl inX8_alikeFrom_X8 10 (by decide) lkX8_alikeFrom_139 (fun _ h => h) rfl dX8_alikeFrom_49 ?_
              refine zz_eqi (y := nI B.length) g3 ?_
              refine zz_iconst (pc := 52) (v := nI 1) E dX8_alikeFrom_52 (by decide) ?_
              refine zn_isub (pc := 53) E dX8_alikeFrom_53 (by omega) ?_
              refine zz_iload_n (pc := 54) E dX8_alikeFrom_54 rfl ?_
              refine zn_isub (pc := 55) E dX8_alikeFrom_55 (by omega) ?_
              refine zz_goto (pc := 56) (tgt := 60) E dX8_alikeFrom_56 (by decide) ?_
              refine zz_iald (pc := 60) E 109 (B.length - 1 - i) (n := 2400) (by decide) rfl rfl (by omega) (by decide) dX8_alikeFrom_60 ?_
              refine zz_eqi (y := nI w) hw1 ?_
              refine zz_istore (pc := 61) (lv' := [(0, _), (1, _), (2, _), (3, _), (4, _)]) E dX8_alikeFrom_61 (by decide) rfl ?_
              refine zz_iload_n (pc := 63) E dX8_alikeFrom_63 rfl ?_
              refine zz_iload (pc := 64) E dX8_alikeFrom_64 rfl ?_
              refine zn_icmp_eq (pc := 66) (tgt := 71) E dX8_alikeFrom_66 (by decide) (by omega) (by omega) (fun h66 => ?_) (fun h66 => ?_)
              · refine zn_inc (pc := 71) (lv' := [(0, _), (1, _), (2, _), (3, _), (4, _)]) E dX8_alikeFrom_71 rfl (by decide) rfl ?_
                refine zz_goto (pc := 74) (tgt := 2) E dX8_alikeFrom_74 (by decide) ?_
                rw [if_pos h66] at hz
                exact zz_to (ih (i + 1) (by omega) (by omega)) ⟨rfl, rfl, rfl, trivial⟩
              · rw [if_neg h66] at hz
                refine zz_iload_n (pc := 69) E dX8_alikeFrom_69 rfl ?_
                exact zz_iret (pc := 70) E hr hlk dX8_alikeFrom_70 ⟨rfl, by rw [← hz]; rfl⟩
  exact zz_to (key _ 0 (Nat.zero_add _) (by simp)) ⟨rfl, rfl, rfl, trivial⟩

theorem inX8_areAlike_X8 : ∀ w ∈ u_ws RX8 TX8 14, w ∈ wsX8_areAlike := by decide +kernel
theorem lkX8_areAlike_136 : Cond.fieldLink RX8 136 RX8 "oneMany" "I" ∈ wsX8_areAlike := by decide +kernel
theorem lkX8_areAlike_139 : Cond.fieldLink RX8 139 RX8 "otherMany" "I" ∈ wsX8_areAlike := by decide +kernel
set_option maxHeartbeats 4000000 in
set_option maxRecDepth 100000 in
theorem kkX8_areAlike (l : Launch) (G : zz_C) (hJ : zz_J G) (M : zz_M) (A B : List Nat) (hA : zal M A B) : Met l yX8_areAlike wsX8_areAlike ({ frames := 1, cells := 0, slots := 0, locals := 24 } : Room) (zz_P G M [.ref (G.2.2 100)]) (zz_Qi G (fun r M1 => M = M1 ∧ r = zz_b (decide (A = B)))) 0 0 (zz_A G) := by
  refine zz_start hJ (by decide) rfl (Nat.le_of_ble_eq_true rfl) ?_
  intro p e s m below meth c E hr hlk
  have hts := E.2.2.2.2.1
  show zz_Z p l e (headSpec wsX8_areAlike ({ frames := 1, cells := 0, slots := 0, locals := 24 } : Room)).room s m ([.ref (G.2.2 100)] : List Value).toArray below meth c 0 0 (MQ below (zz_Qi G (fun r M1 => M = M1 ∧ r = zz_b (decide (A = B)))) ([.ref (G.2.2 100)] : List Value).toArray s 0 0 (zz_A G)) 1 G (zz_A G) M 0 [(0, .ref (G.2.2 100))] []
  obtain ⟨g1, g2, g3, g4, g5, g6, g7, g8⟩ := id hA
  have hcp := zcp_le A B
  refine zz_aload_n (pc := 0) E dX8_areAlike_0 rfl ?_
  refine zz_gf (pc := 1) E 100 (by decide) rfl rfl inX8_areAlike_X8 9 (by decide) lkX8_areAlike_136 (fun _ h => h) rfl dX8_areAlike_1 ?_
  refine zz_eqi (y := nI A.length) g1 ?_
  refine zz_aload_n (pc := 4) E dX8_areAlike_4 rfl ?_
  refine zz_gf (pc := 5) E 100 (by decide) rfl rfl inX8_areAlike_X8 10 (by decide) lkX8_areAlike_139 (fun _ h => h) rfl dX8_areAlike_5 ?_
  refine zz_eqi (y := nI B.length) g3 ?_
  refine zn_icmp_ne (pc := 8) (tgt := 27) E dX8_areAlike_8 (by decide) (by omega) (by omega) (fun h8 => ?_) (fun h8 => ?_)
  · refine zz_iconst (pc := 27) (v := nI 0) E dX8_areAlike_27 (by decide) ?_
    exact zz_zret (pc := 28) E hr hlk dX8_areAlike_28 (by decide) ⟨rfl, by first | (rw [decide_eq_false (fun q => h8 (by rw [q]))]; rfl) | (rw [decide_eq_false (fun q => h20 ((zcp_all h8).mpr q))]; rfl) | (rw [decide_eq_true ((zcp_all h8).mp h20)]; rfl)⟩
  · refine zz_aload_n (pc := 11) E dX8_areAlike_11 rfl ?_
    refine zz_iconst (pc := 12) (v := nI 0) E dX8_areAlike_12 (by decide) ?_
    refine zz_eqi (y := zz_b false) rfl ?_
    refine zz_ciV (pc := 13) E 100 (kkX8_alikeFrom l G hJ _  A B false hA) (cwV 1 hts gX8_areAlike_X8_alikeFrom rfl rfl rfl (by decide +kernel) ⟨Nat.le_of_ble_eq_true rfl, Nat.le_of_ble_eq_true rfl⟩) (by decide) rfl rfl rfl rfl (Nat.le_of_ble_eq_true rfl) dX8_areAlike_13 (fun r13 M13 q13 => ?_)
    obtain ⟨rfl, rfl⟩ := q13
    refine zz_eqi (y := nI (zcp A B)) rfl ?_
    refine zz_aload_n (pc := 16) E dX8_areAlike_16 rfl ?_
    refine zz_gf (pc := 17) E 100 (by decide) rfl rfl inX8_areAlike_X8 9 (by decide) lkX8_areAlike_136 (fun _ h => h) rfl dX8_areAlike_17 ?_
    refine zz_eqi (y := nI A.length) g1 ?_
    refine zn_icmp_ne (pc := 20) (tgt := 27) E dX8_areAlike_20 (by decide) (by omega) (by omega) (fun h20 => ?_) (fun h20 => ?_)
    · refine zz_iconst (pc := 27) (v := nI 0) E dX8_areAlike_27 (by decide) ?_
      exact zz_zret (pc := 28) E hr hlk dX8_areAlike_28 (by decide) ⟨rfl, by first | (rw [decide_eq_false (fun q => h8 (by rw [q]))]; rfl) | (rw [decide_eq_false (fun q => h20 ((zcp_all h8).mpr q))]; rfl) | (rw [decide_eq_true ((zcp_all h8).mp h20)]; rfl)⟩
    · refine zz_iconst (pc := 23) (v := nI 1) E dX8_areAlike_23 (by decide) ?_
      refine zz_goto (pc := 24) (tgt := 28) E dX8_areAlike_24 (by decide) ?_
      exact zz_zret (pc := 28) E hr hlk dX8_areAlike_28 (by decide) ⟨rfl, by first | (rw [decide_eq_false (fun q => h8 (by rw [q]))]; rfl) | (rw [decide_eq_false (fun q => h20 ((zcp_all h8).mpr q))]; rfl) | (rw [decide_eq_true ((zcp_all h8).mp h20)]; rfl)⟩

theorem inX8_reducesBoth_X8 : ∀ w ∈ u_ws RX8 TX8 14, w ∈ wsX8_reducesBoth := by decide +kernel
theorem lkX8_reducesBoth_31 : Cond.fieldLink RX8 31 RX8 "one" "[I" ∈ wsX8_reducesBoth := by decide +kernel
theorem lkX8_reducesBoth_136 : Cond.fieldLink RX8 136 RX8 "oneMany" "I" ∈ wsX8_reducesBoth := by decide +kernel
theorem lkX8_reducesBoth_34 : Cond.fieldLink RX8 34 RX8 "other" "[I" ∈ wsX8_reducesBoth := by decide +kernel
theorem lkX8_reducesBoth_139 : Cond.fieldLink RX8 139 RX8 "otherMany" "I" ∈ wsX8_reducesBoth := by decide +kernel
set_option maxHeartbeats 4000000 in
set_option maxRecDepth 100000 in
theorem kkX8_reducesBoth (l : Launch) (G : zz_C) (hJ : zz_J G) (M : zz_M) (S : Nat → Option Nat) (a b : Nat) (hV : zV S) (hS : ztl M S) (ha : zok a 6 9 = true) (hb : zok b 6 9 = true) : Met l yX8_reducesBoth wsX8_reducesBoth ({ frames := 4, cells := 0, slots := 0, locals := 97 } : Room) (zz_P G M [.ref (G.2.2 100), .int (nI a), .int (nI b)]) (zz_Qv G (fun M1 => zmf [108, 109, 110] M M1 ∧ zal M1 (zred S (zr a)) (zred S (zr b)))) 0 0 (zz_A G) := by
  refine zz_start hJ (by decide) rfl (Nat.le_of_ble_eq_true rfl) ?_
  intro p e s m below meth c E hr hlk
  have hts := E.2.2.2.2.1
  show zz_Z p l e (headSpec wsX8_reducesBoth ({ frames := 4, cells := 0, slots := 0, locals := 97 } : Room)).room s m ([.ref (G.2.2 100), .int (nI a), .int (nI b)] : List Value).toArray below meth c 0 0 (MQ below (zz_Qv G (fun M1 => zmf [108, 109, 110] M M1 ∧ zal M1 (zred S (zr a)) (zred S (zr b)))) ([.ref (G.2.2 100), .int (nI a), .int (nI b)] : List Value).toArray s 0 0 (zz_A G)) 3 G (zz_A G) M 0 [(0, .ref (G.2.2 100)), (1, .int (nI a)), (2, .int (nI b))] []
  have hla := zred_len hV (zr_lt ha)
  have hlb := zred_len hV (zr_lt hb)
  rw [zr_len] at hla hlb
  have hna := zok_len ha
  have hnb := zok_len hb
  refine zz_aload_n (pc := 0) E dX8_reducesBoth_0 rfl ?_
  refine zz_aload_n (pc := 1) E dX8_reducesBoth_1 rfl ?_
  refine zz_aload_n (pc := 2) E dX8_reducesBoth_2 rfl ?_
  refine zz_gf (pc := 3) E 100 (by decide) rfl rfl inX8_reducesBoth_X8 11 (by decide) lkX8_reducesBoth_31 (fun _ h => h) rfl dX8_reducesBoth_3 ?_
  refine zz_iload_n (pc := 6) E dX8_reducesBoth_6 rfl ?_
  refine zz_aload_n (pc := 7) E dX8_reducesBoth_7 rfl ?_
  refine zz_gf (pc := 8) E 100 (by decide) rfl rfl inX8_reducesBoth_X8 11 (by decide) lkX8_reducesBoth_31 (fun _ h => h) rfl dX8_reducesBoth_8 ?_
  refine zz_iconst (pc := 11) (v := nI 0) E dX8_reducesBoth_11 (by decide) ?_
  refine zz_ciS (pc := 12) E (kkX8_lays l G hJ _  108 a 9 [] (by decide) (zF108 G) ha (by decide) (fun i x hi => by cases hi) (by rw [List.length_nil]; omega)) (va_cwS 3 hts gX8_reducesBoth_X8_lays rfl rfl rfl (by decide +kernel) ⟨Nat.le_of_ble_eq_true rfl, Nat.le_of_ble_eq_true rfl⟩) rfl rfl (Nat.le_of_ble_eq_true rfl) dX8_reducesBoth_12 (fun r12 M12 q12 => ?_)
  obtain ⟨f12, rfl, w12⟩ := q12
  refine zz_eqi (y := nI (zr a).length) rfl ?_
  rw [List.nil_append] at w12
  have hS2 : ztl M12 S := fun i hi => by rw [f12 101 (by decide)]; exact hS i hi
  refine zz_ciV (pc := 15) E 100 (kkX8_reduces l G hJ _  S 108 (zr a) hV hS2 (Or.inl rfl) (zF108 G) w12 (zr_lt ha) (by omega)) (cwV 2 hts gX8_reducesBoth_X8_reduces rfl rfl rfl (by decide +kernel) ⟨Nat.le_of_ble_eq_true rfl, Nat.le_of_ble_eq_true rfl⟩) (by decide) rfl rfl rfl rfl (Nat.le_of_ble_eq_true rfl) dX8_reducesBoth_15 (fun r15 M15 q15 => ?_)
  obtain ⟨f15, rfl, w15⟩ := q15
  refine zz_pfj (pc := 18) E 100 2 (by decide) rfl rfl inX8_reducesBoth_X8 tyX8 tyX8_ok nmX8 9 (by decide) lkX8_reducesBoth_136 (fun _ h => h) rfl rfl (Nat.le_of_ble_eq_true rfl) rfl dX8_reducesBoth_18 ?_
  generalize hM3 : zz_up _ 100 _ = M3
  have hf3 : zmf [108, 109, 110] M M3 := by rw [← hM3]; exact zmf_fld (zmf_ct (zmf_fr f12 (by decide)) (zmf_fr f15 (by decide)) (by simp) (by simp)) (by decide)
  have h32 : M3 100 2 = nI (zred S (zr a)).length := by rw [← hM3, zz_up_same, upd_same]
  have h38 : zA (M3 108) (zred S (zr a)) := by rw [← hM3, zz_up_ne _ _ (by decide)]; exact w15
  have hS3 := ztl_mf hS hf3 (by decide)
  clear hM3
  refine zz_aload_n (pc := 21) E dX8_reducesBoth_21 rfl ?_
  refine zz_aload_n (pc := 22) E dX8_reducesBoth_22 rfl ?_
  refine zz_aload_n (pc := 23) E dX8_reducesBoth_23 rfl ?_
  refine zz_gf (pc := 24) E 100 (by decide) rfl rfl inX8_reducesBoth_X8 12 (by decide) lkX8_reducesBoth_34 (fun _ h => h) rfl dX8_reducesBoth_24 ?_
  refine zz_iload_n (pc := 27) E dX8_reducesBoth_27 rfl ?_
  refine zz_aload_n (pc := 28) E dX8_reducesBoth_28 rfl ?_
  refine zz_gf (pc := 29) E 100 (by decide) rfl rfl inX8_reducesBoth_X8 12 (by decide) lkX8_reducesBoth_34 (fun _ h => h) rfl dX8_reducesBoth_29 ?_
  refine zz_iconst (pc := 32) (v := nI 0) E dX8_reducesBoth_32 (by decide) ?_
  refine zz_ciS (pc := 33) E (kkX8_lays l G hJ _  109 b 9 [] (by decide) (zF109 G) hb (by decide) (fun i x hi => by cases hi) (by rw [List.length_nil]; omega)) (va_cwS 3 hts gX8_reducesBoth_X8_lays rfl rfl rfl (by decide +kernel) ⟨Nat.le_of_ble_eq_true rfl, Nat.le_of_ble_eq_true rfl⟩) rfl rfl (Nat.le_of_ble_eq_true rfl) dX8_reducesBoth_33 (fun r33 M33 q33 => ?_)
  obtain ⟨f33, rfl, w33⟩ := q33
  refine zz_eqi (y := nI (zr b).length) rfl ?_
  rw [List.nil_append] at w33
  have hS4 : ztl M33 S := fun i hi => by rw [f33 101 (by decide)]; exact hS3 i hi
  refine zz_ciV (pc := 36) E 100 (kkX8_reduces l G hJ _  S 109 (zr b) hV hS4 (Or.inr rfl) (zF109 G) w33 (zr_lt hb) (by omega)) (cwV 2 hts gX8_reducesBoth_X8_reduces rfl rfl rfl (by decide +kernel) ⟨Nat.le_of_ble_eq_true rfl, Nat.le_of_ble_eq_true rfl⟩) (by decide) rfl rfl rfl rfl (Nat.le_of_ble_eq_true rfl) dX8_reducesBoth_36 (fun r36 M36 q36 => ?_)
  obtain ⟨f36, rfl, w36⟩ := q36
  refine zz_pfj (pc := 39) E 100 3 (by decide) rfl rfl inX8_reducesBoth_X8 tyX8 tyX8_ok nmX8 10 (by decide) lkX8_reducesBoth_139 (fun _ h => h) rfl rfl (Nat.le_of_ble_eq_true rfl) rfl dX8_reducesBoth_39 ?_
  exact zz_vret (pc := 42) E hr hlk dX8_reducesBoth_42 ⟨zmf_fld (zmf_ct (zmf_ct hf3 (zmf_fr f33 (by decide)) (fun _ h => h) (by simp)) (zmf_fr f36 (by decide)) (fun _ h => h) (by simp)) (by decide), by rw [zz_up_same, upd_ne _ _ (by decide), f36 100 (by decide), f33 100 (by decide)]; exact h32, by rw [zz_up_ne _ _ (by decide), f36 108 (by decide), f33 108 (by decide)]; exact h38, by rw [zz_up_same, upd_same], by rw [zz_up_ne _ _ (by decide)]; exact w36, by omega, by omega, zred_6 hV (zr_lt ha), zred_6 hV (zr_lt hb)⟩

theorem inX8_reduced_X8 : ∀ w ∈ u_ws RX8 TX8 14, w ∈ wsX8_reduced := by decide +kernel
theorem lkX8_reduced_136 : Cond.fieldLink RX8 136 RX8 "oneMany" "I" ∈ wsX8_reduced := by decide +kernel
theorem lkX8_reduced_31 : Cond.fieldLink RX8 31 RX8 "one" "[I" ∈ wsX8_reduced := by decide +kernel
set_option maxHeartbeats 4000000 in
set_option maxRecDepth 100000 in
theorem kkX8_reduced (l : Launch) (G : zz_C) (hJ : zz_J G) (M : zz_M) (S : Nat → Option Nat) (hs : List (Nat → Option Nat)) (x k : Int32) (hI : zJ M S hs) : Met l yX8_reduced wsX8_reduced ({ frames := 5, cells := 0, slots := 0, locals := 119 } : Room) (zz_P G M [.ref (G.2.2 100), .int x, .int k]) (zz_Qi G (fun r M1 => zhi M M1 ∧ zJ M1 S hs ∧ r = sp_reduced S x k)) 0 0 (zz_A G) := by
  refine zz_start hJ (by decide) rfl (Nat.le_of_ble_eq_true rfl) ?_
  intro p e s m below meth c E hr hlk
  have hts := E.2.2.2.2.1
  show zz_Z p l e (headSpec wsX8_reduced ({ frames := 5, cells := 0, slots := 0, locals := 119 } : Room)).room s m ([.ref (G.2.2 100), .int x, .int k] : List Value).toArray below meth c 0 0 (MQ below (zz_Qi G (fun r M1 => zhi M M1 ∧ zJ M1 S hs ∧ r = sp_reduced S x k)) ([.ref (G.2.2 100), .int x, .int k] : List Value).toArray s 0 0 (zz_A G)) 3 G (zz_A G) M 0 [(0, .ref (G.2.2 100)), (1, .int x), (2, .int k)] []
  refine zz_iload_n (pc := 0) E dX8_reduced_0 rfl ?_
  refine zz_bipush (pc := 1) (v := nI 9) E dX8_reduced_1 (by decide) ?_
  refine zz_ciS (pc := 3) E (kkX8_isRow l G hJ _ _ _ (by decide)) (va_cwS 2 hts gX8_reduced_X8_isRow rfl rfl rfl (by decide +kernel) ⟨Nat.le_of_ble_eq_true rfl, Nat.le_of_ble_eq_true rfl⟩) rfl rfl (Nat.le_of_ble_eq_true rfl) dX8_reduced_3 (fun r3 M3 q3 => ?_)
  obtain ⟨rfl, rfl⟩ := q3
  refine zb_if_eq (pc := 6) (tgt := 14) E dX8_reduced_6 (by decide) (fun h6 => ?_) (fun h6 => ?_)
  · have hsp : sp_reduced S x k = -2 := by unfold sp_reduced; rw [if_neg (by rw [h6]; simp)]
    refine zz_bipush (pc := 14) (v := -2) E dX8_reduced_14 (by decide) ?_
    exact zz_iret (pc := 16) E hr hlk dX8_reduced_16 ⟨zhi_rf _, hI, by rw [hsp]⟩
  · refine zz_iload_n (pc := 9) E dX8_reduced_9 rfl ?_
    refine zz_iconst (pc := 10) (v := -1) E dX8_reduced_10 (by decide) ?_
    refine zz_icmp_ge (pc := 11) (tgt := 17) E dX8_reduced_11 (by decide) (fun h11 => ?_) (fun h11 => ?_)
    · obtain ⟨a, hxa, hza, han, ha9, ha31⟩ := zs_row_of h6 (by decide)
      have hsp : sp_reduced S x k = zkth (zred S (zr a)) k := by unfold sp_reduced; rw [if_pos (by rw [h6, decide_eq_true h11]; rfl), ← han]
      refine zz_aload_n (pc := 17) E dX8_reduced_17 rfl ?_
      refine zz_iload_n (pc := 18) E dX8_reduced_18 rfl ?_
      refine zz_eqi (y := nI a) hxa ?_
      refine zz_iconst (pc := 19) (v := nI 0) E dX8_reduced_19 (by decide) ?_
      refine zz_cvV (pc := 20) E 100 (kkX8_reducesBoth l G hJ _  S a 0 hI.1 hI.2.2.1 hza (zok_0 6 9)) (cwV 2 hts gX8_reduced_X8_reducesBoth rfl rfl rfl (by decide +kernel) ⟨Nat.le_of_ble_eq_true rfl, Nat.le_of_ble_eq_true rfl⟩) (by decide) rfl rfl rfl rfl (Nat.le_of_ble_eq_true rfl) dX8_reduced_20 (fun M20 q20 => ?_)
      obtain ⟨f20, w20⟩ := q20
      obtain ⟨g1, g2, -, -, g5, -⟩ := id w20
      have hend : zhi M M20 ∧ zJ M20 S hs := ⟨zmf_hi f20 (by decide), zJ_mf hI f20 (by decide) (by decide)⟩
      refine zz_iload_n (pc := 23) E dX8_reduced_23 rfl ?_
      refine zz_iconst (pc := 24) (v := -1) E dX8_reduced_24 (by decide) ?_
      refine zz_icmp_ne (pc := 25) (tgt := 35) E dX8_reduced_25 (by decide) (fun h25 => ?_) (fun h25 => ?_)
      · obtain ⟨i, hi31, hki⟩ := zcl_neg h11 h25
        have hk : zkth (zred S (zr a)) k = zo ((zred S (zr a))[i]?) := by unfold zkth; rw [if_neg h25, hki, nI_nat hi31]
        refine zz_iload_n (pc := 35) E dX8_reduced_35 rfl ?_
        refine zz_eqi (y := nI i) hki ?_
        refine zz_aload_n (pc := 36) E dX8_reduced_36 rfl ?_
        refine zz_gf (pc := 37) E 100 (by decide) rfl rfl inX8_reduced_X8 9 (by decide) lkX8_reduced_136 (fun _ h => h) rfl dX8_reduced_37 ?_
        refine zz_eqi (y := nI (zred S (zr a)).length) g1 ?_
        refine zn_icmp_ge (pc := 40) (tgt := 52) E dX8_reduced_40 (by decide) (by omega) (by omega) (fun h40 => ?_) (fun h40 => ?_)
        · rw [List.getElem?_eq_none h40] at hk
          refine zz_bipush (pc := 52) (v := -9) E dX8_reduced_52 (by decide) ?_
          exact zz_iret (pc := 54) E hr hlk dX8_reduced_54 ⟨hend.1, hend.2, by rw [hsp, hk]; first | done | rfl⟩
        · obtain ⟨q, hq⟩ : ∃ q, (zred S (zr a))[i]? = some q := ⟨_, List.getElem?_eq_getElem h40⟩
          rw [hq] at hk
          refine zz_aload_n (pc := 43) E dX8_reduced_43 rfl ?_
          refine zz_gf (pc := 44) E 100 (by decide) rfl rfl inX8_reduced_X8 11 (by decide) lkX8_reduced_31 (fun _ h => h) rfl dX8_reduced_44 ?_
          refine zz_iload_n (pc := 47) E dX8_reduced_47 rfl ?_
          refine zz_eqi (y := nI i) hki ?_
          refine zz_iald (pc := 48) E 108 (i) (n := 2400) (by decide) rfl rfl (by omega) (by decide) dX8_reduced_48 ?_
          refine zz_eqi (y := nI q) (g2 i q hq) ?_
          refine zz_goto (pc := 49) (tgt := 54) E dX8_reduced_49 (by decide) ?_
          exact zz_iret (pc := 54) E hr hlk dX8_reduced_54 ⟨hend.1, hend.2, by rw [hsp, hk]; first | done | rfl⟩
      · have hk : zkth (zred S (zr a)) k = nI (zred S (zr a)).length := if_pos h25
        refine zz_aload_n (pc := 28) E dX8_reduced_28 rfl ?_
        refine zz_gf (pc := 29) E 100 (by decide) rfl rfl inX8_reduced_X8 9 (by decide) lkX8_reduced_136 (fun _ h => h) rfl dX8_reduced_29 ?_
        refine zz_eqi (y := nI (zred S (zr a)).length) g1 ?_
        refine zz_goto (pc := 32) (tgt := 54) E dX8_reduced_32 (by decide) ?_
        exact zz_iret (pc := 54) E hr hlk dX8_reduced_54 ⟨hend.1, hend.2, by rw [hsp, hk]; first | done | rfl⟩
    · have hsp : sp_reduced S x k = -2 := by unfold sp_reduced; rw [if_neg (by rw [decide_eq_false h11]; simp)]
      refine zz_bipush (pc := 14) (v := -2) E dX8_reduced_14 (by decide) ?_
      exact zz_iret (pc := 16) E hr hlk dX8_reduced_16 ⟨zhi_rf _, hI, by rw [hsp]⟩

set_option maxHeartbeats 4000000 in
set_option maxRecDepth 100000 in
theorem kkX8_alike (l : Launch) (G : zz_C) (hJ : zz_J G) (M : zz_M) (S : Nat → Option Nat) (hs : List (Nat → Option Nat)) (x y : Int32) (hI : zJ M S hs) : Met l yX8_alike wsX8_alike ({ frames := 5, cells := 0, slots := 0, locals := 119 } : Room) (zz_P G M [.ref (G.2.2 100), .int x, .int y]) (zz_Qi G (fun r M1 => zhi M M1 ∧ zJ M1 S hs ∧ r = sp_alike S x y)) 0 0 (zz_A G) := by
  refine zz_start hJ (by decide) rfl (Nat.le_of_ble_eq_true rfl) ?_
  intro p e s m below meth c E hr hlk
  have hts := E.2.2.2.2.1
  show zz_Z p l e (headSpec wsX8_alike ({ frames := 5, cells := 0, slots := 0, locals := 119 } : Room)).room s m ([.ref (G.2.2 100), .int x, .int y] : List Value).toArray below meth c 0 0 (MQ below (zz_Qi G (fun r M1 => zhi M M1 ∧ zJ M1 S hs ∧ r = sp_alike S x y)) ([.ref (G.2.2 100), .int x, .int y] : List Value).toArray s 0 0 (zz_A G)) 3 G (zz_A G) M 0 [(0, .ref (G.2.2 100)), (1, .int x), (2, .int y)] []
  refine zz_iload_n (pc := 0) E dX8_alike_0 rfl ?_
  refine zz_bipush (pc := 1) (v := nI 9) E dX8_alike_1 (by decide) ?_
  refine zz_ciS (pc := 3) E (kkX8_isRow l G hJ _ _ _ (by decide)) (va_cwS 2 hts gX8_alike_X8_isRow rfl rfl rfl (by decide +kernel) ⟨Nat.le_of_ble_eq_true rfl, Nat.le_of_ble_eq_true rfl⟩) rfl rfl (Nat.le_of_ble_eq_true rfl) dX8_alike_3 (fun r3 M3 q3 => ?_)
  obtain ⟨rfl, rfl⟩ := q3
  refine zb_if_eq (pc := 6) (tgt := 18) E dX8_alike_6 (by decide) (fun h6 => ?_) (fun h6 => ?_)
  · have hsp : sp_alike S x y = -2 := by unfold sp_alike; rw [if_neg (by rw [h6]; simp)]
    refine zz_bipush (pc := 18) (v := -2) E dX8_alike_18 (by decide) ?_
    exact zz_iret (pc := 20) E hr hlk dX8_alike_20 ⟨zhi_rf _, hI, by rw [hsp]⟩
  · refine zz_iload_n (pc := 9) E dX8_alike_9 rfl ?_
    refine zz_bipush (pc := 10) (v := nI 9) E dX8_alike_10 (by decide) ?_
    refine zz_ciS (pc := 12) E (kkX8_isRow l G hJ _ _ _ (by decide)) (va_cwS 2 hts gX8_alike_X8_isRow rfl rfl rfl (by decide +kernel) ⟨Nat.le_of_ble_eq_true rfl, Nat.le_of_ble_eq_true rfl⟩) rfl rfl (Nat.le_of_ble_eq_true rfl) dX8_alike_12 (fun r12 M12 q12 => ?_)
    obtain ⟨rfl, rfl⟩ := q12
    refine zb_if_ne (pc := 15) (tgt := 21) E dX8_alike_15 (by decide) (fun h15 => ?_) (fun h15 => ?_)
    · obtain ⟨a, hxa, hza, han, ha9, ha31⟩ := zs_row_of h6 (by decide)
      obtain ⟨b, hyb, hzb, hbn, hb9, hb31⟩ := zs_row_of h15 (by decide)
      have hsp : sp_alike S x y = zz_b (decide (zred S (zr a) = zred S (zr b))) := by unfold sp_alike; rw [if_pos (by rw [h6, h15]; rfl), ← han, ← hbn]
      refine zz_aload_n (pc := 21) E dX8_alike_21 rfl ?_
      refine zz_iload_n (pc := 22) E dX8_alike_22 rfl ?_
      refine zz_eqi (y := nI a) hxa ?_
      refine zz_iload_n (pc := 23) E dX8_alike_23 rfl ?_
      refine zz_eqi (y := nI b) hyb ?_
      refine zz_cvV (pc := 24) E 100 (kkX8_reducesBoth l G hJ _  S a b hI.1 hI.2.2.1 hza hzb) (cwV 2 hts gX8_alike_X8_reducesBoth rfl rfl rfl (by decide +kernel) ⟨Nat.le_of_ble_eq_true rfl, Nat.le_of_ble_eq_true rfl⟩) (by decide) rfl rfl rfl rfl (Nat.le_of_ble_eq_true rfl) dX8_alike_24 (fun M24 q24 => ?_)
      obtain ⟨f24, w24⟩ := q24
      refine zz_aload_n (pc := 27) E dX8_alike_27 rfl ?_
      refine zz_ciV (pc := 28) E 100 (kkX8_areAlike l G hJ _  _ _ w24) (cwV 0 hts gX8_alike_X8_areAlike rfl rfl rfl (by decide +kernel) ⟨Nat.le_of_ble_eq_true rfl, Nat.le_of_ble_eq_true rfl⟩) (by decide) rfl rfl rfl rfl (Nat.le_of_ble_eq_true rfl) dX8_alike_28 (fun r28 M28 q28 => ?_)
      obtain ⟨rfl, rfl⟩ := q28
      refine zb_if_eq (pc := 31) (tgt := 38) E dX8_alike_31 (by decide) (fun h31 => ?_) (fun h31 => ?_)
      · refine zz_iconst (pc := 38) (v := nI 0) E dX8_alike_38 (by decide) ?_
        exact zz_iret (pc := 39) E hr hlk dX8_alike_39 ⟨zmf_hi f24 (by decide), zJ_mf hI f24 (by decide) (by decide), by rw [hsp, h31]; rfl⟩
      · refine zz_iconst (pc := 34) (v := nI 1) E dX8_alike_34 (by decide) ?_
        refine zz_goto (pc := 35) (tgt := 39) E dX8_alike_35 (by decide) ?_
        exact zz_iret (pc := 39) E hr hlk dX8_alike_39 ⟨zmf_hi f24 (by decide), zJ_mf hI f24 (by decide) (by decide), by rw [hsp, h31]; rfl⟩
    · have hsp : sp_alike S x y = -2 := by unfold sp_alike; rw [if_neg (by rw [h15]; simp)]
      refine zz_bipush (pc := 18) (v := -2) E dX8_alike_18 (by decide) ?_
      exact zz_iret (pc := 20) E hr hlk dX8_alike_20 ⟨zhi_rf _, hI, by rw [hsp]⟩

set_option maxHeartbeats 4000000 in
set_option maxRecDepth 100000 in
theorem kkX8_common (l : Launch) (G : zz_C) (hJ : zz_J G) (M : zz_M) (S : Nat → Option Nat) (hs : List (Nat → Option Nat)) (x y z : Int32) (hI : zJ M S hs) : Met l yX8_common wsX8_common ({ frames := 5, cells := 0, slots := 0, locals := 119 } : Room) (zz_P G M [.ref (G.2.2 100), .int x, .int y, .int z]) (zz_Qi G (fun r M1 => zhi M M1 ∧ zJ M1 S hs ∧ r = sp_common S x y z)) 0 0 (zz_A G) := by
  refine zz_start hJ (by decide) rfl (Nat.le_of_ble_eq_true rfl) ?_
  intro p e s m below meth c E hr hlk
  have hts := E.2.2.2.2.1
  show zz_Z p l e (headSpec wsX8_common ({ frames := 5, cells := 0, slots := 0, locals := 119 } : Room)).room s m ([.ref (G.2.2 100), .int x, .int y, .int z] : List Value).toArray below meth c 0 0 (MQ below (zz_Qi G (fun r M1 => zhi M M1 ∧ zJ M1 S hs ∧ r = sp_common S x y z)) ([.ref (G.2.2 100), .int x, .int y, .int z] : List Value).toArray s 0 0 (zz_A G)) 4 G (zz_A G) M 0 [(0, .ref (G.2.2 100)), (1, .int x), (2, .int y), (3, .int z)] []
  refine zz_iload_n (pc := 0) E dX8_common_0 rfl ?_
  refine zz_bipush (pc := 1) (v := nI 9) E dX8_common_1 (by decide) ?_
  refine zz_ciS (pc := 3) E (kkX8_isRow l G hJ _ _ _ (by decide)) (va_cwS 2 hts gX8_common_X8_isRow rfl rfl rfl (by decide +kernel) ⟨Nat.le_of_ble_eq_true rfl, Nat.le_of_ble_eq_true rfl⟩) rfl rfl (Nat.le_of_ble_eq_true rfl) dX8_common_3 (fun r3 M3 q3 => ?_)
  obtain ⟨rfl, rfl⟩ := q3
  refine zb_if_eq (pc := 6) (tgt := 27) E dX8_common_6 (by decide) (fun h6 => ?_) (fun h6 => ?_)
  · have hsp : sp_common S x y z = -2 := by unfold sp_common; rw [if_neg (by rw [h6]; simp)]
    refine zz_bipush (pc := 27) (v := -2) E dX8_common_27 (by decide) ?_
    exact zz_iret (pc := 29) E hr hlk dX8_common_29 ⟨zhi_rf _, hI, by rw [hsp]⟩
  · refine zz_iload_n (pc := 9) E dX8_common_9 rfl ?_
    refine zz_bipush (pc := 10) (v := nI 9) E dX8_common_10 (by decide) ?_
    refine zz_ciS (pc := 12) E (kkX8_isRow l G hJ _ _ _ (by decide)) (va_cwS 2 hts gX8_common_X8_isRow rfl rfl rfl (by decide +kernel) ⟨Nat.le_of_ble_eq_true rfl, Nat.le_of_ble_eq_true rfl⟩) rfl rfl (Nat.le_of_ble_eq_true rfl) dX8_common_12 (fun r12 M12 q12 => ?_)
    obtain ⟨rfl, rfl⟩ := q12
    refine zb_if_eq (pc := 15) (tgt := 27) E dX8_common_15 (by decide) (fun h15 => ?_) (fun h15 => ?_)
    · have hsp : sp_common S x y z = -2 := by unfold sp_common; rw [if_neg (by rw [h15]; simp)]
      refine zz_bipush (pc := 27) (v := -2) E dX8_common_27 (by decide) ?_
      exact zz_iret (pc := 29) E hr hlk dX8_common_29 ⟨zhi_rf _, hI, by rw [hsp]⟩
    · refine zz_iload_n (pc := 18) E dX8_common_18 rfl ?_
      refine zz_iconst (pc := 19) (v := nI 0) E dX8_common_19 (by decide) ?_
      refine zz_iconst (pc := 20) (v := nI 1) E dX8_common_20 (by decide) ?_
      refine zz_ciS (pc := 21) E (kkX8_within l G hJ _ _ _ _ ) (va_cwS 3 hts gX8_common_X8_within rfl rfl rfl (by decide +kernel) ⟨Nat.le_of_ble_eq_true rfl, Nat.le_of_ble_eq_true rfl⟩) rfl rfl (Nat.le_of_ble_eq_true rfl) dX8_common_21 (fun r21 M21 q21 => ?_)
      obtain ⟨rfl, rfl⟩ := q21
      refine zb_if_ne (pc := 24) (tgt := 30) E dX8_common_24 (by decide) (fun h24 => ?_) (fun h24 => ?_)
      · rw [zp_w_0 (by decide)] at h24
        obtain ⟨a, hxa, hza, han, ha9, ha31⟩ := zs_row_of h6 (by decide)
        obtain ⟨b, hyb, hzb, hbn, hb9, hb31⟩ := zs_row_of h15 (by decide)
        obtain ⟨u, hu, hzu⟩ := zp_in_of h24 (by decide)
        have hsp : sp_common S x y z = if u = 0 then nI (zcp (zred S (zr a)) (zred S (zr b))) else nI (zcp (zred S (zr a)).reverse (zred S (zr b)).reverse) := by unfold sp_common; rw [if_pos (by rw [h6, h15, h24]; rfl), ← han, ← hbn, hzu, nI_nat (by omega)]
        refine zz_aload_n (pc := 30) E dX8_common_30 rfl ?_
        refine zz_iload_n (pc := 31) E dX8_common_31 rfl ?_
        refine zz_eqi (y := nI a) hxa ?_
        refine zz_iload_n (pc := 32) E dX8_common_32 rfl ?_
        refine zz_eqi (y := nI b) hyb ?_
        refine zz_cvV (pc := 33) E 100 (kkX8_reducesBoth l G hJ _  S a b hI.1 hI.2.2.1 hza hzb) (cwV 2 hts gX8_common_X8_reducesBoth rfl rfl rfl (by decide +kernel) ⟨Nat.le_of_ble_eq_true rfl, Nat.le_of_ble_eq_true rfl⟩) (by decide) rfl rfl rfl rfl (Nat.le_of_ble_eq_true rfl) dX8_common_33 (fun M33 q33 => ?_)
        obtain ⟨f33, w33⟩ := q33
        refine zz_aload_n (pc := 36) E dX8_common_36 rfl ?_
        refine zz_iload_n (pc := 37) E dX8_common_37 rfl ?_
        refine zz_eqi (y := nI u) hzu ?_
        refine zz_iconst (pc := 38) (v := nI 1) E dX8_common_38 (by decide) ?_
        refine zn_icmp_ne (pc := 39) (tgt := 46) E dX8_common_39 (by decide) (by omega) (by omega) (fun h39 => ?_) (fun h39 => ?_)
        · rw [if_pos (show u = 0 by omega)] at hsp
          refine zz_iconst (pc := 46) (v := nI 0) E dX8_common_46 (by decide) ?_
          refine zz_eqi (y := zz_b false) rfl ?_
          refine zz_ciV (pc := 47) E 100 (kkX8_alikeFrom l G hJ _  _ _ false w33) (cwV 1 hts gX8_common_X8_alikeFrom rfl rfl rfl (by decide +kernel) ⟨Nat.le_of_ble_eq_true rfl, Nat.le_of_ble_eq_true rfl⟩) (by decide) rfl rfl rfl rfl (Nat.le_of_ble_eq_true rfl) dX8_common_47 (fun r47 M47 q47 => ?_)
          obtain ⟨rfl, rfl⟩ := q47
          exact zz_iret (pc := 50) E hr hlk dX8_common_50 ⟨zmf_hi f33 (by decide), zJ_mf hI f33 (by decide) (by decide), by rw [hsp]; rfl⟩
        · rw [if_neg (show ¬ u = 0 by omega)] at hsp
          refine zz_iconst (pc := 42) (v := nI 1) E dX8_common_42 (by decide) ?_
          refine zz_eqi (y := zz_b true) rfl ?_
          refine zz_goto (pc := 43) (tgt := 47) E dX8_common_43 (by decide) ?_
          refine zz_ciV (pc := 47) E 100 (kkX8_alikeFrom l G hJ _  _ _ true w33) (cwV 1 hts gX8_common_X8_alikeFrom rfl rfl rfl (by decide +kernel) ⟨Nat.le_of_ble_eq_true rfl, Nat.le_of_ble_eq_true rfl⟩) (by decide) rfl rfl rfl rfl (Nat.le_of_ble_eq_true rfl) dX8_common_47 (fun r47 M47 q47 => ?_)
          obtain ⟨rfl, rfl⟩ := q47
          exact zz_iret (pc := 50) E hr hlk dX8_common_50 ⟨zmf_hi f33 (by decide), zJ_mf hI f33 (by decide) (by decide), by rw [hsp]; rfl⟩
      · rw [zp_w_0 (by decide)] at h24
        have hsp : sp_common S x y z = -2 := by unfold sp_common; rw [if_neg (by rw [h24]; simp)]
        refine zz_bipush (pc := 27) (v := -2) E dX8_common_27 (by decide) ?_
        exact zz_iret (pc := 29) E hr hlk dX8_common_29 ⟨zhi_rf _, hI, by rw [hsp]⟩
