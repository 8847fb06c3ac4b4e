/-! frames, rows, tables in memory -/
def zfr (ks : List Nat) (M M1 : zz_M) : Prop := ∀ j, j ∉ ks → M1 j = M j
theorem zfr_rf (ks : List Nat) (M : zz_M) : zfr ks M M := fun _ _ => rfl
theorem zfr_up {ks : List Nat} {M M1 : zz_M} {k : Nat} {f : Nat → Int32} (h : zfr ks M M1) (hk : k ∈ ks) : zfr ks M (zz_up M1 k f) := fun j hj => by
  have hne : j ≠ k := fun e => hj (by rw [e]; exact hk)
  rw [zz_up_ne _ _ hne]
  exact h j hj
theorem zfr_tr {k1 k2 : List Nat} {M M1 M2 : zz_M} (h1 : zfr k1 M M1) (h2 : zfr k2 M1 M2) (hs : ∀ j ∈ k1, j ∈ k2) : zfr k2 M M2 := fun j hj => by
  rw [h2 j hj, h1 j (fun q => hj (hs j q))]
theorem zfr_mono {k1 k2 : List Nat} {M M1 : zz_M} (h : zfr k1 M M1) (hs : ∀ j ∈ k1, j ∈ k2) : zfr k2 M M1 := fun j hj => h j (fun q => hj (hs j q))
theorem upd_same (f : Nat → Int32) (k : Nat) (x : Int32) : upd f k x k = x := if_pos rfl
theorem upd_ne (f : Nat → Int32) {k j : Nat} (x : Int32) (h : j ≠ k) : upd f k x j = f j := if_neg h
/-- f holds the list, its head the last -/
def zS (f : Nat → Int32) : List Nat → Prop
  | [] => True
  | x :: L => f L.length = nI x ∧ zS f L
theorem zS_congr {f g : Nat → Int32} : ∀ {L : List Nat}, zS f L → (∀ i, i < L.length → g i = f i) → zS g L
  | [], _, _ => trivial
  | x :: L, h, hg => ⟨by rw [hg L.length (by simp)]; exact h.1, zS_congr h.2 (fun i hi => hg i (by simp; omega))⟩
theorem zS_push {f : Nat → Int32} {L : List Nat} {x : Nat} (h : zS f L) : zS (upd f L.length (nI x)) (x :: L) := ⟨upd_same _ _ _, zS_congr h (fun i hi => upd_ne _ _ (by omega))⟩
theorem zS_cpy {f g : Nat → Int32} {L : List Nat} (hg : zS g L) : ∀ {L2 : List Nat} {n : Nat}, zS f L2 → L2.length ≤ n → zS (va_cpy f g 0 L.length n) (L2 ++ L)
  | [], n, _, _ => zS_congr hg (fun i hi => by have hi : i < L.length := hi; unfold va_cpy; rw [if_neg (by omega)])
  | x :: L2, n, h, hn => by
    rw [List.length_cons] at hn
    refine ⟨?_, zS_cpy hg h.2 (by omega)⟩
    show va_cpy f g 0 L.length n (L2 ++ L).length = nI x
    unfold va_cpy
    rw [List.length_append, if_pos (by omega), show 0 + (L2.length + L.length - L.length) = L2.length by omega]
    exact h.1
theorem zS_at {f : Nat → Int32} : ∀ {L : List Nat} {i : Nat}, zS f L → i < L.length → f (L.length - 1 - i) = zo (L[i]?)
  | x :: L, 0, h, _ => by
    rw [List.length_cons, show L.length + 1 - 1 - 0 = L.length by omega]
    exact h.1
  | x :: L, i + 1, h, hi => by
    rw [List.length_cons] at hi ⊢
    rw [show L.length + 1 - 1 - (i + 1) = L.length - 1 - i by omega, List.getElem?_cons_succ]
    exact zS_at h.2 (by omega)
theorem zS_rev {f : Nat → Int32} {L : List Nat} {i : Nat} (h : zS f L) (hi : i < L.length) : f i = zo (L.reverse[i]?) := by
  have e := zS_at (i := L.length - 1 - i) h (by omega)
  rw [show L.length - 1 - (L.length - 1 - i) = i by omega] at e
  rw [e, List.getElem?_reverse hi]
def zrow (M : zz_M) (k cap : Nat) (L : List Nat) : Prop := M k 0 = nI L.length ∧ L.length ≤ cap ∧ zS (M (k + 1)) L ∧ ∀ x ∈ L, x < 10
theorem zrow_congr {M M1 : zz_M} {k cap : Nat} {L : List Nat} (h : zrow M k cap L) (h1 : M1 k = M k) (h2 : M1 (k + 1) = M (k + 1)) : zrow M1 k cap L := ⟨by rw [h1]; exact h.1, h.2.1, by rw [h2]; exact h.2.2.1, h.2.2.2⟩
theorem zrow_fr {ks : List Nat} {M M1 : zz_M} {k cap : Nat} {L : List Nat} (h : zrow M k cap L) (hf : zfr ks M M1) (h1 : k ∉ ks) (h2 : k + 1 ∉ ks) : zrow M1 k cap L := zrow_congr h (hf k h1) (hf _ h2)
theorem zo_lt {o : Option Nat} {a b : Nat} (ha : a < 2 ^ 31) (hb : b < 2 ^ 31) : zo (some a) = zo (some b) ↔ a = b := nI_eq ha hb
theorem zrow_ff {i : Nat} {L : List Nat} (hi : i < 2 ^ 31) (hl : L.length < 2 ^ 31) : (if zp_in (nI L.length - nI 1 - nI i) L.length then zo (L.reverse[(nI L.length - nI 1 - nI i).toInt.toNat]?) else -9) = zo (L[i]?) := by
  by_cases h : i < L.length
  · rw [zn_sub (by omega), zn_sub (by omega), zp_in_nI (by omega), decide_eq_true (by omega), if_pos rfl, nI_toInt (by omega), Int.toNat_natCast, List.getElem?_reverse (by omega), show L.length - 1 - (L.length - 1 - i) = i by omega]
  · have hx : nI L.length - nI 1 - nI i < 0 := by
      have e1 : nI L.length - nI 1 - nI i = Int32.ofInt ((L.length : Int) - 1 - i) := by
        rw [show nI L.length = Int32.ofInt (L.length : Int) from rfl, show nI 1 = Int32.ofInt ((1 : Nat) : Int) from rfl, show nI i = Int32.ofInt (i : Int) from rfl, ← Int32.ofInt_sub, ← Int32.ofInt_sub]
        rfl
      rw [e1, Int32.lt_iff_toInt_lt, Int32.toInt_ofInt_of_le (by omega) (by omega)]
      show _ < (0 : Int)
      omega
    rw [zp_in_f1 hx, show L[i]? = none from List.getElem?_eq_none (by omega)]
    rfl
theorem zrow_mx {L : List Nat} (hl : L.length < 2 ^ 31) : (if nI L.length - nI 1 < nI 0 then nI 0 else nI L.length - nI 1) = nI L.tail.length := by
  cases L with
  | nil => decide
  | cons x L =>
    rw [List.length_cons] at hl ⊢
    rw [zn_sub (by omega), if_neg (nI_nlt (by omega) (by omega))]
    rfl
theorem zS_tail {f : Nat → Int32} {L : List Nat} (h : zS f L) : zS f L.tail := by
  cases L with
  | nil => exact h
  | cons x L => exact h.2
theorem zd_len0 {b : Nat} (h : (zd b).length = 0) (hb : b < 2 ^ 63) : b = 0 := by
  rcases Nat.eq_zero_or_pos b with h0 | h0
  · exact h0
  · rw [zd_pos h0 hb] at h; cases h
theorem zmin_ok {a b : Nat} (ha : a < 2 ^ 31) (hb : b < 2 ^ 31) : (if nI b < nI a then nI b else nI a) = nI (min a b) := by
  by_cases h : b < a
  · rw [if_pos ((nI_ltI hb ha).mpr h), Nat.min_eq_right (by omega)]
  · rw [if_neg (fun q => h ((nI_ltI hb ha).mp q)), Nat.min_eq_left (by omega)]
/-- how many are alike from the first on -/
def zcp : List Nat → List Nat → Nat
  | x :: L, y :: K => if x = y then zcp L K + 1 else 0
  | _, _ => 0
theorem zcp_le : ∀ (L K : List Nat), zcp L K ≤ L.length ∧ zcp L K ≤ K.length
  | [], K => ⟨Nat.le_refl _, Nat.zero_le _⟩
  | x :: L, [] => ⟨Nat.zero_le _, Nat.le_refl _⟩
  | x :: L, y :: K => by
    rw [zcp]
    have h := zcp_le L K
    by_cases e : x = y
    · rw [if_pos e, List.length_cons, List.length_cons]; omega
    · rw [if_neg e]; exact ⟨Nat.zero_le _, Nat.zero_le _⟩
/-- from place i on -/
theorem zcp_drop {L K : List Nat} : ∀ {i : Nat} {a b : Nat}, L[i]? = some a → K[i]? = some b → zcp (L.drop i) (K.drop i) = if a = b then zcp (L.drop (i + 1)) (K.drop (i + 1)) + 1 else 0 := by
  intro i a b ha hb
  have hl := (List.getElem?_eq_some_iff.mp ha)
  have hk := (List.getElem?_eq_some_iff.mp hb)
  obtain ⟨h1, rfl⟩ := hl
  obtain ⟨h2, rfl⟩ := hk
  rw [List.drop_eq_getElem_cons h1, List.drop_eq_getElem_cons h2, zcp]
theorem zcp_end {L K : List Nat} {i : Nat} (h : L.length ≤ i ∨ K.length ≤ i) : zcp (L.drop i) (K.drop i) = 0 := by
  rcases h with h | h
  · rw [List.drop_eq_nil_of_le h]; rfl
  · rw [List.drop_eq_nil_of_le h]
    cases L.drop i <;> rfl
theorem zcp_all : ∀ {L K : List Nat}, L.length = K.length → (zcp L K = L.length ↔ L = K)
  | [], [], _ => by simp [zcp]
  | [], y :: K, h => by simp at h
  | x :: L, [], h => by simp at h
  | x :: L, y :: K, h => by
    rw [zcp, List.length_cons]
    by_cases e : x = y
    · rw [if_pos e]
      have := zcp_all (L := L) (K := K) (by simpa using h)
      simp [e, this]
    · rw [if_neg e]
      simp [e]

theorem zsame_ok {L K : List Nat} (h : L.length = K.length) (h2 : zcp L.reverse K.reverse = L.length) : L = K := by
  have := (zcp_all (L := L.reverse) (K := K.reverse) (by simpa using h)).mp (by rw [h2, List.length_reverse])
  simpa using congrArg List.reverse this

theorem inX5_clear_X5 : ∀ w ∈ u_ws RX5 TX5 2, w ∈ wsX5_clear := by decide +kernel
theorem lkX5_clear_21 : Cond.fieldLink RX5 21 RX5 "length" "I" ∈ wsX5_clear := by decide +kernel
set_option maxHeartbeats 4000000 in
set_option maxRecDepth 100000 in
theorem kkX5_clear (l : Launch) (G : zz_C) (hJ : zz_J G) (M : zz_M) (k cap : Nat) (hk : zz_R k cap) : Met l yX5_clear wsX5_clear ({ frames := 0, cells := 0, slots := 0, locals := 0 } : Room) (zz_P G M [.ref (G.2.2 k)]) (zz_Qv G (fun M1 => zfr [k, k + 1] M M1 ∧ zrow M1 k cap [])) 0 0 (zz_A G) := by
  refine zz_start hJ (by decide) rfl (Nat.le_of_ble_eq_true rfl) ?_
  intro p e s m below meth c E hr hlk
  have hts := E.2.2.2.2.1
  show zz_Z p l e (headSpec wsX5_clear ({ frames := 0, cells := 0, slots := 0, locals := 0 } : Room)).room s m ([.ref (G.2.2 k)] : List Value).toArray below meth c 0 0 (MQ below (zz_Qv G (fun M1 => zfr [k, k + 1] M M1 ∧ zrow M1 k cap [])) ([.ref (G.2.2 k)] : List Value).toArray s 0 0 (zz_A G)) 1 G (zz_A G) M 0 [(0, .ref (G.2.2 k))] []
  refine zz_aload_n (pc := 0) E dX5_clear_0 rfl ?_
  refine zz_iconst (pc := 1) (v := nI 0) E dX5_clear_1 (by decide) ?_
  refine zz_pfj (pc := 2) E k 0 (by have := hk.2.2.1; omega) (zz_F_row hk.1 hk.2.1) rfl inX5_clear_X5 tyX5 tyX5_ok nmX5 1 (by decide) lkX5_clear_21 (fun _ h => h) rfl rfl (Nat.le_of_ble_eq_true rfl) (zz_F_row hk.1 hk.2.1) dX5_clear_2 ?_
  exact zz_vret (pc := 5) E hr hlk dX5_clear_5 ⟨zfr_up (zfr_rf _ _) (by simp), by rw [zz_up_same]; rfl, Nat.zero_le _, trivial, fun _ h => by cases h⟩

theorem inX5_size_X5 : ∀ w ∈ u_ws RX5 TX5 2, w ∈ wsX5_size := by decide +kernel
theorem lkX5_size_21 : Cond.fieldLink RX5 21 RX5 "length" "I" ∈ wsX5_size := by decide +kernel
set_option maxHeartbeats 4000000 in
set_option maxRecDepth 100000 in
theorem kkX5_size (l : Launch) (G : zz_C) (hJ : zz_J G) (M : zz_M) (k cap : Nat) (hk : zz_R k cap) : Met l yX5_size wsX5_size ({ frames := 0, cells := 0, slots := 0, locals := 0 } : Room) (zz_P G M [.ref (G.2.2 k)]) (zz_Qi G (fun r M1 => M = M1 ∧ r = M k 0)) 0 0 (zz_A G) := by
  refine zz_start hJ (by decide) rfl (Nat.le_of_ble_eq_true rfl) ?_
  intro p e s m below meth c E hr hlk
  have hts := E.2.2.2.2.1
  show zz_Z p l e (headSpec wsX5_size ({ frames := 0, cells := 0, slots := 0, locals := 0 } : Room)).room s m ([.ref (G.2.2 k)] : List Value).toArray below meth c 0 0 (MQ below (zz_Qi G (fun r M1 => M = M1 ∧ r = M k 0)) ([.ref (G.2.2 k)] : List Value).toArray s 0 0 (zz_A G)) 1 G (zz_A G) M 0 [(0, .ref (G.2.2 k))] []
  refine zz_aload_n (pc := 0) E dX5_size_0 rfl ?_
  refine zz_gf (pc := 1) E k (by have := hk.2.2.1; omega) (zz_F_row hk.1 hk.2.1) rfl inX5_size_X5 1 (by decide) lkX5_size_21 (fun _ h => h) rfl dX5_size_1 ?_
  exact zz_iret (pc := 4) E hr hlk dX5_size_4 ⟨rfl, rfl⟩

theorem inX5_fromLast_X5 : ∀ w ∈ u_ws RX5 TX5 2, w ∈ wsX5_fromLast := by decide +kernel
theorem lkX5_fromLast_21 : Cond.fieldLink RX5 21 RX5 "length" "I" ∈ wsX5_fromLast := by decide +kernel
theorem lkX5_fromLast_15 : Cond.fieldLink RX5 15 RX5 "signs" "[I" ∈ wsX5_fromLast := by decide +kernel
set_option maxHeartbeats 4000000 in
set_option maxRecDepth 100000 in
theorem kkX5_fromLast (l : Launch) (G : zz_C) (hJ : zz_J G) (M : zz_M) (k cap : Nat) (hk : zz_R k cap) (x : Int32) (L : List Nat) (hL : zrow M k cap L) : Met l yX5_fromLast wsX5_fromLast ({ frames := 0, cells := 0, slots := 0, locals := 0 } : Room) (zz_P G M [.ref (G.2.2 k), .int x]) (zz_Qi G (fun r M1 => M = M1 ∧ r = if zp_in x L.length then zo (L.reverse[x.toInt.toNat]?) else -9)) 0 0 (zz_A G) := by
  refine zz_start hJ (by decide) rfl (Nat.le_of_ble_eq_true rfl) ?_
  intro p e s m below meth c E hr hlk
  have hts := E.2.2.2.2.1
  show zz_Z p l e (headSpec wsX5_fromLast ({ frames := 0, cells := 0, slots := 0, locals := 0 } : Room)).room s m ([.ref (G.2.2 k), .int x] : List Value).toArray below meth c 0 0 (MQ below (zz_Qi G (fun r M1 => M = M1 ∧ r = if zp_in x L.length then zo (L.reverse[x.toInt.toNat]?) else -9)) ([.ref (G.2.2 k), .int x] : List Value).toArray s 0 0 (zz_A G)) 2 G (zz_A G) M 0 [(0, .ref (G.2.2 k)), (1, .int x)] []
  refine zz_iload_n (pc := 0) E dX5_fromLast_0 rfl ?_
  refine zz_if_lt (pc := 1) (tgt := 21) E dX5_fromLast_1 (by decide) (fun h1 => ?_) (fun h1 => ?_)
  · refine zz_bipush (pc := 21) (v := -9) E dX5_fromLast_21 (by decide) ?_
    refine zz_goto (pc := 23) (tgt := 32) E dX5_fromLast_23 (by decide) ?_
    exact zz_iret (pc := 32) E hr hlk dX5_fromLast_32 ⟨rfl, by first | (rw [zp_in_f1 h1]; rfl) | (rw [zp_in_f2 h9 (by have := hL.2.1; have := hk.2.2.2.1; omega)]; rfl) | (rw [hxi, zp_in_nI (by omega), decide_eq_true hi, nI_toInt (by omega)]; exact zS_rev hL.2.2.1 hi)⟩
  · refine zz_iload_n (pc := 4) E dX5_fromLast_4 rfl ?_
    refine zz_aload_n (pc := 5) E dX5_fromLast_5 rfl ?_
    refine zz_gf (pc := 6) E k (by have := hk.2.2.1; omega) (zz_F_row hk.1 hk.2.1) rfl inX5_fromLast_X5 1 (by decide) lkX5_fromLast_21 (fun _ h => h) rfl dX5_fromLast_6 ?_
    refine zz_eqi (y := nI L.length) hL.1 ?_
    refine zz_icmp_ge (pc := 9) (tgt := 21) E dX5_fromLast_9 (by decide) (fun h9 => ?_) (fun h9 => ?_)
    · refine zz_bipush (pc := 21) (v := -9) E dX5_fromLast_21 (by decide) ?_
      refine zz_goto (pc := 23) (tgt := 32) E dX5_fromLast_23 (by decide) ?_
      exact zz_iret (pc := 32) E hr hlk dX5_fromLast_32 ⟨rfl, by first | (rw [zp_in_f1 h1]; rfl) | (rw [zp_in_f2 h9 (by have := hL.2.1; have := hk.2.2.2.1; omega)]; rfl) | (rw [hxi, zp_in_nI (by omega), decide_eq_true hi, nI_toInt (by omega)]; exact zS_rev hL.2.2.1 hi)⟩
    · obtain ⟨i, hi, hxi⟩ := zp_in_of (zp_in_t h1 h9 (by have := hL.2.1; have := hk.2.2.2.1; omega)) (by have := hL.2.1; have := hk.2.2.2.1; omega)
      have hcap := hL.2.1
      have hb := hk.2.2.2.1
      refine zz_iload_n (pc := 12) E dX5_fromLast_12 rfl ?_
      refine zz_eqi (y := nI i) hxi ?_
      refine zz_aload_n (pc := 13) E dX5_fromLast_13 rfl ?_
      refine zz_gf (pc := 14) E k (by have := hk.2.2.1; omega) (zz_F_row hk.1 hk.2.1) rfl inX5_fromLast_X5 0 (by decide) lkX5_fromLast_15 (fun _ h => h) rfl dX5_fromLast_14 ?_
      refine zz_alen (pc := 17) E (k + 1) (n := cap) hk.2.2.1 (hk.2.2.2.2 G _) dX5_fromLast_17 ?_
      refine zn_icmp_lt (pc := 18) (tgt := 26) E dX5_fromLast_18 (by decide) (by omega) (by omega) (fun h18 => ?_) (fun h18 => ?_)
      · refine zz_aload_n (pc := 26) E dX5_fromLast_26 rfl ?_
        refine zz_gf (pc := 27) E k (by have := hk.2.2.1; omega) (zz_F_row hk.1 hk.2.1) rfl inX5_fromLast_X5 0 (by decide) lkX5_fromLast_15 (fun _ h => h) rfl dX5_fromLast_27 ?_
        refine zz_iload_n (pc := 30) E dX5_fromLast_30 rfl ?_
        refine zz_eqi (y := nI i) hxi ?_
        refine zz_iald (pc := 31) E (k + 1) (_) (n := cap) hk.2.2.1 (hk.2.2.2.2 G _) rfl (by omega) hk.2.2.2.1 dX5_fromLast_31 ?_
        exact zz_iret (pc := 32) E hr hlk dX5_fromLast_32 ⟨rfl, by first | (rw [zp_in_f1 h1]; rfl) | (rw [zp_in_f2 h9 (by have := hL.2.1; have := hk.2.2.2.1; omega)]; rfl) | (rw [hxi, zp_in_nI (by omega), decide_eq_true hi, nI_toInt (by omega)]; exact zS_rev hL.2.2.1 hi)⟩
      · exact absurd h18 (by omega)

theorem inX5_fromFirst_X5 : ∀ w ∈ u_ws RX5 TX5 2, w ∈ wsX5_fromFirst := by decide +kernel
theorem lkX5_fromFirst_21 : Cond.fieldLink RX5 21 RX5 "length" "I" ∈ wsX5_fromFirst := by decide +kernel
set_option maxHeartbeats 4000000 in
set_option maxRecDepth 100000 in
theorem kkX5_fromFirst (l : Launch) (G : zz_C) (hJ : zz_J G) (M : zz_M) (k cap : Nat) (hk : zz_R k cap) (i : Nat) (L : List Nat) (hL : zrow M k cap L) (hi : i < 2 ^ 31) : Met l yX5_fromFirst wsX5_fromFirst ({ frames := 1, cells := 0, slots := 0, locals := 21 } : Room) (zz_P G M [.ref (G.2.2 k), .int (nI i)]) (zz_Qi G (fun r M1 => M = M1 ∧ r = zo (L[i]?))) 0 0 (zz_A G) := by
  refine zz_start hJ (by decide) rfl (Nat.le_of_ble_eq_true rfl) ?_
  intro p e s m below meth c E hr hlk
  have hts := E.2.2.2.2.1
  show zz_Z p l e (headSpec wsX5_fromFirst ({ frames := 1, cells := 0, slots := 0, locals := 21 } : Room)).room s m ([.ref (G.2.2 k), .int (nI i)] : List Value).toArray below meth c 0 0 (MQ below (zz_Qi G (fun r M1 => M = M1 ∧ r = zo (L[i]?))) ([.ref (G.2.2 k), .int (nI i)] : List Value).toArray s 0 0 (zz_A G)) 2 G (zz_A G) M 0 [(0, .ref (G.2.2 k)), (1, .int (nI i))] []
  refine zz_aload_n (pc := 0) E dX5_fromFirst_0 rfl ?_
  refine zz_aload_n (pc := 1) E dX5_fromFirst_1 rfl ?_
  refine zz_gf (pc := 2) E k (by have := hk.2.2.1; omega) (zz_F_row hk.1 hk.2.1) rfl inX5_fromFirst_X5 1 (by decide) lkX5_fromFirst_21 (fun _ h => h) rfl dX5_fromFirst_2 ?_
  refine zz_eqi (y := nI L.length) hL.1 ?_
  refine zz_iconst (pc := 5) (v := nI 1) E dX5_fromFirst_5 (by decide) ?_
  refine zz_isub (pc := 6) E dX5_fromFirst_6 ?_
  refine zz_iload_n (pc := 7) E dX5_fromFirst_7 rfl ?_
  refine zz_isub (pc := 8) E dX5_fromFirst_8 ?_
  refine zz_ciV (pc := 9) E k (kkX5_fromLast l G hJ _ _ _ hk _ L hL) (cwV 1 hts gX5_fromFirst_X5_fromLast rfl rfl rfl (by decide +kernel) ⟨Nat.le_of_ble_eq_true rfl, Nat.le_of_ble_eq_true rfl⟩) (by have := hk.2.2.1; omega) (zz_F_row hk.1 hk.2.1) rfl rfl rfl (Nat.le_of_ble_eq_true rfl) dX5_fromFirst_9 (fun r9 M9 q9 => ?_)
  obtain ⟨rfl, rfl⟩ := q9
  exact zz_iret (pc := 12) E hr hlk dX5_fromFirst_12 ⟨rfl, zrow_ff hi (by have := hL.2.1; have := hk.2.2.2.1; omega)⟩

theorem inX5_dropFirst_X5 : ∀ w ∈ u_ws RX5 TX5 2, w ∈ wsX5_dropFirst := by decide +kernel
theorem lkX5_dropFirst_21 : Cond.fieldLink RX5 21 RX5 "length" "I" ∈ wsX5_dropFirst := by decide +kernel
theorem mmX5_dropFirst_9_ml : Cond.methodLink RX5 9 Lib.Math.max.name ∈ wsX5_dropFirst := by decide +kernel
theorem mmX5_dropFirst_9_st : Cond.static Lib.Math.max.name ∈ wsX5_dropFirst := by decide +kernel
theorem mmX5_dropFirst_9_in : Cond.initialized "java/lang/Math" ∈ wsX5_dropFirst := by decide +kernel
theorem mmX5_dropFirst_9_co : Cond.code Lib.Math.max.name Lib.Math.max.code 2 (some .int) ∈ wsX5_dropFirst := by decide +kernel
set_option maxHeartbeats 4000000 in
set_option maxRecDepth 100000 in
theorem kkX5_dropFirst (l : Launch) (G : zz_C) (hJ : zz_J G) (M : zz_M) (k cap : Nat) (hk : zz_R k cap) (L : List Nat) (hL : zrow M k cap L) : Met l yX5_dropFirst wsX5_dropFirst ({ frames := 1, cells := 0, slots := 0, locals := 21 } : Room) (zz_P G M [.ref (G.2.2 k)]) (zz_Qv G (fun M1 => zfr [k, k + 1] M M1 ∧ zrow M1 k cap L.tail)) 0 0 (zz_A G) := by
  refine zz_start hJ (by decide) rfl (Nat.le_of_ble_eq_true rfl) ?_
  intro p e s m below meth c E hr hlk
  have hts := E.2.2.2.2.1
  show zz_Z p l e (headSpec wsX5_dropFirst ({ frames := 1, cells := 0, slots := 0, locals := 21 } : Room)).room s m ([.ref (G.2.2 k)] : List Value).toArray below meth c 0 0 (MQ below (zz_Qv G (fun M1 => zfr [k, k + 1] M M1 ∧ zrow M1 k cap L.tail)) ([.ref (G.2.2 k)] : List Value).toArray s 0 0 (zz_A G)) 1 G (zz_A G) M 0 [(0, .ref (G.2.2 k))] []
  refine zz_aload_n (pc := 0) E dX5_dropFirst_0 rfl ?_
  refine zz_aload_n (pc := 1) E dX5_dropFirst_1 rfl ?_
  refine zz_gf (pc := 2) E k (by have := hk.2.2.1; omega) (zz_F_row hk.1 hk.2.1) rfl inX5_dropFirst_X5 1 (by decide) lkX5_dropFirst_21 (fun _ h => h) rfl dX5_dropFirst_2 ?_
  refine zz_eqi (y := nI L.length) hL.1 ?_
  refine zz_iconst (pc := 5) (v := nI 1) E dX5_dropFirst_5 (by decide) ?_
  refine zz_isub (pc := 6) E dX5_dropFirst_6 ?_
  refine zz_iconst (pc := 7) (v := nI 0) E dX5_dropFirst_7 (by decide) ?_
  refine zz_max (rest := []) (pc := 8) E mmX5_dropFirst_9_ml mmX5_dropFirst_9_st mmX5_dropFirst_9_in mmX5_dropFirst_9_co (by decide) (Nat.le_of_ble_eq_true rfl) dX5_dropFirst_8 ?_
  refine zz_eqi (y := nI L.tail.length) (zrow_mx (by have := hL.2.1; have := hk.2.2.2.1; omega)) ?_
  refine zz_pfj (pc := 11) E k 0 (by have := hk.2.2.1; omega) (zz_F_row hk.1 hk.2.1) rfl inX5_dropFirst_X5 tyX5 tyX5_ok nmX5 1 (by decide) lkX5_dropFirst_21 (fun _ h => h) rfl rfl (Nat.le_of_ble_eq_true rfl) (zz_F_row hk.1 hk.2.1) dX5_dropFirst_11 ?_
  exact zz_vret (pc := 14) E hr hlk dX5_dropFirst_14 ⟨zfr_up (zfr_rf _ _) (by simp), by rw [zz_up_same]; rfl, by have := hL.2.1; rw [List.length_tail]; omega, zS_tail (by rw [zz_up_ne _ _ (by omega)]; exact hL.2.2.1), fun x h => hL.2.2.2 x (List.mem_of_mem_tail h)⟩

theorem inX5_putFirst_X5 : ∀ w ∈ u_ws RX5 TX5 2, w ∈ wsX5_putFirst := by decide +kernel
theorem lkX5_putFirst_21 : Cond.fieldLink RX5 21 RX5 "length" "I" ∈ wsX5_putFirst := by decide +kernel
theorem lkX5_putFirst_15 : Cond.fieldLink RX5 15 RX5 "signs" "[I" ∈ wsX5_putFirst := by decide +kernel
set_option maxHeartbeats 4000000 in
set_option maxRecDepth 100000 in
theorem kkX5_putFirst (l : Launch) (G : zz_C) (hJ : zz_J G) (M : zz_M) (k cap : Nat) (hk : zz_R k cap) (a : Nat) (L : List Nat) (hL : zrow M k cap L) (hc : L.length < cap) (ha : a < 10) : Met l yX5_putFirst wsX5_putFirst ({ frames := 0, cells := 0, slots := 0, locals := 0 } : Room) (zz_P G M [.ref (G.2.2 k), .int (nI a)]) (zz_Qv G (fun M1 => zfr [k, k + 1] M M1 ∧ zrow M1 k cap (a :: L))) 0 0 (zz_A G) := by
  refine zz_start hJ (by decide) rfl (Nat.le_of_ble_eq_true rfl) ?_
  intro p e s m below meth c E hr hlk
  have hts := E.2.2.2.2.1
  show zz_Z p l e (headSpec wsX5_putFirst ({ frames := 0, cells := 0, slots := 0, locals := 0 } : Room)).room s m ([.ref (G.2.2 k), .int (nI a)] : List Value).toArray below meth c 0 0 (MQ below (zz_Qv G (fun M1 => zfr [k, k + 1] M M1 ∧ zrow M1 k cap (a :: L))) ([.ref (G.2.2 k), .int (nI a)] : List Value).toArray s 0 0 (zz_A G)) 2 G (zz_A G) M 0 [(0, .ref (G.2.2 k)), (1, .int (nI a))] []
  have hb := hk.2.2.2.1
  refine zz_aload_n (pc := 0) E dX5_putFirst_0 rfl ?_
  refine zz_gf (pc := 1) E k (by have := hk.2.2.1; omega) (zz_F_row hk.1 hk.2.1) rfl inX5_putFirst_X5 1 (by decide) lkX5_putFirst_21 (fun _ h => h) rfl dX5_putFirst_1 ?_
  refine zz_eqi (y := nI L.length) hL.1 ?_
  refine zz_aload_n (pc := 4) E dX5_putFirst_4 rfl ?_
  refine zz_gf (pc := 5) E k (by have := hk.2.2.1; omega) (zz_F_row hk.1 hk.2.1) rfl inX5_putFirst_X5 0 (by decide) lkX5_putFirst_15 (fun _ h => h) rfl dX5_putFirst_5 ?_
  refine zz_alen (pc := 8) E (k + 1) (n := cap) hk.2.2.1 (hk.2.2.2.2 G _) dX5_putFirst_8 ?_
  refine zn_icmp_ge (pc := 9) (tgt := 32) E dX5_putFirst_9 (by decide) (by omega) (by omega) (fun h9 => ?_) (fun h9 => ?_)
  · exact absurd h9 (by omega)
  · refine zz_aload_n (pc := 12) E dX5_putFirst_12 rfl ?_
    refine zz_gf (pc := 13) E k (by have := hk.2.2.1; omega) (zz_F_row hk.1 hk.2.1) rfl inX5_putFirst_X5 0 (by decide) lkX5_putFirst_15 (fun _ h => h) rfl dX5_putFirst_13 ?_
    refine zz_aload_n (pc := 16) E dX5_putFirst_16 rfl ?_
    refine zz_gf (pc := 17) E k (by have := hk.2.2.1; omega) (zz_F_row hk.1 hk.2.1) rfl inX5_putFirst_X5 1 (by decide) lkX5_putFirst_21 (fun _ h => h) rfl dX5_putFirst_17 ?_
    refine zz_eqi (y := nI L.length) hL.1 ?_
    refine zz_iload_n (pc := 20) E dX5_putFirst_20 rfl ?_
    refine zz_iast (pc := 21) E (k + 1) (_) (n := cap) hk.2.2.1 (hk.2.2.2.2 G) rfl (by omega) hk.2.2.2.1 dX5_putFirst_21 ?_
    refine zz_aload_n (pc := 22) E dX5_putFirst_22 rfl ?_
    refine zz_dup (pc := 23) E dX5_putFirst_23 rfl ?_
    refine zz_gf (pc := 24) E k (by have := hk.2.2.1; omega) (zz_F_row hk.1 hk.2.1) rfl inX5_putFirst_X5 1 (by decide) lkX5_putFirst_21 (fun _ h => h) rfl dX5_putFirst_24 ?_
    refine zz_eqi (y := nI L.length) (by rw [zz_up_ne _ _ (by omega)]; exact hL.1) ?_
    refine zz_iconst (pc := 27) (v := nI 1) E dX5_putFirst_27 (by decide) ?_
    refine zn_iadd (pc := 28) E dX5_putFirst_28 ?_
    refine zz_pfj (pc := 29) E k 0 (by have := hk.2.2.1; omega) (zz_F_row hk.1 hk.2.1) rfl inX5_putFirst_X5 tyX5 tyX5_ok nmX5 1 (by decide) lkX5_putFirst_21 (fun _ h => h) rfl rfl (Nat.le_of_ble_eq_true rfl) (zz_F_row hk.1 hk.2.1) dX5_putFirst_29 ?_
    exact zz_vret (pc := 32) E hr hlk dX5_putFirst_32 ⟨zfr_up (zfr_up (zfr_rf _ _) (by simp)) (by simp), by rw [zz_up_same]; rfl, hc, by rw [zz_up_ne _ _ (by omega), zz_up_same]; exact zS_push hL.2.2.1, fun x h => by rcases List.mem_cons.mp h with rfl | h; exact ha; exact hL.2.2.2 x h⟩

theorem clX5_putRowAhead_29 : Cond.constantLong RX5 29 (10) ∈ wsX5_putRowAhead := by decide +kernel
set_option maxHeartbeats 4000000 in
set_option maxRecDepth 100000 in
theorem kkX5_putRowAhead (l : Launch) (G : zz_C) (hJ : zz_J G) (M : zz_M) (k cap : Nat) (hk : zz_R k cap) (a kn : Nat) (L : List Nat) (hL : zrow M k cap L) (hz : zok a kn 20 = true) (ha : a < 2 ^ 63) (hc : (zd a).length + L.length ≤ cap) : Met l yX5_putRowAhead wsX5_putRowAhead ({ frames := 1, cells := 0, slots := 0, locals := 21 } : Room) (zz_P G M [.ref (G.2.2 k), .long (lN a)]) (zz_Qv G (fun M1 => zfr [k, k + 1] M M1 ∧ zrow M1 k cap (zr a ++ L))) 0 0 (zz_A G) := by
  refine zz_start hJ (by decide) rfl (Nat.le_of_ble_eq_true rfl) ?_
  intro p e s m below meth c E hr hlk
  have hts := E.2.2.2.2.1
  show zz_Z p l e (headSpec wsX5_putRowAhead ({ frames := 1, cells := 0, slots := 0, locals := 21 } : Room)).room s m ([.ref (G.2.2 k), .long (lN a)] : List Value).toArray below meth c 0 0 (MQ below (zz_Qv G (fun M1 => zfr [k, k + 1] M M1 ∧ zrow M1 k cap (zr a ++ L))) ([.ref (G.2.2 k), .long (lN a)] : List Value).toArray s 0 0 (zz_A G)) 5 G (zz_A G) M 0 [(0, .ref (G.2.2 k)), (1, .long (lN a))] []
  refine zz_lload_n (pc := 0) E dX5_putRowAhead_0 rfl ?_
  refine zz_lstore_n (pc := 1) (lv' := [(0, _), (1, _), (3, _)]) E dX5_putRowAhead_1 (by decide) rfl ?_
  have key : ∀ (j b : Nat) (M2 : zz_M) (K : List Nat), (zd b).length = j → b < 2 ^ 63 → zok b kn 20 = true → zfr [k, k + 1] M M2 → zrow M2 k cap K → j + K.length ≤ cap → zr a ++ L = zr b ++ K → zz_Z p l e (headSpec wsX5_putRowAhead ({ frames := 1, cells := 0, slots := 0, locals := 21 } : Room)).room s m ([.ref (G.2.2 k), .long (lN a)] : List Value).toArray below meth c 0 0 (MQ below (zz_Qv G (fun M1 => zfr [k, k + 1] M M1 ∧ zrow M1 k cap (zr a ++ L))) ([.ref (G.2.2 k), .long (lN a)] : List Value).toArray s 0 0 (zz_A G)) 5 G (zz_A G) M2 2 [(0, .ref (G.2.2 k)), (3, .long (lN b))] [] := by
    intro j
    induction j with
    | zero =>
      intro b M2 K hj hb hzb hf hw hc2 he
      have hb0 := zd_len0 hj hb
      subst hb0
      refine zz_lload_n (pc := 2) E dX5_putRowAhead_2 rfl ?_
      refine zz_lconst (pc := 3) (v := lN 0) E dX5_putRowAhead_3 rfl ?_
      refine zn_lcmp_le (pc := 4) (tgt := 29) E dX5_putRowAhead_4 dX5_putRowAhead_5 (by decide) (by omega) (by omega) (fun h5 => ?_) (fun h5 => ?_)
      · exact zz_vret (pc := 29) E hr hlk dX5_putRowAhead_29 ⟨hf, by rw [he, zr_0]; exact hw⟩
      · exact absurd h5 (by omega)
    | succ j ih =>
      intro b M2 K hj hb hzb hf hw hc2 he
      have h0 : 0 < b := by
        rcases Nat.eq_zero_or_pos b with h | h
        · rw [h] at hj; cases hj
        · exact h
      have hd := zok_digit hzb h0 hb
      rw [zd_pos h0 hb, List.length_cons] at hj
      refine zz_lload_n (pc := 2) E dX5_putRowAhead_2 rfl ?_
      refine zz_lconst (pc := 3) (v := lN 0) E dX5_putRowAhead_3 rfl ?_
      refine zn_lcmp_le (pc := 4) (tgt := 29) E dX5_putRowAhead_4 dX5_putRowAhead_5 (by decide) (by omega) (by omega) (fun h5 => ?_) (fun h5 => ?_)
      · exact absurd h5 (by omega)
      · refine zz_aload_n (pc := 8) E dX5_putRowAhead_8 rfl ?_
        refine zz_lload_n (pc := 9) E dX5_putRowAhead_9 rfl ?_
        refine zz_ldc2 (pc := 10) (v := lN 10) E clX5_putRowAhead_29 dX5_putRowAhead_10 ?_
        refine zn_lrem (pc := 13) E dX5_putRowAhead_13 (by omega) (by omega) (by omega) ?_
        refine zn_l2i (pc := 14) E dX5_putRowAhead_14 ?_
        refine zz_iconst (pc := 15) (v := nI 1) E dX5_putRowAhead_15 (by decide) ?_
        refine zn_isub (pc := 16) E dX5_putRowAhead_16 (by omega) ?_
        refine zz_cvV (pc := 17) E k (kkX5_putFirst l G hJ _ _ _ hk _ K hw (by omega) (by omega)) (cwV 1 hts gX5_putRowAhead_X5_putFirst rfl rfl rfl (by decide +kernel) ⟨Nat.le_of_ble_eq_true rfl, Nat.le_of_ble_eq_true rfl⟩) (by have := hk.2.2.1; omega) (zz_F_row hk.1 hk.2.1) rfl rfl rfl (Nat.le_of_ble_eq_true rfl) dX5_putRowAhead_17 (fun M17 q17 => ?_)
        obtain ⟨f17, w17⟩ := q17
        refine zz_lload_n (pc := 20) E dX5_putRowAhead_20 rfl ?_
        refine zz_ldc2 (pc := 21) (v := lN 10) E clX5_putRowAhead_29 dX5_putRowAhead_21 ?_
        refine zn_ldiv (pc := 24) E dX5_putRowAhead_24 (by omega) (by omega) (by omega) ?_
        refine zz_lstore_n (pc := 25) (lv' := [(0, _), (3, _)]) E dX5_putRowAhead_25 (by decide) rfl ?_
        refine zz_goto (pc := 26) (tgt := 2) E dX5_putRowAhead_26 (by decide) ?_
        exact zz_to (ih (b / 10) M17 ((b % 10 - 1) :: K) (by omega) (by omega) (zok_half hzb hb) (zfr_tr hf f17 (fun _ h => h)) w17 (by rw [List.length_cons]; omega) (by rw [he, zr_pos h0 hb]; simp)) ⟨rfl, rfl, trivial⟩
  exact zz_to (key _ a M L rfl ha hz (zfr_rf _ _) hL hc rfl) ⟨rfl, rfl, trivial⟩

theorem inX5_putAllAhead_X5 : ∀ w ∈ u_ws RX5 TX5 2, w ∈ wsX5_putAllAhead := by decide +kernel
theorem lkX5_putAllAhead_21 : Cond.fieldLink RX5 21 RX5 "length" "I" ∈ wsX5_putAllAhead := by decide +kernel
theorem lkX5_putAllAhead_15 : Cond.fieldLink RX5 15 RX5 "signs" "[I" ∈ wsX5_putAllAhead := by decide +kernel
theorem mmX5_putAllAhead_35_ml : Cond.methodLink RX5 35 arraycopyName ∈ wsX5_putAllAhead := by decide +kernel
theorem mmX5_putAllAhead_35_na : Cond.native arraycopyName ∈ wsX5_putAllAhead := by decide +kernel
theorem mmX5_putAllAhead_35_st : Cond.static arraycopyName ∈ wsX5_putAllAhead := by decide +kernel
theorem mmX5_putAllAhead_35_in : Cond.initialized "java/lang/System" ∈ wsX5_putAllAhead := by decide +kernel
set_option maxHeartbeats 4000000 in
set_option maxRecDepth 100000 in
theorem kkX5_putAllAhead (l : Launch) (G : zz_C) (hJ : zz_J G) (M : zz_M) (k cap : Nat) (hk : zz_R k cap) (k2 cap2 : Nat) (hk2 : zz_R k2 cap2) (L L2 : List Nat) (hL : zrow M k cap L) (hL2 : zrow M k2 cap2 L2) (hne : k2 ≠ k) (hn1 : k2 ≠ k + 1) (hc : L2.length + L.length ≤ cap) : Met l yX5_putAllAhead wsX5_putAllAhead ({ frames := 1, cells := 0, slots := 0, locals := 60 } : Room) (zz_P G M [.ref (G.2.2 k), .ref (G.2.2 k2)]) (zz_Qv G (fun M1 => zfr [k, k + 1] M M1 ∧ zrow M1 k cap (L2 ++ L))) 0 0 (zz_A G) := by
  refine zz_start hJ (by decide) rfl (Nat.le_of_ble_eq_true rfl) ?_
  intro p e s m below meth c E hr hlk
  have hts := E.2.2.2.2.1
  show zz_Z p l e (headSpec wsX5_putAllAhead ({ frames := 1, cells := 0, slots := 0, locals := 60 } : Room)).room s m ([.ref (G.2.2 k), .ref (G.2.2 k2)] : List Value).toArray below meth c 0 0 (MQ below (zz_Qv G (fun M1 => zfr [k, k + 1] M M1 ∧ zrow M1 k cap (L2 ++ L))) ([.ref (G.2.2 k), .ref (G.2.2 k2)] : List Value).toArray s 0 0 (zz_A G)) 2 G (zz_A G) M 0 [(0, .ref (G.2.2 k)), (1, .ref (G.2.2 k2))] []
  have hb := hk.2.2.2.1
  have hb2 := hk2.2.2.2.1
  have hcc := hL2.2.1
  refine zz_aload_n (pc := 0) E dX5_putAllAhead_0 rfl ?_
  refine zz_gf (pc := 1) E k2 (by have := hk2.2.2.1; omega) (zz_F_row hk2.1 hk2.2.1) rfl inX5_putAllAhead_X5 1 (by decide) lkX5_putAllAhead_21 (fun _ h => h) rfl dX5_putAllAhead_1 ?_
  refine zz_eqi (y := nI L2.length) hL2.1 ?_
  refine zz_aload_n (pc := 4) E dX5_putAllAhead_4 rfl ?_
  refine zz_gf (pc := 5) E k (by have := hk.2.2.1; omega) (zz_F_row hk.1 hk.2.1) rfl inX5_putAllAhead_X5 0 (by decide) lkX5_putAllAhead_15 (fun _ h => h) rfl dX5_putAllAhead_5 ?_
  refine zz_alen (pc := 8) E (k + 1) (n := cap) hk.2.2.1 (hk.2.2.2.2 G _) dX5_putAllAhead_8 ?_
  refine zz_aload_n (pc := 9) E dX5_putAllAhead_9 rfl ?_
  refine zz_gf (pc := 10) E k (by have := hk.2.2.1; omega) (zz_F_row hk.1 hk.2.1) rfl inX5_putAllAhead_X5 1 (by decide) lkX5_putAllAhead_21 (fun _ h => h) rfl dX5_putAllAhead_10 ?_
  refine zz_eqi (y := nI L.length) hL.1 ?_
  refine zn_isub (pc := 13) E dX5_putAllAhead_13 (by omega) ?_
  refine zn_icmp_gt (pc := 14) (tgt := 50) E dX5_putAllAhead_14 (by decide) (by omega) (by omega) (fun h14 => ?_) (fun h14 => ?_)
  · exact absurd h14 (by omega)
  · refine zz_aload_n (pc := 17) E dX5_putAllAhead_17 rfl ?_
    refine zz_gf (pc := 18) E k2 (by have := hk2.2.2.1; omega) (zz_F_row hk2.1 hk2.2.1) rfl inX5_putAllAhead_X5 0 (by decide) lkX5_putAllAhead_15 (fun _ h => h) rfl dX5_putAllAhead_18 ?_
    refine zz_iconst (pc := 21) (v := nI 0) E dX5_putAllAhead_21 (by decide) ?_
    refine zz_aload_n (pc := 22) E dX5_putAllAhead_22 rfl ?_
    refine zz_gf (pc := 23) E k (by have := hk.2.2.1; omega) (zz_F_row hk.1 hk.2.1) rfl inX5_putAllAhead_X5 0 (by decide) lkX5_putAllAhead_15 (fun _ h => h) rfl dX5_putAllAhead_23 ?_
    refine zz_aload_n (pc := 26) E dX5_putAllAhead_26 rfl ?_
    refine zz_gf (pc := 27) E k (by have := hk.2.2.1; omega) (zz_F_row hk.1 hk.2.1) rfl inX5_putAllAhead_X5 1 (by decide) lkX5_putAllAhead_21 (fun _ h => h) rfl dX5_putAllAhead_27 ?_
    refine zz_eqi (y := nI L.length) hL.1 ?_
    refine zz_aload_n (pc := 30) E dX5_putAllAhead_30 rfl ?_
    refine zz_gf (pc := 31) E k2 (by have := hk2.2.2.1; omega) (zz_F_row hk2.1 hk2.2.1) rfl inX5_putAllAhead_X5 1 (by decide) lkX5_putAllAhead_21 (fun _ h => h) rfl dX5_putAllAhead_31 ?_
    refine zz_eqi (y := nI L2.length) hL2.1 ?_
    refine zz_acopy (pc := 34) E (k2 + 1) (k + 1) (n0 := cap2) (n1 := cap) hk2.2.2.1 hk.2.2.1 (hk2.2.2.2.2 G _) (hk.2.2.2.2 G) rfl rfl rfl (by omega) (by omega) hk2.2.2.2.1 hk.2.2.2.1 mmX5_putAllAhead_35_ml mmX5_putAllAhead_35_na mmX5_putAllAhead_35_st mmX5_putAllAhead_35_in (by decide) (Nat.le_of_ble_eq_true rfl) dX5_putAllAhead_34 ?_
    refine zz_aload_n (pc := 37) E dX5_putAllAhead_37 rfl ?_
    refine zz_dup (pc := 38) E dX5_putAllAhead_38 rfl ?_
    refine zz_gf (pc := 39) E k (by have := hk.2.2.1; omega) (zz_F_row hk.1 hk.2.1) rfl inX5_putAllAhead_X5 1 (by decide) lkX5_putAllAhead_21 (fun _ h => h) rfl dX5_putAllAhead_39 ?_
    refine zz_eqi (y := nI L.length) (by rw [zz_up_ne _ _ (by omega)]; exact hL.1) ?_
    refine zz_aload_n (pc := 42) E dX5_putAllAhead_42 rfl ?_
    refine zz_gf (pc := 43) E k2 (by have := hk2.2.2.1; omega) (zz_F_row hk2.1 hk2.2.1) rfl inX5_putAllAhead_X5 1 (by decide) lkX5_putAllAhead_21 (fun _ h => h) rfl dX5_putAllAhead_43 ?_
    refine zz_eqi (y := nI L2.length) (by rw [zz_up_ne _ _ hn1]; exact hL2.1) ?_
    refine zn_iadd (pc := 46) E dX5_putAllAhead_46 ?_
    refine zz_pfj (pc := 47) E k 0 (by have := hk.2.2.1; omega) (zz_F_row hk.1 hk.2.1) rfl inX5_putAllAhead_X5 tyX5 tyX5_ok nmX5 1 (by decide) lkX5_putAllAhead_21 (fun _ h => h) rfl rfl (Nat.le_of_ble_eq_true rfl) (zz_F_row hk.1 hk.2.1) dX5_putAllAhead_47 ?_
    exact zz_vret (pc := 50) E hr hlk dX5_putAllAhead_50 ⟨zfr_up (zfr_up (zfr_rf _ _) (by simp)) (by simp), by rw [zz_up_same, upd_same, List.length_append, Nat.add_comm], by rw [List.length_append]; omega, by rw [zz_up_ne _ _ (by omega), zz_up_same]; exact zS_cpy hL.2.2.1 hL2.2.2.1 (Nat.le_refl _), fun x h => by rcases List.mem_append.mp h with h | h; exact hL2.2.2.2 x h; exact hL.2.2.2 x h⟩

theorem inX5_sameFromFirst_X5 : ∀ w ∈ u_ws RX5 TX5 2, w ∈ wsX5_sameFromFirst := by decide +kernel
theorem lkX5_sameFromFirst_21 : Cond.fieldLink RX5 21 RX5 "length" "I" ∈ wsX5_sameFromFirst := by decide +kernel
theorem mmX5_sameFromFirst_41_ml : Cond.methodLink RX5 41 Lib.Math.min.name ∈ wsX5_sameFromFirst := by decide +kernel
theorem mmX5_sameFromFirst_41_st : Cond.static Lib.Math.min.name ∈ wsX5_sameFromFirst := by decide +kernel
theorem mmX5_sameFromFirst_41_in : Cond.initialized "java/lang/Math" ∈ wsX5_sameFromFirst := by decide +kernel
theorem mmX5_sameFromFirst_41_co : Cond.code Lib.Math.min.name Lib.Math.min.code 2 (some .int) ∈ wsX5_sameFromFirst := by decide +kernel
set_option maxHeartbeats 4000000 in
set_option maxRecDepth 100000 in
theorem kkX5_sameFromFirst (l : Launch) (G : zz_C) (hJ : zz_J G) (M : zz_M) (k cap : Nat) (hk : zz_R k cap) (k2 cap2 : Nat) (hk2 : zz_R k2 cap2) (L L2 : List Nat) (hL : zrow M k cap L) (hL2 : zrow M k2 cap2 L2) : Met l yX5_sameFromFirst wsX5_sameFromFirst ({ frames := 2, cells := 0, slots := 0, locals := 42 } : Room) (zz_P G M [.ref (G.2.2 k), .ref (G.2.2 k2)]) (zz_Qi G (fun r M1 => M = M1 ∧ r = nI (zcp (L) (L2)))) 0 0 (zz_A G) := by
  refine zz_start hJ (by decide) rfl (Nat.le_of_ble_eq_true rfl) ?_
  intro p e s m below meth c E hr hlk
  have hts := E.2.2.2.2.1
  show zz_Z p l e (headSpec wsX5_sameFromFirst ({ frames := 2, cells := 0, slots := 0, locals := 42 } : Room)).room s m ([.ref (G.2.2 k), .ref (G.2.2 k2)] : List Value).toArray below meth c 0 0 (MQ below (zz_Qi G (fun r M1 => M = M1 ∧ r = nI (zcp (L) (L2)))) ([.ref (G.2.2 k), .ref (G.2.2 k2)] : List Value).toArray s 0 0 (zz_A G)) 4 G (zz_A G) M 0 [(0, .ref (G.2.2 k)), (1, .ref (G.2.2 k2))] []
  have hb1 := hk.2.2.2.1
  have hb2 := hk2.2.2.2.1
  have hc1 := hL.2.1
  have hc2 := hL2.2.1
  refine zz_aload_n (pc := 0) E dX5_sameFromFirst_0 rfl ?_
  refine zz_gf (pc := 1) E k (by have := hk.2.2.1; omega) (zz_F_row hk.1 hk.2.1) rfl inX5_sameFromFirst_X5 1 (by decide) lkX5_sameFromFirst_21 (fun _ h => h) rfl dX5_sameFromFirst_1 ?_
  refine zz_eqi (y := nI L.length) hL.1 ?_
  refine zz_aload_n (pc := 4) E dX5_sameFromFirst_4 rfl ?_
  refine zz_gf (pc := 5) E k2 (by have := hk2.2.2.1; omega) (zz_F_row hk2.1 hk2.2.1) rfl inX5_sameFromFirst_X5 1 (by decide) lkX5_sameFromFirst_21 (fun _ h => h) rfl dX5_sameFromFirst_5 ?_
  refine zz_eqi (y := nI L2.length) hL2.1 ?_
  refine zz_min (rest := []) (pc := 8) E mmX5_sameFromFirst_41_ml mmX5_sameFromFirst_41_st mmX5_sameFromFirst_41_in mmX5_sameFromFirst_41_co (by decide) (Nat.le_of_ble_eq_true rfl) dX5_sameFromFirst_8 ?_
  refine zz_eqi (y := nI (min L.length L2.length)) (zmin_ok (by omega) (by omega)) ?_
  refine zz_istore_n (pc := 11) (lv' := [(0, _), (1, _), (2, _)]) E dX5_sameFromFirst_11 (by decide) rfl ?_
  refine zz_iconst (pc := 12) (v := nI 0) E dX5_sameFromFirst_12 (by decide) ?_
  refine zz_istore_n (pc := 13) (lv' := [(0, _), (1, _), (2, _), (3, _)]) E dX5_sameFromFirst_13 (by decide) rfl ?_
  have key : ∀ (j i : Nat), i + j = min L.length L2.length → i + zcp ((L).drop i) ((L2).drop i) = zcp (L) (L2) → zz_Z p l e (headSpec wsX5_sameFromFirst ({ frames := 2, cells := 0, slots := 0, locals := 42 } : Room)).room s m ([.ref (G.2.2 k), .ref (G.2.2 k2)] : List Value).toArray below meth c 0 0 (MQ below (zz_Qi G (fun r M1 => M = M1 ∧ r = nI (zcp (L) (L2)))) ([.ref (G.2.2 k), .ref (G.2.2 k2)] : List Value).toArray s 0 0 (zz_A G)) 4 G (zz_A G) M 14 [(0, .ref (G.2.2 k)), (1, .ref (G.2.2 k2)), (2, .int (nI (min L.length L2.length))), (3, .int (nI i))] [] := by
    intro j
    induction j with
    | zero =>
      intro i hi hz
      refine zz_iload_n (pc := 14) E dX5_sameFromFirst_14 rfl ?_
      refine zz_iload_n (pc := 15) E dX5_sameFromFirst_15 rfl ?_
      refine zn_icmp_ge (pc := 16) (tgt := 38) E dX5_sameFromFirst_16 (by decide) (by omega) (by omega) (fun h16 => ?_) (fun h16 => ?_)
      · refine zz_iload_n (pc := 38) E dX5_sameFromFirst_38 rfl ?_
        exact zz_iret (pc := 39) E hr hlk dX5_sameFromFirst_39 ⟨rfl, by rw [zcp_end (by (try simp only [List.length_reverse]); omega)] at hz; rw [← hz]; rfl⟩
      · exact absurd h16 (by omega)
    | succ j ih =>
      intro i hi hz
      obtain ⟨a, ha⟩ : ∃ a, (L)[i]? = some a := ⟨_, List.getElem?_eq_getElem (by (try simp only [List.length_reverse]); omega)⟩
      obtain ⟨b, hb⟩ : ∃ a, (L2)[i]? = some a := ⟨_, List.getElem?_eq_getElem (by (try simp only [List.length_reverse]); omega)⟩
      have ha10 : a < 10 := hL.2.2.2 a (by have := List.mem_of_getElem? ha; simpa using this)
      have hb10 : b < 10 := hL2.2.2.2 b (by have := List.mem_of_getElem? hb; simpa using this)
      rw [zcp_drop ha hb] at hz
      refine zz_iload_n (pc := 14) E dX5_sameFromFirst_14 rfl ?_
      refine zz_iload_n (pc := 15) E dX5_sameFromFirst_15 rfl ?_
      refine zn_icmp_ge (pc := 16) (tgt := 38) E dX5_sameFromFirst_16 (by decide) (by omega) (by omega) (fun h16 => ?_) (fun h16 => ?_)
      · exact absurd h16 (by omega)
      · refine zz_aload_n (pc := 19) E dX5_sameFromFirst_19 rfl ?_
        refine zz_iload_n (pc := 20) E dX5_sameFromFirst_20 rfl ?_
        refine zz_ciV (pc := 21) E k (kkX5_fromFirst l G hJ _ _ _ hk _ L hL (by omega)) (cwV 1 hts gX5_sameFromFirst_X5_fromFirst rfl rfl rfl (by decide +kernel) ⟨Nat.le_of_ble_eq_true rfl, Nat.le_of_ble_eq_true rfl⟩) (by have := hk.2.2.1; omega) (zz_F_row hk.1 hk.2.1) rfl rfl rfl (Nat.le_of_ble_eq_true rfl) dX5_sameFromFirst_21 (fun r21 M21 q21 => ?_)
        obtain ⟨rfl, rfl⟩ := q21
        refine zz_eqi (y := zo (some a)) (by rw [ha]) ?_
        refine zz_aload_n (pc := 24) E dX5_sameFromFirst_24 rfl ?_
        refine zz_iload_n (pc := 25) E dX5_sameFromFirst_25 rfl ?_
        refine zz_ciV (pc := 26) E k2 (kkX5_fromFirst l G hJ _ _ _ hk2 _ L2 hL2 (by omega)) (cwV 1 hts gX5_sameFromFirst_X5_fromFirst rfl rfl rfl (by decide +kernel) ⟨Nat.le_of_ble_eq_true rfl, Nat.le_of_ble_eq_true rfl⟩) (by have := hk2.2.2.1; omega) (zz_F_row hk2.1 hk2.2.1) rfl rfl rfl (Nat.le_of_ble_eq_true rfl) dX5_sameFromFirst_26 (fun r26 M26 q26 => ?_)
        obtain ⟨rfl, rfl⟩ := q26
        refine zz_eqi (y := zo (some b)) (by rw [hb]) ?_
        refine zz_icmp_ne (pc := 29) (tgt := 38) E dX5_sameFromFirst_29 (by decide) (fun h29 => ?_) (fun h29 => ?_)
        · refine zz_iload_n (pc := 38) E dX5_sameFromFirst_38 rfl ?_
          exact zz_iret (pc := 39) E hr hlk dX5_sameFromFirst_39 ⟨rfl, by rw [if_neg (fun q => h29 ((zo_lt (o := none) (by omega) (by omega)).mpr q))] at hz; rw [← hz]; rfl⟩
        · refine zn_inc (pc := 32) (lv' := [(0, _), (1, _), (2, _), (3, _)]) E dX5_sameFromFirst_32 rfl (by decide) rfl ?_
          refine zz_goto (pc := 35) (tgt := 14) E dX5_sameFromFirst_35 (by decide) ?_
          exact zz_to (ih (i + 1) (by omega) (by rw [if_pos ((zo_lt (o := none) (by omega) (by omega)).mp h29)] at hz; omega)) ⟨rfl, rfl, rfl, rfl, trivial⟩
  exact zz_to (key _ 0 (Nat.zero_add _) (by simp)) ⟨rfl, rfl, rfl, rfl, trivial⟩

theorem inX5_sameFromLast_X5 : ∀ w ∈ u_ws RX5 TX5 2, w ∈ wsX5_sameFromLast := by decide +kernel
theorem lkX5_sameFromLast_21 : Cond.fieldLink RX5 21 RX5 "length" "I" ∈ wsX5_sameFromLast := by decide +kernel
theorem mmX5_sameFromLast_41_ml : Cond.methodLink RX5 41 Lib.Math.min.name ∈ wsX5_sameFromLast := by decide +kernel
theorem mmX5_sameFromLast_41_st : Cond.static Lib.Math.min.name ∈ wsX5_sameFromLast := by decide +kernel
theorem mmX5_sameFromLast_41_in : Cond.initialized "java/lang/Math" ∈ wsX5_sameFromLast := by decide +kernel
theorem mmX5_sameFromLast_41_co : Cond.code Lib.Math.min.name Lib.Math.min.code 2 (some .int) ∈ wsX5_sameFromLast := by decide +kernel
set_option maxHeartbeats 4000000 in
set_option maxRecDepth 100000 in
theorem kkX5_sameFromLast (l : Launch) (G : zz_C) (hJ : zz_J G) (M : zz_M) (k cap : Nat) (hk : zz_R k cap) (k2 cap2 : Nat) (hk2 : zz_R k2 cap2) (L L2 : List Nat) (hL : zrow M k cap L) (hL2 : zrow M k2 cap2 L2) : Met l yX5_sameFromLast wsX5_sameFromLast ({ frames := 1, cells := 0, slots := 0, locals := 21 } : Room) (zz_P G M [.ref (G.2.2 k), .ref (G.2.2 k2)]) (zz_Qi G (fun r M1 => M = M1 ∧ r = nI (zcp (L.reverse) (L2.reverse)))) 0 0 (zz_A G) := by
  refine zz_start hJ (by decide) rfl (Nat.le_of_ble_eq_true rfl) ?_
  intro p e s m below meth c E hr hlk
  have hts := E.2.2.2.2.1
  show zz_Z p l e (headSpec wsX5_sameFromLast ({ frames := 1, cells := 0, slots := 0, locals := 21 } : Room)).room s m ([.ref (G.2.2 k), .ref (G.2.2 k2)] : List Value).toArray below meth c 0 0 (MQ below (zz_Qi G (fun r M1 => M = M1 ∧ r = nI (zcp (L.reverse) (L2.reverse)))) ([.ref (G.2.2 k), .ref (G.2.2 k2)] : List Value).toArray s 0 0 (zz_A G)) 4 G (zz_A G) M 0 [(0, .ref (G.2.2 k)), (1, .ref (G.2.2 k2))] []
  have hb1 := hk.2.2.2.1
  have hb2 := hk2.2.2.2.1
  have hc1 := hL.2.1
  have hc2 := hL2.2.1
  refine zz_aload_n (pc := 0) E dX5_sameFromLast_0 rfl ?_
  refine zz_gf (pc := 1) E k (by have := hk.2.2.1; omega) (zz_F_row hk.1 hk.2.1) rfl inX5_sameFromLast_X5 1 (by decide) lkX5_sameFromLast_21 (fun _ h => h) rfl dX5_sameFromLast_1 ?_
  refine zz_eqi (y := nI L.length) hL.1 ?_
  refine zz_aload_n (pc := 4) E dX5_sameFromLast_4 rfl ?_
  refine zz_gf (pc := 5) E k2 (by have := hk2.2.2.1; omega) (zz_F_row hk2.1 hk2.2.1) rfl inX5_sameFromLast_X5 1 (by decide) lkX5_sameFromLast_21 (fun _ h => h) rfl dX5_sameFromLast_5 ?_
  refine zz_eqi (y := nI L2.length) hL2.1 ?_
  refine zz_min (rest := []) (pc := 8) E mmX5_sameFromLast_41_ml mmX5_sameFromLast_41_st mmX5_sameFromLast_41_in mmX5_sameFromLast_41_co (by decide) (Nat.le_of_ble_eq_true rfl) dX5_sameFromLast_8 ?_
  refine zz_eqi (y := nI (min L.length L2.length)) (zmin_ok (by omega) (by omega)) ?_
  refine zz_istore_n (pc := 11) (lv' := [(0, _), (1, _), (2, _)]) E dX5_sameFromLast_11 (by decide) rfl ?_
  refine zz_iconst (pc := 12) (v := nI 0) E dX5_sameFromLast_12 (by decide) ?_
  refine zz_istore_n (pc := 13) (lv' := [(0, _), (1, _), (2, _), (3, _)]) E dX5_sameFromLast_13 (by decide) rfl ?_
  have key : ∀ (j i : Nat), i + j = min L.length L2.length → i + zcp ((L.reverse).drop i) ((L2.reverse).drop i) = zcp (L.reverse) (L2.reverse) → zz_Z p l e (headSpec wsX5_sameFromLast ({ frames := 1, cells := 0, slots := 0, locals := 21 } : Room)).room s m ([.ref (G.2.2 k), .ref (G.2.2 k2)] : List Value).toArray below meth c 0 0 (MQ below (zz_Qi G (fun r M1 => M = M1 ∧ r = nI (zcp (L.reverse) (L2.reverse)))) ([.ref (G.2.2 k), .ref (G.2.2 k2)] : List Value).toArray s 0 0 (zz_A G)) 4 G (zz_A G) M 14 [(0, .ref (G.2.2 k)), (1, .ref (G.2.2 k2)), (2, .int (nI (min L.length L2.length))), (3, .int (nI i))] [] := by
    intro j
    induction j with
    | zero =>
      intro i hi hz
      refine zz_iload_n (pc := 14) E dX5_sameFromLast_14 rfl ?_
      refine zz_iload_n (pc := 15) E dX5_sameFromLast_15 rfl ?_
      refine zn_icmp_ge (pc := 16) (tgt := 38) E dX5_sameFromLast_16 (by decide) (by omega) (by omega) (fun h16 => ?_) (fun h16 => ?_)
      · refine zz_iload_n (pc := 38) E dX5_sameFromLast_38 rfl ?_
        exact zz_iret (pc := 39) E hr hlk dX5_sameFromLast_39 ⟨rfl, by rw [zcp_end (by (try simp only [List.length_reverse]); omega)] at hz; rw [← hz]; rfl⟩
      · exact absurd h16 (by omega)
    | succ j ih =>
      intro i hi hz
      obtain ⟨a, ha⟩ : ∃ a, (L.reverse)[i]? = some a := ⟨_, List.getElem?_eq_getElem (by (try simp only [List.length_reverse]); omega)⟩
      obtain ⟨b, hb⟩ : ∃ a, (L2.reverse)[i]? = some a := ⟨_, List.getElem?_eq_getElem (by (try simp only [List.length_reverse]); omega)⟩
      have ha10 : a < 10 := hL.2.2.2 a (by have := List.mem_of_getElem? ha; simpa using this)
      have hb10 : b < 10 := hL2.2.2.2 b (by have := List.mem_of_getElem? hb; simpa using this)
      rw [zcp_drop ha hb] at hz
      refine zz_iload_n (pc := 14) E dX5_sameFromLast_14 rfl ?_
      refine zz_iload_n (pc := 15) E dX5_sameFromLast_15 rfl ?_
      refine zn_icmp_ge (pc := 16) (tgt := 38) E dX5_sameFromLast_16 (by decide) (by omega) (by omega) (fun h16 => ?_) (fun h16 => ?_)
      · exact absurd h16 (by omega)
      · refine zz_aload_n (pc := 19) E dX5_sameFromLast_19 rfl ?_
        refine zz_iload_n (pc := 20) E dX5_sameFromLast_20 rfl ?_
        refine zz_ciV (pc := 21) E k (kkX5_fromLast l G hJ _ _ _ hk _ L hL) (cwV 1 hts gX5_sameFromLast_X5_fromLast rfl rfl rfl (by decide +kernel) ⟨Nat.le_of_ble_eq_true rfl, Nat.le_of_ble_eq_true rfl⟩) (by have := hk.2.2.1; omega) (zz_F_row hk.1 hk.2.1) rfl rfl rfl (Nat.le_of_ble_eq_true rfl) dX5_sameFromLast_21 (fun r21 M21 q21 => ?_)
        obtain ⟨rfl, rfl⟩ := q21
        refine zz_eqi (y := zo (some a)) (by rw [zp_in_nI (by omega), decide_eq_true (by omega), if_pos rfl, nI_toInt (by omega)]; show zo (L.reverse[i]?) = _; rw [ha]) ?_
        refine zz_aload_n (pc := 24) E dX5_sameFromLast_24 rfl ?_
        refine zz_iload_n (pc := 25) E dX5_sameFromLast_25 rfl ?_
        refine zz_ciV (pc := 26) E k2 (kkX5_fromLast l G hJ _ _ _ hk2 _ L2 hL2) (cwV 1 hts gX5_sameFromLast_X5_fromLast rfl rfl rfl (by decide +kernel) ⟨Nat.le_of_ble_eq_true rfl, Nat.le_of_ble_eq_true rfl⟩) (by have := hk2.2.2.1; omega) (zz_F_row hk2.1 hk2.2.1) rfl rfl rfl (Nat.le_of_ble_eq_true rfl) dX5_sameFromLast_26 (fun r26 M26 q26 => ?_)
        obtain ⟨rfl, rfl⟩ := q26
        refine zz_eqi (y := zo (some b)) (by rw [zp_in_nI (by omega), decide_eq_true (by omega), if_pos rfl, nI_toInt (by omega)]; show zo (L2.reverse[i]?) = _; rw [hb]) ?_
        refine zz_icmp_ne (pc := 29) (tgt := 38) E dX5_sameFromLast_29 (by decide) (fun h29 => ?_) (fun h29 => ?_)
        · refine zz_iload_n (pc := 38) E dX5_sameFromLast_38 rfl ?_
          exact zz_iret (pc := 39) E hr hlk dX5_sameFromLast_39 ⟨rfl, by rw [if_neg (fun q => h29 ((zo_lt (o := none) (by omega) (by omega)).mpr q))] at hz; rw [← hz]; rfl⟩
        · refine zn_inc (pc := 32) (lv' := [(0, _), (1, _), (2, _), (3, _)]) E dX5_sameFromLast_32 rfl (by decide) rfl ?_
          refine zz_goto (pc := 35) (tgt := 14) E dX5_sameFromLast_35 (by decide) ?_
          exact zz_to (ih (i + 1) (by omega) (by rw [if_pos ((zo_lt (o := none) (by omega) (by omega)).mp h29)] at hz; omega)) ⟨rfl, rfl, rfl, rfl, trivial⟩
  exact zz_to (key _ 0 (Nat.zero_add _) (by simp)) ⟨rfl, rfl, rfl, rfl, trivial⟩

theorem inX5_isSame_X5 : ∀ w ∈ u_ws RX5 TX5 2, w ∈ wsX5_isSame := by decide +kernel
theorem lkX5_isSame_21 : Cond.fieldLink RX5 21 RX5 "length" "I" ∈ wsX5_isSame := by decide +kernel
set_option maxHeartbeats 4000000 in
set_option maxRecDepth 100000 in
theorem kkX5_isSame (l : Launch) (G : zz_C) (hJ : zz_J G) (M : zz_M) (k cap : Nat) (hk : zz_R k cap) (k2 cap2 : Nat) (hk2 : zz_R k2 cap2) (L L2 : List Nat) (hL : zrow M k cap L) (hL2 : zrow M k2 cap2 L2) : Met l yX5_isSame wsX5_isSame ({ frames := 2, cells := 0, slots := 0, locals := 44 } : Room) (zz_P G M [.ref (G.2.2 k), .ref (G.2.2 k2)]) (zz_Qi G (fun r M1 => M = M1 ∧ r = zz_b (decide (L = L2)))) 0 0 (zz_A G) := by
  refine zz_start hJ (by decide) rfl (Nat.le_of_ble_eq_true rfl) ?_
  intro p e s m below meth c E hr hlk
  have hts := E.2.2.2.2.1
  show zz_Z p l e (headSpec wsX5_isSame ({ frames := 2, cells := 0, slots := 0, locals := 44 } : Room)).room s m ([.ref (G.2.2 k), .ref (G.2.2 k2)] : List Value).toArray below meth c 0 0 (MQ below (zz_Qi G (fun r M1 => M = M1 ∧ r = zz_b (decide (L = L2)))) ([.ref (G.2.2 k), .ref (G.2.2 k2)] : List Value).toArray s 0 0 (zz_A G)) 2 G (zz_A G) M 0 [(0, .ref (G.2.2 k)), (1, .ref (G.2.2 k2))] []
  have hb1 := hk.2.2.2.1
  have hb2 := hk2.2.2.2.1
  have hc1 := hL.2.1
  have hc2 := hL2.2.1
  have hcp := zcp_le L.reverse L2.reverse
  rw [List.length_reverse] at hcp
  refine zz_aload_n (pc := 0) E dX5_isSame_0 rfl ?_
  refine zz_gf (pc := 1) E k (by have := hk.2.2.1; omega) (zz_F_row hk.1 hk.2.1) rfl inX5_isSame_X5 1 (by decide) lkX5_isSame_21 (fun _ h => h) rfl dX5_isSame_1 ?_
  refine zz_eqi (y := nI L.length) hL.1 ?_
  refine zz_aload_n (pc := 4) E dX5_isSame_4 rfl ?_
  refine zz_gf (pc := 5) E k2 (by have := hk2.2.2.1; omega) (zz_F_row hk2.1 hk2.2.1) rfl inX5_isSame_X5 1 (by decide) lkX5_isSame_21 (fun _ h => h) rfl dX5_isSame_5 ?_
  refine zz_eqi (y := nI L2.length) hL2.1 ?_
  refine zn_icmp_ne (pc := 8) (tgt := 27) E dX5_isSame_8 (by decide) (by omega) (by omega) (fun h8 => ?_) (fun h8 => ?_)
  · refine zz_iconst (pc := 27) (v := nI 0) E dX5_isSame_27 (by decide) ?_
    exact zz_zret (pc := 28) E hr hlk dX5_isSame_28 (by decide) ⟨rfl, by first | (rw [decide_eq_false (fun q => h8 (by rw [q]))]; rfl) | (rw [decide_eq_false (fun q => h20 (by rw [q, (zcp_all rfl).mpr rfl, List.length_reverse]))]; rfl) | (rw [decide_eq_true (zsame_ok h8 h20)]; rfl)⟩
  · refine zz_aload_n (pc := 11) E dX5_isSame_11 rfl ?_
    refine zz_aload_n (pc := 12) E dX5_isSame_12 rfl ?_
    refine zz_ciV (pc := 13) E k (kkX5_sameFromLast l G hJ _ _ _ hk _ _ hk2 L L2 hL hL2) (cwV 1 hts gX5_isSame_X5_sameFromLast rfl rfl rfl (by decide +kernel) ⟨Nat.le_of_ble_eq_true rfl, Nat.le_of_ble_eq_true rfl⟩) (by have := hk.2.2.1; omega) (zz_F_row hk.1 hk.2.1) rfl rfl rfl (Nat.le_of_ble_eq_true rfl) dX5_isSame_13 (fun r13 M13 q13 => ?_)
    obtain ⟨rfl, rfl⟩ := q13
    refine zz_aload_n (pc := 16) E dX5_isSame_16 rfl ?_
    refine zz_gf (pc := 17) E k (by have := hk.2.2.1; omega) (zz_F_row hk.1 hk.2.1) rfl inX5_isSame_X5 1 (by decide) lkX5_isSame_21 (fun _ h => h) rfl dX5_isSame_17 ?_
    refine zz_eqi (y := nI L.length) hL.1 ?_
    refine zn_icmp_ne (pc := 20) (tgt := 27) E dX5_isSame_20 (by decide) (by omega) (by omega) (fun h20 => ?_) (fun h20 => ?_)
    · refine zz_iconst (pc := 27) (v := nI 0) E dX5_isSame_27 (by decide) ?_
      exact zz_zret (pc := 28) E hr hlk dX5_isSame_28 (by decide) ⟨rfl, by first | (rw [decide_eq_false (fun q => h8 (by rw [q]))]; rfl) | (rw [decide_eq_false (fun q => h20 (by rw [q, (zcp_all rfl).mpr rfl, List.length_reverse]))]; rfl) | (rw [decide_eq_true (zsame_ok h8 h20)]; rfl)⟩
    · refine zz_iconst (pc := 23) (v := nI 1) E dX5_isSame_23 (by decide) ?_
      refine zz_goto (pc := 24) (tgt := 28) E dX5_isSame_24 (by decide) ?_
      exact zz_zret (pc := 28) E hr hlk dX5_isSame_28 (by decide) ⟨rfl, by first | (rw [decide_eq_false (fun q => h8 (by rw [q]))]; rfl) | (rw [decide_eq_false (fun q => h20 (by rw [q, (zcp_all rfl).mpr rfl, List.length_reverse]))]; rfl) | (rw [decide_eq_true (zsame_ok h8 h20)]; rfl)⟩
