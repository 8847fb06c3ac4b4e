/-! forms: each sign reduced -/
def zfmf (S : Nat → Option Nat) : Nat → Nat → List Nat
  | 0, s => [s]
  | f + 1, s => match S (18 + s) with
    | none => [s]
    | some r => (zr r).flatMap (zfmf S f)
def zfm (S : Nat → Option Nat) (s : Nat) : List Nat := zfmf S 6 s
theorem zV_claim {S : Nat → Option Nat} (hV : zV S) {s r : Nat} (hs : s < 6) (h : S (18 + s) = some r) : (∀ x ∈ zr r, x < s) ∧ (zr r).length ≤ 3 ∧ 0 < (zr r).length ∧ r < 1000 := by
  obtain ⟨h1, h2⟩ := hV.2 s hs r h
  have hl := zok_lt h1 (by decide)
  refine ⟨zr_lt h1, by rw [zr_len]; exact zok_len h1, ?_, hl⟩
  rw [zr_pos (by omega) (by omega), List.length_append]
  simp
theorem zV_0 {S : Nat → Option Nat} (hV : zV S) : S 18 = none := by
  cases h : S 18 with
  | none => rfl
  | some r =>
    obtain ⟨h1, -, h3, -⟩ := zV_claim hV (s := 0) (by decide) h
    obtain ⟨x, hx⟩ := List.exists_mem_of_length_pos h3
    exact absurd (h1 x hx) (by omega)
theorem zfm_congr {f g : Nat → List Nat} : ∀ {L : List Nat}, (∀ x ∈ L, f x = g x) → L.flatMap f = L.flatMap g
  | [], _ => rfl
  | x :: L, h => by rw [List.flatMap_cons, List.flatMap_cons, h x List.mem_cons_self, zfm_congr (fun y hy => h y (List.mem_cons_of_mem _ hy))]
theorem zfmf_more {S : Nat → Option Nat} (hV : zV S) : ∀ (f s : Nat), s < 6 → s ≤ f → zfmf S (f + 1) s = zfmf S f s
  | 0, s, hs, hf => by
    have h0 : s = 0 := by omega
    subst h0
    rw [zfmf]
    show (match S 18 with | none => [0] | some r => (zr r).flatMap (zfmf S 0)) = [0]
    rw [zV_0 hV]
  | f + 1, s, hs, hf => by
    show (match S (18 + s) with | none => [s] | some r => (zr r).flatMap (zfmf S (f + 1))) = (match S (18 + s) with | none => [s] | some r => (zr r).flatMap (zfmf S f))
    cases h : S (18 + s) with
    | none => rfl
    | some r =>
      have hr := (zV_claim hV hs h).1
      exact zfm_congr (fun x hx => zfmf_more hV f x (by have := hr x hx; omega) (by have := hr x hx; omega))
theorem zfm_eq {S : Nat → Option Nat} (hV : zV S) {s : Nat} (hs : s < 6) : zfm S s = match S (18 + s) with
    | none => [s]
    | some r => (zr r).flatMap (zfm S) := by
  show (match S (18 + s) with | none => [s] | some r => (zr r).flatMap (zfmf S 5)) = _
  cases h : S (18 + s) with
  | none => rfl
  | some r =>
    have hr := (zV_claim hV hs h).1
    exact zfm_congr (fun x hx => (zfmf_more hV 5 x (by have := hr x hx; omega) (by have := hr x hx; omega)).symm)
theorem zfm_none {S : Nat → Option Nat} (hV : zV S) {s : Nat} (hs : s < 6) (h : S (18 + s) = none) : zfm S s = [s] := by rw [zfm_eq hV hs, h]
theorem zfm_some {S : Nat → Option Nat} (hV : zV S) {s r : Nat} (hs : s < 6) (h : S (18 + s) = some r) : zfm S s = (zr r).flatMap (zfm S) := by rw [zfm_eq hV hs, h]
theorem zfl_len {f : Nat → List Nat} {B : Nat} : ∀ {L : List Nat}, (∀ x ∈ L, (f x).length ≤ B) → (L.flatMap f).length ≤ B * L.length
  | [], _ => Nat.zero_le _
  | x :: L, h => by
    rw [List.flatMap_cons, List.length_append, List.length_cons, Nat.mul_add, Nat.mul_one]
    have h1 := h x List.mem_cons_self
    have h2 := zfl_len (f := f) (B := B) (L := L) (fun y hy => h y (List.mem_cons_of_mem _ hy))
    omega
theorem zfm_len {S : Nat → Option Nat} (hV : zV S) : ∀ (s : Nat), s < 6 → (zfm S s).length ≤ 3 ^ s := by
  intro s
  induction s using Nat.strongRecOn with
  | ind s ih =>
    intro hs
    cases h : S (18 + s) with
    | none => rw [zfm_none hV hs h]; exact Nat.pow_pos (by decide)
    | some r =>
      obtain ⟨h1, h2, h3, -⟩ := zV_claim hV hs h
      obtain ⟨x0, hx0⟩ := List.exists_mem_of_length_pos h3
      have hs0 := h1 x0 hx0
      obtain ⟨q, rfl⟩ : ∃ q, s = q + 1 := ⟨s - 1, by omega⟩
      rw [zfm_some hV hs h]
      have hb := zfl_len (f := zfm S) (B := 3 ^ q) (L := zr r) (fun x hx => by
        have hx1 := h1 x hx
        exact Nat.le_trans (ih x hx1 (by omega)) (Nat.pow_le_pow_right (by decide) (by omega)))
      rw [Nat.pow_succ]
      exact Nat.le_trans hb (Nat.mul_le_mul_left _ h2)
theorem zfm_243 {S : Nat → Option Nat} (hV : zV S) {s : Nat} (hs : s < 6) : (zfm S s).length ≤ 243 := Nat.le_trans (zfm_len hV s hs) (Nat.le_trans (Nat.pow_le_pow_right (n := 3) (by decide) (show s ≤ 5 by omega)) (by decide))
theorem zfm_mem {S : Nat → Option Nat} (hV : zV S) : ∀ (s : Nat), s < 6 → ∀ y ∈ zfm S s, y ≤ s ∧ S (18 + y) = none := by
  intro s
  induction s using Nat.strongRecOn with
  | ind s ih =>
    intro hs y hy
    cases h : S (18 + s) with
    | none =>
      rw [zfm_none hV hs h] at hy
      have : y = s := by simpa using hy
      subst this
      exact ⟨Nat.le_refl _, h⟩
    | some r =>
      obtain ⟨h1, -, -, -⟩ := zV_claim hV hs h
      rw [zfm_some hV hs h, List.mem_flatMap] at hy
      obtain ⟨x, hx, hy⟩ := hy
      have hx1 := h1 x hx
      have := ih x hx1 (by omega) y hy
      exact ⟨by omega, this.2⟩
theorem zfm_pos {S : Nat → Option Nat} (hV : zV S) : ∀ (s : Nat), s < 6 → 0 < (zfm S s).length := by
  intro s
  induction s using Nat.strongRecOn with
  | ind s ih =>
    intro hs
    cases h : S (18 + s) with
    | none => rw [zfm_none hV hs h]; exact Nat.one_pos
    | some r =>
      obtain ⟨h1, -, h3, -⟩ := zV_claim hV hs h
      obtain ⟨x0, hx0⟩ := List.exists_mem_of_length_pos h3
      have hx1 := h1 x0 hx0
      obtain ⟨y, hy⟩ := List.exists_mem_of_length_pos (ih x0 hx1 (by omega))
      rw [zfm_some hV hs h]
      exact List.length_pos_of_mem (List.mem_flatMap.mpr ⟨x0, hx0, hy⟩)
def zfrm (M : zz_M) (F : Nat → List Nat) (n : Nat) : Prop := ∀ t, t < n → zrow M (24 + 2 * t) 243 (F t)

theorem niX1_putAhead_X7_isSign : Cond.initialized RX7 ∈ wsX1_putAhead := by decide +kernel
theorem nsX1_putAhead_X7_isSign : Cond.static yX7_isSign ∈ wsX1_putAhead := by decide +kernel
theorem inX1_putAhead_X1 : ∀ w ∈ u_ws RX1 TX1 1, w ∈ wsX1_putAhead := by decide +kernel
theorem lkX1_putAhead_11 : Cond.fieldLink RX1 11 RX1 "ofSign" "[LFirstSigns$Row;" ∈ wsX1_putAhead := by decide +kernel
set_option maxHeartbeats 4000000 in
set_option maxRecDepth 100000 in
theorem kkX1_putAhead (l : Launch) (G : zz_C) (hJ : zz_J G) (M : zz_M) (k cap : Nat) (hk : zz_R k cap) (F : Nat → List Nat) (a mo : Nat) (L : List Nat) (hz : zok a 6 mo = true) (hmo : mo < 10) (hL : zrow M k cap L) (hF : ∀ x ∈ zr a, zrow M (24 + 2 * x) 243 (F x)) (hne : ∀ x ∈ zr a, k + 1 < 24 + 2 * x ∨ 24 + 2 * x + 1 < k) (hc : ((zr a).flatMap F).length + L.length ≤ cap) : Met l yX1_putAhead wsX1_putAhead ({ frames := 2, cells := 0, slots := 0, locals := 81 } : Room) (zz_P G M [.ref (G.2.2 22), .ref (G.2.2 k), .int (nI a)]) (zz_Qv G (fun M1 => zfr [k, k + 1] M M1 ∧ zrow M1 k cap ((zr a).flatMap F ++ L))) 0 0 (zz_A G) := by
  refine zz_start hJ (by decide) rfl (Nat.le_of_ble_eq_true rfl) ?_
  intro p e s m below meth c E hr hlk
  have hts := E.2.2.2.2.1
  show zz_Z p l e (headSpec wsX1_putAhead ({ frames := 2, cells := 0, slots := 0, locals := 81 } : Room)).room s m ([.ref (G.2.2 22), .ref (G.2.2 k), .int (nI a)] : List Value).toArray below meth c 0 0 (MQ below (zz_Qv G (fun M1 => zfr [k, k + 1] M M1 ∧ zrow M1 k cap ((zr a).flatMap F ++ L))) ([.ref (G.2.2 22), .ref (G.2.2 k), .int (nI a)] : List Value).toArray s 0 0 (zz_A G)) 5 G (zz_A G) M 0 [(0, .ref (G.2.2 22)), (1, .ref (G.2.2 k)), (2, .int (nI a))] []
  have ha : a < 2 ^ 31 := by
    have h1 := zok_lt hz (by omega)
    have h2 : 10 ^ mo ≤ 10 ^ 9 := Nat.pow_le_pow_right (by decide) (by omega)
    omega
  refine zz_iload_n (pc := 0) E dX1_putAhead_0 rfl ?_
  refine zz_istore_n (pc := 1) (lv' := [(0, _), (1, _), (2, _), (3, _)]) E dX1_putAhead_1 (by decide) rfl ?_
  have key : ∀ (j b : Nat) (M2 : zz_M) (K : List Nat), (zd b).length = j → b < 2 ^ 31 → zok b 6 mo = true → zr a = zr b ++ K → zfr [k, k + 1] M M2 → zrow M2 k cap (K.flatMap F ++ L) → zz_Z p l e (headSpec wsX1_putAhead ({ frames := 2, cells := 0, slots := 0, locals := 81 } : Room)).room s m ([.ref (G.2.2 22), .ref (G.2.2 k), .int (nI a)] : List Value).toArray below meth c 0 0 (MQ below (zz_Qv G (fun M1 => zfr [k, k + 1] M M1 ∧ zrow M1 k cap ((zr a).flatMap F ++ L))) ([.ref (G.2.2 22), .ref (G.2.2 k), .int (nI a)] : List Value).toArray s 0 0 (zz_A G)) 5 G (zz_A G) M2 2 [(0, .ref (G.2.2 22)), (1, .ref (G.2.2 k)), (3, .int (nI b))] [] := by
    intro j
    induction j with
    | zero =>
      intro b M2 K hj hb hzb he hf hw
      have hb0 := zd_len0 hj (by omega)
      subst hb0
      refine zz_iload_n (pc := 2) E dX1_putAhead_2 rfl ?_
      refine zn_if_le (pc := 3) (tgt := 41) E dX1_putAhead_3 (by decide) (by omega) (fun h3 => ?_) (fun h3 => ?_)
      · exact zz_vret (pc := 41) E hr hlk dX1_putAhead_41 ⟨hf, by rw [he, zr_0, List.nil_append]; exact hw⟩
      · exact absurd h3 (by omega)
    | succ j ih =>
      intro b M2 K hj hb hzb he hf hw
      have h0 : 0 < b := by
        rcases Nat.eq_zero_or_pos b with h | h
        · rw [h] at hj; cases hj
        · exact h
      have hd := zok_digit hzb h0 (by omega)
      rw [zd_pos h0 (by omega), List.length_cons] at hj
      rw [zr_pos h0 (by omega)] at he
      have hxm : b % 10 - 1 ∈ zr a := by rw [he]; simp
      have hxn := hne _ hxm
      have hxw : zrow M2 (24 + 2 * (b % 10 - 1)) 243 (F (b % 10 - 1)) := zrow_fr (hF _ hxm) hf (by simp; omega) (by simp; omega)
      have hlen : (F (b % 10 - 1)).length + (K.flatMap F ++ L).length ≤ cap := by
        rw [he] at hc
        simp only [List.flatMap_append, List.flatMap_cons, List.flatMap_nil, List.length_append, List.append_nil] at hc ⊢
        omega
      refine zz_iload_n (pc := 2) E dX1_putAhead_2 rfl ?_
      refine zn_if_le (pc := 3) (tgt := 41) E dX1_putAhead_3 (by decide) (by omega) (fun h3 => ?_) (fun h3 => ?_)
      · exact absurd h3 (by omega)
      · refine zz_iload_n (pc := 6) E dX1_putAhead_6 rfl ?_
        refine zz_bipush (pc := 7) (v := nI 10) E dX1_putAhead_7 (by decide) ?_
        refine zn_irem (pc := 9) E dX1_putAhead_9 (by omega) (by omega) (by omega) ?_
        refine zz_iconst (pc := 10) (v := nI 1) E dX1_putAhead_10 (by decide) ?_
        refine zn_isub (pc := 11) E dX1_putAhead_11 (by omega) ?_
        refine zz_istore (pc := 12) (lv' := [(0, _), (1, _), (3, _), (4, _)]) E dX1_putAhead_12 (by decide) rfl ?_
        refine zz_iload (pc := 14) E dX1_putAhead_14 rfl ?_
        refine zz_ciN (pc := 16) E (kkX7_isSign l G hJ _ _ ) ⟨va_cnB 1 hts gX1_putAhead_X7_isSign_n36 rfl rfl rfl E.2.2.2.2.2.2.1.2.2.1 (hts _ niX1_putAhead_X7_isSign) (by decide +kernel) ⟨Nat.le_of_ble_eq_true rfl, Nat.le_of_ble_eq_true rfl⟩, hts _ nsX1_putAhead_X7_isSign, trivial⟩ rfl rfl (Nat.le_of_ble_eq_true rfl) dX1_putAhead_16 (fun r16 M16 q16 => ?_)
        obtain ⟨rfl, rfl⟩ := q16
        refine zb_if_eq (pc := 19) (tgt := 33) E dX1_putAhead_19 (by decide) (fun h19 => ?_) (fun h19 => ?_)
        · rw [zp_in_nI (by omega), decide_eq_true (by omega)] at h19
          cases h19
        · refine zz_aload_n (pc := 22) E dX1_putAhead_22 rfl ?_
          refine zz_aload_n (pc := 23) E dX1_putAhead_23 rfl ?_
          refine zz_gf (pc := 24) E 22 (by decide) rfl rfl inX1_putAhead_X1 0 (by decide) lkX1_putAhead_11 (fun _ h => h) rfl dX1_putAhead_24 ?_
          refine zz_iload (pc := 27) E dX1_putAhead_27 rfl ?_
          refine zz_aald (pc := 29) E 23 (b % 10 - 1) (n := 6) (t0 := 1) (f := fun i => G.2.2 (24 + 2 * i)) (by decide) rfl rfl rfl rfl (by omega) (by decide) dX1_putAhead_29 ?_
          refine zz_cvV (pc := 30) E k (kkX5_putAllAhead l G hJ _ _ _ hk _ _ (zz_Rf (show b % 10 - 1 < 6 by omega)) _ _ hw hxw (by omega) (by omega) hlen) (cwV 1 hts gX1_putAhead_X5_putAllAhead rfl rfl rfl (by decide +kernel) ⟨Nat.le_of_ble_eq_true rfl, Nat.le_of_ble_eq_true rfl⟩) (by have := hk.2.2.1; omega) (zz_F_row hk.1 hk.2.1) rfl rfl rfl (Nat.le_of_ble_eq_true rfl) dX1_putAhead_30 (fun M30 q30 => ?_)
          obtain ⟨f30, w30⟩ := q30
          refine zz_iload_n (pc := 33) E dX1_putAhead_33 rfl ?_
          refine zz_bipush (pc := 34) (v := nI 10) E dX1_putAhead_34 (by decide) ?_
          refine zn_idiv (pc := 36) E dX1_putAhead_36 (by omega) (by omega) (by omega) ?_
          refine zz_istore_n (pc := 37) (lv' := [(0, _), (1, _), (3, _), (4, _)]) E dX1_putAhead_37 (by decide) rfl ?_
          refine zz_goto (pc := 38) (tgt := 2) E dX1_putAhead_38 (by decide) ?_
          exact zz_to (ih (b / 10) M30 ((b % 10 - 1) :: K) (by omega) (by omega) (zok_half hzb (by omega)) (by rw [he]; simp) (zfr_ct hf f30 (fun _ h => h) (fun _ h => h)) (by rw [List.flatMap_cons, List.append_assoc]; exact w30)) ⟨rfl, rfl, rfl, trivial⟩
  exact zz_to (key _ a M [] rfl ha hz (by simp) (zfr_rf _ _) hL) ⟨rfl, rfl, rfl, trivial⟩

abbrev zKF : List Nat := [24, 25, 26, 27, 28, 29, 30, 31, 32, 33, 34, 35]
theorem zKF_mem {i : Nat} (h : i < 6) : ∀ j ∈ [24 + 2 * i, 24 + 2 * i + 1], j ∈ zKF := by
  intro j hj
  simp only [List.mem_cons, List.not_mem_nil, or_false] at hj ⊢
  omega

theorem inX1_find_X1 : ∀ w ∈ u_ws RX1 TX1 1, w ∈ wsX1_find := by decide +kernel
theorem lkX1_find_11 : Cond.fieldLink RX1 11 RX1 "ofSign" "[LFirstSigns$Row;" ∈ wsX1_find := by decide +kernel
set_option maxHeartbeats 4000000 in
set_option maxRecDepth 100000 in
theorem kkX1_find (l : Launch) (G : zz_C) (hJ : zz_J G) (M : zz_M) (S : Nat → Option Nat) (hV : zV S) (hS : ztab M 1 S) : Met l yX1_find wsX1_find ({ frames := 3, cells := 0, slots := 0, locals := 105 } : Room) (zz_P G M [.ref (G.2.2 22), .ref (G.2.2 1)]) (zz_Qv G (fun M1 => zfr zKF M M1 ∧ zfrm M1 (zfm S) 6)) 0 0 (zz_A G) := by
  refine zz_start hJ (by decide) rfl (Nat.le_of_ble_eq_true rfl) ?_
  intro p e s m below meth c E hr hlk
  have hts := E.2.2.2.2.1
  show zz_Z p l e (headSpec wsX1_find ({ frames := 3, cells := 0, slots := 0, locals := 105 } : Room)).room s m ([.ref (G.2.2 22), .ref (G.2.2 1)] : List Value).toArray below meth c 0 0 (MQ below (zz_Qv G (fun M1 => zfr zKF M M1 ∧ zfrm M1 (zfm S) 6)) ([.ref (G.2.2 22), .ref (G.2.2 1)] : List Value).toArray s 0 0 (zz_A G)) 5 G (zz_A G) M 0 [(0, .ref (G.2.2 22)), (1, .ref (G.2.2 1))] []
  refine zz_iconst (pc := 0) (v := nI 0) E dX1_find_0 (by decide) ?_
  refine zz_istore_n (pc := 1) (lv' := [(0, _), (1, _), (2, _)]) E dX1_find_1 (by decide) rfl ?_
  have key : ∀ (j i : Nat) (M2 : zz_M), i + j = 6 → zfr zKF M M2 → zfrm M2 (zfm S) i → zz_Z p l e (headSpec wsX1_find ({ frames := 3, cells := 0, slots := 0, locals := 105 } : Room)).room s m ([.ref (G.2.2 22), .ref (G.2.2 1)] : List Value).toArray below meth c 0 0 (MQ below (zz_Qv G (fun M1 => zfr zKF M M1 ∧ zfrm M1 (zfm S) 6)) ([.ref (G.2.2 22), .ref (G.2.2 1)] : List Value).toArray s 0 0 (zz_A G)) 5 G (zz_A G) M2 2 [(0, .ref (G.2.2 22)), (1, .ref (G.2.2 1)), (2, .int (nI i))] [] := by
    intro j
    induction j with
    | zero =>
      intro i M2 hi hf hw
      refine zz_iload_n (pc := 2) E dX1_find_2 rfl ?_
      refine zz_bipush (pc := 3) (v := nI 6) E dX1_find_3 (by decide) ?_
      refine zn_icmp_ge (pc := 5) (tgt := 54) E dX1_find_5 (by decide) (by omega) (by omega) (fun h5 => ?_) (fun h5 => ?_)
      · exact zz_vret (pc := 54) E hr hlk dX1_find_54 ⟨hf, by rw [show i = 6 by omega] at hw; exact hw⟩
      · exact absurd h5 (by omega)
    | succ j ih =>
      intro i M2 hi hf hw
      have hS2 : ztab M2 1 S := ztab_fr hS hf (by decide) (by decide)
      have hcl := hS2.2 i (by omega)
      have hlt : ∀ q, S (18 + i) = some q → q < 2 ^ 31 := fun q hq => by have := zV_lt2 hV (by omega) hq; omega
      refine zz_iload_n (pc := 2) E dX1_find_2 rfl ?_
      refine zz_bipush (pc := 3) (v := nI 6) E dX1_find_3 (by decide) ?_
      refine zn_icmp_ge (pc := 5) (tgt := 54) E dX1_find_5 (by decide) (by omega) (by omega) (fun h5 => ?_) (fun h5 => ?_)
      · exact absurd h5 (by omega)
      · refine zz_aload_n (pc := 8) E dX1_find_8 rfl ?_
        refine zz_gf (pc := 9) E 22 (by decide) rfl rfl inX1_find_X1 0 (by decide) lkX1_find_11 (fun _ h => h) rfl dX1_find_9 ?_
        refine zz_iload_n (pc := 12) E dX1_find_12 rfl ?_
        refine zz_aald (pc := 13) E 23 (i) (n := 6) (t0 := 1) (f := fun i => G.2.2 (24 + 2 * i)) (by decide) rfl rfl rfl rfl (by omega) (by decide) dX1_find_13 ?_
        refine zz_astore_n (pc := 14) (lv' := [(0, _), (1, _), (2, _), (3, _)]) E dX1_find_14 (by decide) rfl ?_
        refine zz_aload_n (pc := 15) E dX1_find_15 rfl ?_
        refine zz_iload_n (pc := 16) E dX1_find_16 rfl ?_
        refine zz_ciV (pc := 17) E 1 (kkX6_claimOf l G hJ _ _ zz_T1 _ (by omega)) (cwV 1 hts gX1_find_X6_claimOf rfl rfl rfl (by decide +kernel) ⟨Nat.le_of_ble_eq_true rfl, Nat.le_of_ble_eq_true rfl⟩) (by decide) rfl rfl rfl rfl (Nat.le_of_ble_eq_true rfl) dX1_find_17 (fun r17 M17 q17 => ?_)
        obtain ⟨rfl, rfl⟩ := q17
        refine zz_eqi (y := zo (S (18 + i))) hcl ?_
        refine zz_istore (pc := 20) (lv' := [(0, _), (1, _), (2, _), (3, _), (4, _)]) E dX1_find_20 (by decide) rfl ?_
        refine zz_aload_n (pc := 22) E dX1_find_22 rfl ?_
        refine zz_cvV (pc := 23) E (24 + 2 * i) (kkX5_clear l G hJ _ _ _ (zz_Rf (show i < 6 by omega))) (cwV 0 hts gX1_find_X5_clear rfl rfl rfl (by decide +kernel) ⟨Nat.le_of_ble_eq_true rfl, Nat.le_of_ble_eq_true rfl⟩) (by omega) (zz_F_row (zz_Rf (show i < 6 by omega)).1 (zz_Rf (show i < 6 by omega)).2.1) rfl rfl rfl (Nat.le_of_ble_eq_true rfl) dX1_find_23 (fun M23 q23 => ?_)
        obtain ⟨f23, w23⟩ := q23
        refine zz_iload (pc := 26) E dX1_find_26 rfl ?_
        refine zz_bipush (pc := 28) (v := -9) E dX1_find_28 (by decide) ?_
        refine zz_icmp_ne (pc := 30) (tgt := 41) E dX1_find_30 (by decide) (fun h30 => ?_) (fun h30 => ?_)
        · obtain ⟨q, hq⟩ : ∃ q, S (18 + i) = some q := by
            cases hv2 : S (18 + i) with
            | none => exact absurd (by rw [hv2]; rfl) h30
            | some q => exact ⟨q, rfl⟩
          have hcq := zV_claim hV (show i < 6 by omega) hq
          have hzq := (hV.2 i (by omega) q hq).1
          have hfi := zfm_some hV (show i < 6 by omega) hq
          have hlen := zfm_243 hV (show i < 6 by omega)
          refine zz_aload_n (pc := 41) E dX1_find_41 rfl ?_
          refine zz_aload_n (pc := 42) E dX1_find_42 rfl ?_
          refine zz_iload (pc := 43) E dX1_find_43 rfl ?_
          refine zz_eqi (y := nI q) (by rw [hq]; rfl) ?_
          refine zz_cvV (pc := 45) E 22 (kkX1_putAhead l G hJ _  _ _ (zz_Rf (show i < 6 by omega)) (zfm S) q 3 [] (zok_mono hzq (show i ≤ 6 by omega) (Nat.le_refl 3)) (by decide) w23 (fun x hx => zrow_fr (hw x (hcq.1 x hx)) f23 (by have := hcq.1 x hx; simp; omega) (by have := hcq.1 x hx; simp; omega)) (fun x hx => by have := hcq.1 x hx; omega) (by rw [← hfi]; exact hlen)) (cwV 2 hts gX1_find_X1_putAhead rfl rfl rfl (by decide +kernel) ⟨Nat.le_of_ble_eq_true rfl, Nat.le_of_ble_eq_true rfl⟩) (by decide) rfl rfl rfl rfl (Nat.le_of_ble_eq_true rfl) dX1_find_45 (fun M45 q45 => ?_)
          obtain ⟨f45, w45⟩ := q45
          refine zn_inc (pc := 48) (lv' := [(0, _), (1, _), (2, _), (3, _), (4, _)]) E dX1_find_48 rfl (by decide) rfl ?_
          refine zz_goto (pc := 51) (tgt := 2) E dX1_find_51 (by decide) ?_
          exact zz_to (ih (i + 1) M45 (by omega) (zfr_ct (zfr_ct hf f23 (fun _ h => h) (zKF_mem (by omega))) f45 (fun _ h => h) (zKF_mem (by omega))) (fun t ht => by by_cases e : t = i; rw [e, hfi]; rw [List.append_nil] at w45; exact w45; exact zrow_fr (zrow_fr (hw t (by omega)) f23 (by simp; omega) (by simp; omega)) f45 (by simp; omega) (by simp; omega))) ⟨rfl, rfl, rfl, trivial⟩
        · rw [zo_m9 hlt] at h30
          have hfi := zfm_none hV (show i < 6 by omega) h30
          refine zz_aload_n (pc := 33) E dX1_find_33 rfl ?_
          refine zz_iload_n (pc := 34) E dX1_find_34 rfl ?_
          refine zz_cvV (pc := 35) E (24 + 2 * i) (kkX5_putFirst l G hJ _ _ _ (zz_Rf (show i < 6 by omega)) _ _ w23 (by decide) (by omega)) (cwV 1 hts gX1_find_X5_putFirst rfl rfl rfl (by decide +kernel) ⟨Nat.le_of_ble_eq_true rfl, Nat.le_of_ble_eq_true rfl⟩) (by omega) (zz_F_row (zz_Rf (show i < 6 by omega)).1 (zz_Rf (show i < 6 by omega)).2.1) rfl rfl rfl (Nat.le_of_ble_eq_true rfl) dX1_find_35 (fun M35 q35 => ?_)
          obtain ⟨f35, w35⟩ := q35
          refine zz_goto (pc := 38) (tgt := 48) E dX1_find_38 (by decide) ?_
          refine zn_inc (pc := 48) (lv' := [(0, _), (1, _), (2, _), (3, _), (4, _)]) E dX1_find_48 rfl (by decide) rfl ?_
          refine zz_goto (pc := 51) (tgt := 2) E dX1_find_51 (by decide) ?_
          exact zz_to (ih (i + 1) M35 (by omega) (zfr_ct (zfr_ct hf f23 (fun _ h => h) (zKF_mem (by omega))) f35 (fun _ h => h) (zKF_mem (by omega))) (fun t ht => by by_cases e : t = i; rw [e, hfi]; exact w35; exact zrow_fr (zrow_fr (hw t (by omega)) f23 (by simp; omega) (by simp; omega)) f35 (by simp; omega) (by simp; omega))) ⟨rfl, rfl, rfl, trivial⟩
  exact zz_to (key 6 0 M (by omega) (zfr_rf _ _) (fun t ht => absurd ht (by omega))) ⟨rfl, rfl, rfl, trivial⟩
