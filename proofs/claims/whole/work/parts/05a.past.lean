theorem zfr_ct {ks k1 k2 : List Nat} {M M1 M2 : zz_M} (h1 : zfr k1 M M1) (h2 : zfr k2 M1 M2) (s1 : ∀ j ∈ k1, j ∈ ks) (s2 : ∀ j ∈ k2, j ∈ ks) : zfr ks M M2 := fun j hj => by
  rw [h2 j (fun q => hj (s2 j q)), h1 j (fun q => hj (s1 j q))]
theorem zdf_lt : ∀ (m f n : Nat), (zdf f n).length ≤ m → m < f → n < 10 ^ m
  | 0, f, n, h, hf => by
    obtain ⟨f, rfl⟩ : ∃ g, f = g + 1 := ⟨f - 1, by omega⟩
    rw [zdf] at h
    by_cases h0 : n = 0
    · subst h0; decide
    · rw [if_neg h0] at h; simp at h
  | m + 1, f, n, h, hf => by
    obtain ⟨f, rfl⟩ : ∃ g, f = g + 1 := ⟨f - 1, by omega⟩
    rw [zdf] at h
    by_cases h0 : n = 0
    · subst h0; exact Nat.pos_of_ne_zero (by simp)
    · rw [if_neg h0, List.length_cons] at h
      have := zdf_lt m f (n / 10) (by omega) (by omega)
      rw [Nat.pow_succ]
      omega
theorem zok_lt {n kinds most : Nat} (h : zok n kinds most = true) (hm : most < 20) : n < 10 ^ most := by
  unfold zok at h
  simp only [Bool.and_eq_true, decide_eq_true_eq] at h
  exact zdf_lt most 20 n h.2 hm
theorem zok_len {n kinds most : Nat} (h : zok n kinds most = true) : (zd n).length ≤ most := by
  unfold zok at h
  simp only [Bool.and_eq_true, decide_eq_true_eq] at h
  exact h.2
theorem zr_lt {n kinds most : Nat} (h : zok n kinds most = true) : ∀ x ∈ zr n, x < kinds := by
  intro x hx
  unfold zok at h
  simp only [Bool.and_eq_true, decide_eq_true_eq, List.all_eq_true] at h
  unfold zr at hx
  rw [List.mem_reverse, List.mem_map] at hx
  obtain ⟨d, hd, rfl⟩ := hx
  have := h.1 d hd
  omega
/-- the state of rules and claims is well-formed -/
def zV (S : Nat → Option Nat) : Prop := (∀ i, i < 18 → ∀ a, S i = some a → zok a 6 3 = true) ∧ ∀ s, s < 6 → ∀ a, S (18 + s) = some a → zok a s 3 = true ∧ a ≠ 0
/-- what was ahead of the last changes, the newest first, in the ring -/
def zpast (M : zz_M) (nx : Nat) (hs : List (Nat → Option Nat)) : Prop := M 4 0 = nI nx ∧ nx < 20 ∧ M 4 1 = nI hs.length ∧ hs.length ≤ 20 ∧ ∀ (j : Nat) (S : Nat → Option Nat), hs[j]? = some S → ztab M (40 + 3 * ((nx + 19 - j) % 20)) S
def zKP : List Nat := 4 :: (List.range 60).map (fun i => 40 + i)
theorem zKP_mem {i : Nat} (h : i < 60) : 40 + i ∈ zKP := List.mem_cons_of_mem _ (List.mem_map.mpr ⟨i, List.mem_range.mpr h, rfl⟩)
theorem zpast_fr {ks : List Nat} {M M1 : zz_M} {nx : Nat} {hs : List (Nat → Option Nat)} (h : zpast M nx hs) (hf : zfr ks M M1) (hk : ∀ j ∈ ks, j ∉ zKP) : zpast M1 nx hs := by
  have e4 : M1 4 = M 4 := hf 4 (fun q => hk 4 q (by decide))
  refine ⟨by rw [e4]; exact h.1, h.2.1, by rw [e4]; exact h.2.2.1, h.2.2.2.1, fun j S hj => ?_⟩
  have hlt : (nx + 19 - j) % 20 < 20 := Nat.mod_lt _ (by decide)
  refine ztab_fr (h.2.2.2.2 j S hj) hf (fun q => hk _ q ?_) (fun q => hk _ q ?_)
  · rw [show 40 + 3 * ((nx + 19 - j) % 20) + 1 = 40 + (3 * ((nx + 19 - j) % 20) + 1) by omega]; exact zKP_mem (by omega)
  · rw [show 40 + 3 * ((nx + 19 - j) % 20) + 2 = 40 + (3 * ((nx + 19 - j) % 20) + 2) by omega]; exact zKP_mem (by omega)
theorem zpast_keep {M M2 M1 : zz_M} {nx : Nat} {hs : List (Nat → Option Nat)} {S : Nat → Option Nat} (h : zpast M nx hs) (hf : zfr [40 + 3 * nx + 1, 40 + 3 * nx + 2] M M2) (hw : ztab M2 (40 + 3 * nx) S) (hf2 : zfr [4] M2 M1) (h0 : M1 4 0 = nI ((nx + 1) % 20)) (h1 : M1 4 1 = nI (min (hs.length + 1) 20)) : zpast M1 ((nx + 1) % 20) ((S :: hs).take 20) := by
  obtain ⟨g1, g2, g3, g4, g5⟩ := h
  refine ⟨h0, Nat.mod_lt _ (by decide), by rw [h1, List.length_take, List.length_cons, Nat.min_comm], by rw [List.length_take]; omega, fun j T hj => ?_⟩
  rw [List.getElem?_take] at hj
  by_cases hj20 : j < 20
  · rw [if_pos hj20] at hj
    cases j with
    | zero =>
      have e : ((nx + 1) % 20 + 19 - 0) % 20 = nx := by omega
      rw [e]
      rw [List.getElem?_cons_zero] at hj
      cases hj
      exact ztab_fr hw hf2 (by simp; omega) (by simp; omega)
    | succ j =>
      rw [List.getElem?_cons_succ] at hj
      have hjl : j < hs.length := (List.getElem?_eq_some_iff.mp hj).1
      have e : ((nx + 1) % 20 + 19 - (j + 1)) % 20 = (nx + 19 - j) % 20 := by omega
      rw [e]
      have hne : (nx + 19 - j) % 20 ≠ nx := by omega
      exact ztab_fr (ztab_fr (g5 j T hj) hf (by simp; omega) (by simp; omega)) hf2 (by simp; omega) (by simp; omega)
  · rw [if_neg hj20] at hj
    cases hj
theorem zpast_drop {M M1 : zz_M} {nx k : Nat} {hs : List (Nat → Option Nat)} (h : zpast M nx hs) (hk : k ≤ hs.length) (hf : zfr [4, 2, 3] M M1) (h0 : M1 4 0 = nI ((nx + 20 - k) % 20)) (h1 : M1 4 1 = nI (hs.length - k)) : zpast M1 ((nx + 20 - k) % 20) (hs.drop k) := by
  obtain ⟨g1, g2, g3, g4, g5⟩ := h
  refine ⟨h0, Nat.mod_lt _ (by decide), by rw [h1, List.length_drop], by rw [List.length_drop]; omega, fun j T hj => ?_⟩
  rw [List.getElem?_drop] at hj
  have hjl : k + j < hs.length := (List.getElem?_eq_some_iff.mp hj).1
  have e : ((nx + 20 - k) % 20 + 19 - j) % 20 = (nx + 19 - (k + j)) % 20 := by omega
  rw [e]
  exact ztab_fr (g5 _ T hj) hf (by simp; omega) (by simp; omega)

theorem inX3_kept_X3 : ∀ w ∈ u_ws RX3 TX3 3, w ∈ wsX3_kept := by decide +kernel
theorem lkX3_kept_18 : Cond.fieldLink RX3 18 RX3 "kept" "I" ∈ wsX3_kept := by decide +kernel
set_option maxHeartbeats 4000000 in
set_option maxRecDepth 100000 in
theorem kkX3_kept (l : Launch) (G : zz_C) (hJ : zz_J G) (M : zz_M)  : Met l yX3_kept wsX3_kept ({ frames := 0, cells := 0, slots := 0, locals := 0 } : Room) (zz_P G M [.ref (G.2.2 4)]) (zz_Qi G (fun r M1 => M = M1 ∧ r = M 4 1)) 0 0 (zz_A G) := by
  refine zz_start hJ (by decide) rfl (Nat.le_of_ble_eq_true rfl) ?_
  intro p e s m below meth c E hr hlk
  have hts := E.2.2.2.2.1
  show zz_Z p l e (headSpec wsX3_kept ({ frames := 0, cells := 0, slots := 0, locals := 0 } : Room)).room s m ([.ref (G.2.2 4)] : List Value).toArray below meth c 0 0 (MQ below (zz_Qi G (fun r M1 => M = M1 ∧ r = M 4 1)) ([.ref (G.2.2 4)] : List Value).toArray s 0 0 (zz_A G)) 1 G (zz_A G) M 0 [(0, .ref (G.2.2 4))] []
  refine zz_aload_n (pc := 0) E dX3_kept_0 rfl ?_
  refine zz_gf (pc := 1) E 4 (by decide) rfl rfl inX3_kept_X3 2 (by decide) lkX3_kept_18 (fun _ h => h) rfl dX3_kept_1 ?_
  exact zz_iret (pc := 4) E hr hlk dX3_kept_4 ⟨rfl, rfl⟩

/-- a method's start where its class has methods that are no bytecode (java/lang/Math), and it is none of them -/
theorem zz_startF {l : Launch} {y : MethodName} {ws ws' : List Cond} {rm : Room} {cc : ByteArray} {maxL : Nat} {ret : Option FieldType} {G : zz_C} {M : zz_M} {av : List Value} {Qc : Array Value → State → Outcome → State → Prop} (hJ : zz_J G) (hy : plainFor y = true) (hw : ws = Cond.code y cc maxL ret :: ws') (hlen : (lg_sl av).length ≤ maxL)
    (body : ∀ (p : Program) (e : Env) (s : State) (m : MethodId) (below : List Frame) (meth : Method) (c : Code), zz_E p (headSpec ws rm).room s m av.toArray c 0 0 cc maxL ws y.cls G (zz_A G) → meth.sig.returnType = ret → meth.locks = false →
      zz_Z p l e (headSpec ws rm).room s m av.toArray below meth c 0 0 (MQ below Qc av.toArray s 0 0 (zz_A G)) maxL G (zz_A G) M 0 (lv_args 0 av) []) : Met l y ws rm (zz_P G M av) Qc 0 0 (zz_A G) := by
  refine MetFree.of_bodySF (code := cc) (maxLocals := maxL) (ret := ret) hy ?_ ?_
  · intro args s m h hn
    obtain ⟨meth, c, h1, h2, h3, h4, h5, h6, -, -⟩ := Cond.code_spec hn (atoms_spec (ws := ws) h _ (by rw [hw]; exact List.mem_cons_self))
    exact ⟨meth, c, h1, h2, h3, h4, h5, h6⟩
  · intro p e s m args below meth c s₁ B hml hv _
    obtain ⟨rfl, hP, hK⟩ := hv
    have hl := lv_entry av (n := maxL) hlen
    have hh0 : s₁.heap = s.heap := by rw [B.state]; rfl
    have hb := body p e s m below meth c ⟨B.exec, B.bytes, hml, findClass_of_methodNamed B.named, atoms_spec (ws := ws) B.pre, hJ, hK, fun k hk => ⟨k, hk, rfl⟩, Nat.zero_le _, Nat.zero_le _⟩ B.returns B.notSynchronized s.heap [] _ hP va_S.rf hl
    rw [lg_entry_eq]
    obtain ⟨t, a1, o, b1, b2, b3⟩ := hb s₁ hh0 (Stand.of_body B)
    exact ⟨t, o, a1, b1, b2, ⟨b3.1, b3.2⟩⟩
/-- Math.floorMod, as its bytecode goes -/
def zflm (x y : Int32) : Int32 := if 0 ≤ x ^^^ y then x - x / y * y else if x - x / y * y = 0 then x - x / y * y else x - x / y * y + y
theorem zflm_0 : ∀ nx, nx < 20 → zflm (nI nx + nI 0) (nI 20) = nI nx := by decide +kernel
theorem zflm_1 : ∀ nx, nx < 20 → zflm (nI nx + nI 1) (nI 20) = nI ((nx + 1) % 20) := by decide +kernel
theorem zflm_n : ∀ nx, nx < 20 → ∀ k, k < 21 → zflm (nI nx + -(nI k)) (nI 20) = nI ((nx + 20 - k) % 20) := by decide +kernel

set_option maxHeartbeats 4000000 in
set_option maxRecDepth 100000 in
theorem kkJ9_floorMod_7cf53 (l : Launch) (G : zz_C) (hJ : zz_J G) (M : zz_M) (x y : Int32) (hy : ¬ y = 0) : Met l yJ9_floorMod_7cf53 wsJ9_floorMod_7cf53 ({ frames := 0, cells := 0, slots := 0, locals := 0 } : Room) (zz_P G M [.int x, .int y]) (zz_Qi G (fun r M1 => M = M1 ∧ r = zflm x y)) 0 0 (zz_A G) := by
  refine zz_startF hJ (by decide +kernel) rfl (Nat.le_of_ble_eq_true rfl) ?_
  intro p e s m below meth c E hr hlk
  have hts := E.2.2.2.2.1
  show zz_Z p l e (headSpec wsJ9_floorMod_7cf53 ({ frames := 0, cells := 0, slots := 0, locals := 0 } : Room)).room s m ([.int x, .int y] : List Value).toArray below meth c 0 0 (MQ below (zz_Qi G (fun r M1 => M = M1 ∧ r = zflm x y)) ([.int x, .int y] : List Value).toArray s 0 0 (zz_A G)) 3 G (zz_A G) M 0 [(0, .int x), (1, .int y)] []
  refine zz_iload_n (pc := 0) E dJ9_floorMod_7cf53_0 rfl ?_
  refine zz_iload_n (pc := 1) E dJ9_floorMod_7cf53_1 rfl ?_
  refine zz_irem (pc := 2) E dJ9_floorMod_7cf53_2 hy ?_
  refine zz_istore_n (pc := 3) (lv' := [(0, _), (1, _), (2, _)]) E dJ9_floorMod_7cf53_3 (by decide) rfl ?_
  refine zz_iload_n (pc := 4) E dJ9_floorMod_7cf53_4 rfl ?_
  refine zz_iload_n (pc := 5) E dJ9_floorMod_7cf53_5 rfl ?_
  refine zz_ixor (pc := 6) E dJ9_floorMod_7cf53_6 ?_
  refine zz_if_ge (pc := 7) (tgt := 18) E dJ9_floorMod_7cf53_7 (by decide) (fun h7 => ?_) (fun h7 => ?_)
  · refine zz_iload_n (pc := 18) E dJ9_floorMod_7cf53_18 rfl ?_
    exact zz_iret (pc := 19) E hr hlk dJ9_floorMod_7cf53_19 ⟨rfl, by first | (unfold zflm; rw [if_pos h7]) | (unfold zflm; rw [if_neg h7, if_pos h11])⟩
  · refine zz_iload_n (pc := 10) E dJ9_floorMod_7cf53_10 rfl ?_
    refine zz_if_eq (pc := 11) (tgt := 18) E dJ9_floorMod_7cf53_11 (by decide) (fun h11 => ?_) (fun h11 => ?_)
    · refine zz_iload_n (pc := 18) E dJ9_floorMod_7cf53_18 rfl ?_
      exact zz_iret (pc := 19) E hr hlk dJ9_floorMod_7cf53_19 ⟨rfl, by first | (unfold zflm; rw [if_pos h7]) | (unfold zflm; rw [if_neg h7, if_pos h11])⟩
    · refine zz_iload_n (pc := 14) E dJ9_floorMod_7cf53_14 rfl ?_
      refine zz_iload_n (pc := 15) E dJ9_floorMod_7cf53_15 rfl ?_
      refine zz_iadd (pc := 16) E dJ9_floorMod_7cf53_16 ?_
      exact zz_iret (pc := 17) E hr hlk dJ9_floorMod_7cf53_17 ⟨rfl, by unfold zflm; rw [if_neg h7, if_neg h11]⟩

theorem inX3_place_X3 : ∀ w ∈ u_ws RX3 TX3 3, w ∈ wsX3_place := by decide +kernel
theorem lkX3_place_30 : Cond.fieldLink RX3 30 RX3 "next" "I" ∈ wsX3_place := by decide +kernel
set_option maxHeartbeats 4000000 in
set_option maxRecDepth 100000 in
theorem kkX3_place (l : Launch) (G : zz_C) (hJ : zz_J G) (M : zz_M) (nx : Nat) (x : Int32) (h : M 4 0 = nI nx) : Met l yX3_place wsX3_place ({ frames := 1, cells := 0, slots := 0, locals := 22 } : Room) (zz_P G M [.ref (G.2.2 4), .int x]) (zz_Qi G (fun r M1 => M = M1 ∧ r = zflm (nI nx + x) (nI 20))) 0 0 (zz_A G) := by
  refine zz_start hJ (by decide) rfl (Nat.le_of_ble_eq_true rfl) ?_
  intro p e s m below meth c E hr hlk
  have hts := E.2.2.2.2.1
  show zz_Z p l e (headSpec wsX3_place ({ frames := 1, cells := 0, slots := 0, locals := 22 } : Room)).room s m ([.ref (G.2.2 4), .int x] : List Value).toArray below meth c 0 0 (MQ below (zz_Qi G (fun r M1 => M = M1 ∧ r = zflm (nI nx + x) (nI 20))) ([.ref (G.2.2 4), .int x] : List Value).toArray s 0 0 (zz_A G)) 2 G (zz_A G) M 0 [(0, .ref (G.2.2 4)), (1, .int x)] []
  refine zz_aload_n (pc := 0) E dX3_place_0 rfl ?_
  refine zz_gf (pc := 1) E 4 (by decide) rfl rfl inX3_place_X3 1 (by decide) lkX3_place_30 (fun _ h => h) rfl dX3_place_1 ?_
  refine zz_eqi (y := nI nx) h ?_
  refine zz_iload_n (pc := 4) E dX3_place_4 rfl ?_
  refine zz_iadd (pc := 5) E dX3_place_5 ?_
  refine zz_bipush (pc := 6) (v := nI 20) E dX3_place_6 (by decide) ?_
  refine zz_ciS (pc := 8) E (kkJ9_floorMod_7cf53 l G hJ _ _ _ (by decide)) (va_cwS 2 hts gX3_place_J9_floorMod_7cf53 rfl rfl rfl (by decide +kernel) ⟨Nat.le_of_ble_eq_true rfl, Nat.le_of_ble_eq_true rfl⟩) rfl rfl (Nat.le_of_ble_eq_true rfl) dX3_place_8 (fun r8 M8 q8 => ?_)
  obtain ⟨rfl, rfl⟩ := q8
  exact zz_iret (pc := 11) E hr hlk dX3_place_11 ⟨rfl, rfl⟩

theorem inX3_keep_X3 : ∀ w ∈ u_ws RX3 TX3 3, w ∈ wsX3_keep := by decide +kernel
theorem lkX3_keep_11 : Cond.fieldLink RX3 11 RX3 "ahead" "[LFirstSigns$Table;" ∈ wsX3_keep := by decide +kernel
theorem lkX3_keep_30 : Cond.fieldLink RX3 30 RX3 "next" "I" ∈ wsX3_keep := by decide +kernel
theorem lkX3_keep_18 : Cond.fieldLink RX3 18 RX3 "kept" "I" ∈ wsX3_keep := by decide +kernel
theorem mmX3_keep_33_ml : Cond.methodLink RX3 33 Lib.Math.min.name ∈ wsX3_keep := by decide +kernel
theorem mmX3_keep_33_st : Cond.static Lib.Math.min.name ∈ wsX3_keep := by decide +kernel
theorem mmX3_keep_33_in : Cond.initialized "java/lang/Math" ∈ wsX3_keep := by decide +kernel
theorem mmX3_keep_33_co : Cond.code Lib.Math.min.name Lib.Math.min.code 2 (some .int) ∈ wsX3_keep := by decide +kernel
set_option maxHeartbeats 4000000 in
set_option maxRecDepth 100000 in
theorem kkX3_keep (l : Launch) (G : zz_C) (hJ : zz_J G) (M : zz_M) (nx : Nat) (hs : List (Nat → Option Nat)) (S : Nat → Option Nat) (hp : zpast M nx hs) (hS : ztab M 1 S) : Met l yX3_keep wsX3_keep ({ frames := 2, cells := 0, slots := 0, locals := 81 } : Room) (zz_P G M [.ref (G.2.2 4), .ref (G.2.2 1)]) (zz_Qv G (fun M1 => zfr zKP M M1 ∧ zpast M1 ((nx + 1) % 20) ((S :: hs).take 20))) 0 0 (zz_A G) := by
  refine zz_start hJ (by decide) rfl (Nat.le_of_ble_eq_true rfl) ?_
  intro p e s m below meth c E hr hlk
  have hts := E.2.2.2.2.1
  show zz_Z p l e (headSpec wsX3_keep ({ frames := 2, cells := 0, slots := 0, locals := 81 } : Room)).room s m ([.ref (G.2.2 4), .ref (G.2.2 1)] : List Value).toArray below meth c 0 0 (MQ below (zz_Qv G (fun M1 => zfr zKP M M1 ∧ zpast M1 ((nx + 1) % 20) ((S :: hs).take 20))) ([.ref (G.2.2 4), .ref (G.2.2 1)] : List Value).toArray s 0 0 (zz_A G)) 2 G (zz_A G) M 0 [(0, .ref (G.2.2 4)), (1, .ref (G.2.2 1))] []
  obtain ⟨g1, g2, g3, g4, g5⟩ := id hp
  refine zz_aload_n (pc := 0) E dX3_keep_0 rfl ?_
  refine zz_gf (pc := 1) E 4 (by decide) rfl rfl inX3_keep_X3 0 (by decide) lkX3_keep_11 (fun _ h => h) rfl dX3_keep_1 ?_
  refine zz_aload_n (pc := 4) E dX3_keep_4 rfl ?_
  refine zz_iconst (pc := 5) (v := nI 0) E dX3_keep_5 (by decide) ?_
  refine zz_ciV (pc := 6) E 4 (kkX3_place l G hJ _ _ _ g1) (cwV 1 hts gX3_keep_X3_place rfl rfl rfl (by decide +kernel) ⟨Nat.le_of_ble_eq_true rfl, Nat.le_of_ble_eq_true rfl⟩) (by decide) rfl rfl rfl rfl (Nat.le_of_ble_eq_true rfl) dX3_keep_6 (fun r6 M6 q6 => ?_)
  obtain ⟨rfl, rfl⟩ := q6
  refine zz_eqi (y := nI nx) (zflm_0 nx g2) ?_
  refine zz_aald (pc := 9) E 5 (nx) (n := 20) (t0 := 2) (f := fun i => G.2.2 (40 + 3 * i)) (by decide) rfl rfl rfl rfl g2 (by decide) dX3_keep_9 ?_
  refine zz_aload_n (pc := 10) E dX3_keep_10 rfl ?_
  refine zz_cvV (pc := 11) E (40 + 3 * nx) (kkX6_copyFrom l G hJ _  _ (zz_Tk g2) 1 zz_T1 S hS (by omega)) (cwV 1 hts gX3_keep_X6_copyFrom rfl rfl rfl (by decide +kernel) ⟨Nat.le_of_ble_eq_true rfl, Nat.le_of_ble_eq_true rfl⟩) (by have := hp.2.1; omega) (zz_F_tab (zz_Tk hp.2.1).1) rfl rfl rfl (Nat.le_of_ble_eq_true rfl) dX3_keep_11 (fun M11 q11 => ?_)
  obtain ⟨f11, w11⟩ := q11
  have e4 : M11 4 = M 4 := f11 4 (by simp; omega)
  rw [← e4] at g1 g3
  refine zz_aload_n (pc := 14) E dX3_keep_14 rfl ?_
  refine zz_aload_n (pc := 15) E dX3_keep_15 rfl ?_
  refine zz_iconst (pc := 16) (v := nI 1) E dX3_keep_16 (by decide) ?_
  refine zz_ciV (pc := 17) E 4 (kkX3_place l G hJ _ _ _ g1) (cwV 1 hts gX3_keep_X3_place rfl rfl rfl (by decide +kernel) ⟨Nat.le_of_ble_eq_true rfl, Nat.le_of_ble_eq_true rfl⟩) (by decide) rfl rfl rfl rfl (Nat.le_of_ble_eq_true rfl) dX3_keep_17 (fun r17 M17 q17 => ?_)
  obtain ⟨rfl, rfl⟩ := q17
  refine zz_eqi (y := nI ((nx + 1) % 20)) (zflm_1 nx g2) ?_
  refine zz_pfj (pc := 20) E 4 0 (by decide) rfl rfl inX3_keep_X3 tyX3 tyX3_ok nmX3 1 (by decide) lkX3_keep_30 (fun _ h => h) rfl rfl (Nat.le_of_ble_eq_true rfl) rfl dX3_keep_20 ?_
  refine zz_aload_n (pc := 23) E dX3_keep_23 rfl ?_
  refine zz_aload_n (pc := 24) E dX3_keep_24 rfl ?_
  refine zz_gf (pc := 25) E 4 (by decide) rfl rfl inX3_keep_X3 2 (by decide) lkX3_keep_18 (fun _ h => h) rfl dX3_keep_25 ?_
  refine zz_eqi (y := nI hs.length) (by rw [zz_up_same]; exact g3) ?_
  refine zz_iconst (pc := 28) (v := nI 1) E dX3_keep_28 (by decide) ?_
  refine zn_iadd (pc := 29) E dX3_keep_29 ?_
  refine zz_bipush (pc := 30) (v := nI 20) E dX3_keep_30 (by decide) ?_
  refine zz_min (rest := []) (pc := 32) E mmX3_keep_33_ml mmX3_keep_33_st mmX3_keep_33_in mmX3_keep_33_co (by decide) (Nat.le_of_ble_eq_true rfl) dX3_keep_32 ?_
  refine zz_eqi (y := nI (min (hs.length + 1) 20)) (zmin_ok (by omega) (by decide)) ?_
  refine zz_pfj (pc := 35) E 4 1 (by decide) rfl rfl inX3_keep_X3 tyX3 tyX3_ok nmX3 2 (by decide) lkX3_keep_18 (fun _ h => h) rfl rfl (Nat.le_of_ble_eq_true rfl) rfl dX3_keep_35 ?_
  exact zz_vret (pc := 38) E hr hlk dX3_keep_38 ⟨zfr_up (zfr_up (zfr_mono f11 (fun j hj => by rcases List.mem_cons.mp hj with rfl | hj; exact zKP_mem (i := 3 * nx + 1) (by omega); rcases List.mem_cons.mp hj with rfl | hj; exact zKP_mem (i := 3 * nx + 2) (by omega); cases hj)) (by decide)) (by decide), zpast_keep hp f11 w11 (zfr_up (zfr_up (zfr_rf _ _) (by simp)) (by simp)) (by rw [zz_up_same, zz_up_same]; rfl) (by rw [zz_up_same]; rfl)⟩

theorem inX3_bringBack_X3 : ∀ w ∈ u_ws RX3 TX3 3, w ∈ wsX3_bringBack := by decide +kernel
theorem lkX3_bringBack_18 : Cond.fieldLink RX3 18 RX3 "kept" "I" ∈ wsX3_bringBack := by decide +kernel
theorem lkX3_bringBack_30 : Cond.fieldLink RX3 30 RX3 "next" "I" ∈ wsX3_bringBack := by decide +kernel
theorem lkX3_bringBack_11 : Cond.fieldLink RX3 11 RX3 "ahead" "[LFirstSigns$Table;" ∈ wsX3_bringBack := by decide +kernel
set_option maxHeartbeats 4000000 in
set_option maxRecDepth 100000 in
theorem kkX3_bringBack (l : Launch) (G : zz_C) (hJ : zz_J G) (M : zz_M) (nx : Nat) (hs : List (Nat → Option Nat)) (S : Nat → Option Nat) (k : Nat) (hp : zpast M nx hs) (hS : ztab M 1 S) (hk : k ≤ hs.length) : Met l yX3_bringBack wsX3_bringBack ({ frames := 2, cells := 0, slots := 0, locals := 81 } : Room) (zz_P G M [.ref (G.2.2 4), .ref (G.2.2 1), .int (nI k)]) (zz_Qv G (fun M1 => zfr [4, 2, 3] M M1 ∧ (∃ n2, zpast M1 n2 (hs.drop k)) ∧ ztab M1 1 ((S :: hs).getD k S))) 0 0 (zz_A G) := by
  refine zz_start hJ (by decide) rfl (Nat.le_of_ble_eq_true rfl) ?_
  intro p e s m below meth c E hr hlk
  have hts := E.2.2.2.2.1
  show zz_Z p l e (headSpec wsX3_bringBack ({ frames := 2, cells := 0, slots := 0, locals := 81 } : Room)).room s m ([.ref (G.2.2 4), .ref (G.2.2 1), .int (nI k)] : List Value).toArray below meth c 0 0 (MQ below (zz_Qv G (fun M1 => zfr [4, 2, 3] M M1 ∧ (∃ n2, zpast M1 n2 (hs.drop k)) ∧ ztab M1 1 ((S :: hs).getD k S))) ([.ref (G.2.2 4), .ref (G.2.2 1), .int (nI k)] : List Value).toArray s 0 0 (zz_A G)) 3 G (zz_A G) M 0 [(0, .ref (G.2.2 4)), (1, .ref (G.2.2 1)), (2, .int (nI k))] []
  obtain ⟨g1, g2, g3, g4, g5⟩ := id hp
  refine zz_iload_n (pc := 0) E dX3_bringBack_0 rfl ?_
  refine zn_if_le (pc := 1) (tgt := 46) E dX3_bringBack_1 (by decide) (by omega) (fun h1 => ?_) (fun h1 => ?_)
  · have hk0 : k = 0 := by omega
    subst hk0
    exact zz_vret (pc := 46) E hr hlk dX3_bringBack_46 ⟨zfr_rf _ _, ⟨nx, hp⟩, hS⟩
  · refine zz_iload_n (pc := 4) E dX3_bringBack_4 rfl ?_
    refine zz_aload_n (pc := 5) E dX3_bringBack_5 rfl ?_
    refine zz_gf (pc := 6) E 4 (by decide) rfl rfl inX3_bringBack_X3 2 (by decide) lkX3_bringBack_18 (fun _ h => h) rfl dX3_bringBack_6 ?_
    refine zz_eqi (y := nI hs.length) g3 ?_
    refine zn_icmp_gt (pc := 9) (tgt := 46) E dX3_bringBack_9 (by decide) (by omega) (by omega) (fun h9 => ?_) (fun h9 => ?_)
    · exact absurd h9 (by omega)
    · refine zz_aload_n (pc := 12) E dX3_bringBack_12 rfl ?_
      refine zz_aload_n (pc := 13) E dX3_bringBack_13 rfl ?_
      refine zz_iload_n (pc := 14) E dX3_bringBack_14 rfl ?_
      refine zz_ineg (pc := 15) E dX3_bringBack_15 ?_
      refine zz_ciV (pc := 16) E 4 (kkX3_place l G hJ _ _ _ g1) (cwV 1 hts gX3_bringBack_X3_place rfl rfl rfl (by decide +kernel) ⟨Nat.le_of_ble_eq_true rfl, Nat.le_of_ble_eq_true rfl⟩) (by decide) rfl rfl rfl rfl (Nat.le_of_ble_eq_true rfl) dX3_bringBack_16 (fun r16 M16 q16 => ?_)
      obtain ⟨rfl, rfl⟩ := q16
      refine zz_eqi (y := nI ((nx + 20 - k) % 20)) (zflm_n nx g2 k (by omega)) ?_
      refine zz_pfj (pc := 19) E 4 0 (by decide) rfl rfl inX3_bringBack_X3 tyX3 tyX3_ok nmX3 1 (by decide) lkX3_bringBack_30 (fun _ h => h) rfl rfl (Nat.le_of_ble_eq_true rfl) rfl dX3_bringBack_19 ?_
      refine zz_aload_n (pc := 22) E dX3_bringBack_22 rfl ?_
      refine zz_dup (pc := 23) E dX3_bringBack_23 rfl ?_
      refine zz_gf (pc := 24) E 4 (by decide) rfl rfl inX3_bringBack_X3 2 (by decide) lkX3_bringBack_18 (fun _ h => h) rfl dX3_bringBack_24 ?_
      refine zz_eqi (y := nI hs.length) (by rw [zz_up_same]; exact g3) ?_
      refine zz_iload_n (pc := 27) E dX3_bringBack_27 rfl ?_
      refine zn_isub (pc := 28) E dX3_bringBack_28 (by omega) ?_
      refine zz_pfj (pc := 29) E 4 1 (by decide) rfl rfl inX3_bringBack_X3 tyX3 tyX3_ok nmX3 2 (by decide) lkX3_bringBack_18 (fun _ h => h) rfl rfl (Nat.le_of_ble_eq_true rfl) rfl dX3_bringBack_29 ?_
      generalize hM2 : zz_up _ 4 _ = M2
      have f2 : zfr [4] M M2 := by rw [← hM2]; exact zfr_up (zfr_up (zfr_rf _ _) (by simp)) (by simp)
      have a0 : M2 4 0 = nI ((nx + 20 - k) % 20) := by rw [← hM2, zz_up_same, zz_up_same]; rfl
      have a1 : M2 4 1 = nI (hs.length - k) := by rw [← hM2, zz_up_same]; rfl
      clear hM2
      obtain ⟨T, hT⟩ : ∃ T, hs[k - 1]? = some T := ⟨_, List.getElem?_eq_getElem (by omega)⟩
      have hT2 := g5 _ T hT
      rw [show (nx + 19 - (k - 1)) % 20 = (nx + 20 - k) % 20 by omega] at hT2
      have hmod : (nx + 20 - k) % 20 < 20 := Nat.mod_lt _ (by decide)
      have hT3 : ztab M2 (40 + 3 * ((nx + 20 - k) % 20)) T := ztab_fr hT2 f2 (by simp; omega) (by simp; omega)
      refine zz_aload_n (pc := 32) E dX3_bringBack_32 rfl ?_
      refine zz_aload_n (pc := 33) E dX3_bringBack_33 rfl ?_
      refine zz_gf (pc := 34) E 4 (by decide) rfl rfl inX3_bringBack_X3 0 (by decide) lkX3_bringBack_11 (fun _ h => h) rfl dX3_bringBack_34 ?_
      refine zz_aload_n (pc := 37) E dX3_bringBack_37 rfl ?_
      refine zz_iconst (pc := 38) (v := nI 0) E dX3_bringBack_38 (by decide) ?_
      refine zz_ciV (pc := 39) E 4 (kkX3_place l G hJ _ _ _ a0) (cwV 1 hts gX3_bringBack_X3_place rfl rfl rfl (by decide +kernel) ⟨Nat.le_of_ble_eq_true rfl, Nat.le_of_ble_eq_true rfl⟩) (by decide) rfl rfl rfl rfl (Nat.le_of_ble_eq_true rfl) dX3_bringBack_39 (fun r39 M39 q39 => ?_)
      obtain ⟨rfl, rfl⟩ := q39
      refine zz_eqi (y := nI ((nx + 20 - k) % 20)) (zflm_0 _ hmod) ?_
      refine zz_aald (pc := 42) E 5 ((nx + 20 - k) % 20) (n := 20) (t0 := 2) (f := fun i => G.2.2 (40 + 3 * i)) (by decide) rfl rfl rfl rfl hmod (by decide) dX3_bringBack_42 ?_
      refine zz_cvV (pc := 43) E 1 (kkX6_copyFrom l G hJ _  1 zz_T1 _ (zz_Tk hmod) T hT3 (by omega)) (cwV 1 hts gX3_bringBack_X6_copyFrom rfl rfl rfl (by decide +kernel) ⟨Nat.le_of_ble_eq_true rfl, Nat.le_of_ble_eq_true rfl⟩) (by decide) rfl rfl rfl rfl (Nat.le_of_ble_eq_true rfl) dX3_bringBack_43 (fun M43 q43 => ?_)
      obtain ⟨f43, w43⟩ := q43
      exact zz_vret (pc := 46) E hr hlk dX3_bringBack_46 ⟨zfr_ct f2 f43 (by simp) (by simp), ⟨_, zpast_drop hp hk (zfr_ct f2 f43 (by simp) (by simp)) (by rw [f43 4 (by decide)]; exact a0) (by rw [f43 4 (by decide)]; exact a1)⟩, by have e : (S :: hs).getD k S = T := by { obtain ⟨k, rfl⟩ : ∃ q, k = q + 1 := ⟨k - 1, by omega⟩; rw [List.getD_eq_getElem?_getD, List.getElem?_cons_succ]; rw [Nat.add_sub_cancel] at hT; rw [hT]; rfl }; rw [e]; exact w43⟩
