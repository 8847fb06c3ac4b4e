set_option maxHeartbeats 4000000 in
set_option maxRecDepth 20000 in
theorem zL_loop {p : Program} {l : Launch} {e : Env} {s : State} {m : MethodId} {args : Array Value} {below : List Frame} {meth : Method} {c : Code} {cells slots : Nat} {Q : State → Prop} {G : zz_C} {A : Nat → Prop} {b L : Nat} {xs : Nat → Int32} (E : zz_E p room_1 s m args c cells slots cL_law 4 wsL_law RL G A) (hX : zX s A b L xs) (fin : ∀ (M : zz_M) (lv : List (Nat × Value)), zz_Z p l e room_1 s m args below meth c cells slots Q 4 G A M 702 lv []) : ∀ (k i : Nat) (M : zz_M) (S : Nat → Option Nat) (hs : List (Nat → Option Nat)), zI M S hs → zJ M S hs → i < 10000 → L ≤ i + 5 * k → zz_Z p l e room_1 s m args below meth c cells slots Q 4 G A M 18 [(0, .ref b), (1, .ref (G.2.2 0)), (2, .ref (G.2.2 100)), (3, .int (nI i))] [] := by
  intro k
  induction k with
  | zero =>
    intro i M S hs hI hJ hi hk
    · skip
      refine zz_iload_n (pc := 18) E dL_law_18 rfl ?_
      refine zz_aload_n (pc := 19) E dL_law_19 rfl ?_
      refine zz_slen (pc := 20) E hX dL_law_20 ?_
      refine zz_iconst (pc := 21) (v := nI 5) E dL_law_21 (by decide) ?_
      refine zz_isub (pc := 22) E dL_law_22 ?_
      refine zz_icmp_gt (pc := 23) (tgt := 702) E dL_law_23 (by decide) (fun _ => fin _ _) (fun h => absurd (zl_gt hX.2.2.2 hi h) (by omega))
  | succ k ih =>
    intro i M S hs hI hJ hi hk
    · skip
      refine zz_iload_n (pc := 18) E dL_law_18 rfl ?_
      refine zz_aload_n (pc := 19) E dL_law_19 rfl ?_
      refine zz_slen (pc := 20) E hX dL_law_20 ?_
      refine zz_iconst (pc := 21) (v := nI 5) E dL_law_21 (by decide) ?_
      refine zz_isub (pc := 22) E dL_law_22 ?_
      refine zz_icmp_gt (pc := 23) (tgt := 702) E dL_law_23 (by decide) (fun _ => fin _ _) (fun h => ?_)
      have h5 : i + 5 ≤ L := zl_gt hX.2.2.2 hi h
      have hL := hX.2.2.2
      have go : ∀ (M' : zz_M) (S' : Nat → Option Nat) (hs' : List (Nat → Option Nat)), zI M' S' hs' → zJ M' S' hs' → zz_Z p l e room_1 s m args below meth c cells slots Q 4 G A M' 696 [(0, .ref b), (1, .ref (G.2.2 0)), (2, .ref (G.2.2 100)), (3, .int (nI i))] [] := by
        intro M' S' hs' h1 h2
        refine zz_iinc (pc := 696) (v := nI (i + 5)) (lv' := [(0, _), (1, _), (2, _), (3, _)]) E dL_law_696 rfl (nI_add i 5) (by decide) rfl ?_
        refine zz_goto (pc := 699) (tgt := 18) E dL_law_699 (by decide) ?_
        exact ih (i + 5) M' S' hs' h1 h2 (by omega) (by omega)
      refine zz_aload_n (pc := 26) E dL_law_26 rfl ?_
      refine zz_iload_n (pc := 27) E dL_law_27 rfl ?_
      refine zz_sld (pc := 28) E hX i rfl (by omega) dL_law_28 ?_
      refine zz_bipush (pc := 29) (v := 31) E dL_law_29 (by decide) ?_
      refine zz_iand (pc := 31) E dL_law_31 ?_
      generalize xs i &&& 31 = x
      by_cases hn : x < 0
      · exact zz_tabOut (pc := 32) (tgt := 696) E dL_law_32 (Or.inl (Int32.lt_iff_toInt_lt.mp hn)) (by decide) (go M S hs hI hJ)
      obtain ⟨j, hj, rfl⟩ := nI_of hn
      by_cases hc : j ≤ 17
      · rcases (show j = 0 ∨ j = 1 ∨ j = 2 ∨ j = 3 ∨ j = 4 ∨ j = 5 ∨ j = 6 ∨ j = 7 ∨ j = 8 ∨ j = 9 ∨ j = 10 ∨ j = 11 ∨ j = 12 ∨ j = 13 ∨ j = 14 ∨ j = 15 ∨ j = 16 ∨ j = 17 by omega) with rfl | rfl | rfl | rfl | rfl | rfl | rfl | rfl | rfl | rfl | rfl | rfl | rfl | rfl | rfl | rfl | rfl | rfl
        · exact zz_tabIn (pc := 32) E dL_law_32 (by decide) rfl (by decide) (zL_rule E hX h5 hI hJ go)
        · exact zz_tabIn (pc := 32) E dL_law_32 (by decide) rfl (by decide) (zL_ofRule E hX h5 hI hJ go)
        · exact zz_tabIn (pc := 32) E dL_law_32 (by decide) rfl (by decide) (zL_read E hX h5 hI hJ go)
        · exact zz_tabIn (pc := 32) E dL_law_32 (by decide) rfl (by decide) (zL_norm E hX h5 hI hJ go)
        · exact zz_tabIn (pc := 32) E dL_law_32 (by decide) rfl (by decide) (zL_least E hX h5 hI hJ go)
        · exact zz_tabIn (pc := 32) E dL_law_32 (by decide) rfl (by decide) (zL_words E hX h5 hI hJ go)
        · exact zz_tabIn (pc := 32) E dL_law_32 (by decide) rfl (by decide) (zL_parts E hX h5 hI hJ go)
        · exact zz_tabIn (pc := 32) E dL_law_32 (by decide) rfl (by decide) (zL_firsts E hX h5 hI hJ go)
        · exact zz_tabIn (pc := 32) E dL_law_32 (by decide) rfl (by decide) (zL_claim E hX h5 hI hJ go)
        · exact zz_tabIn (pc := 32) E dL_law_32 (by decide) rfl (by decide) (zL_ofClaim E hX h5 hI hJ go)
        · exact zz_tabIn (pc := 32) E dL_law_32 (by decide) rfl (by decide) (zL_reduced E hX h5 hI hJ go)
        · exact zz_tabIn (pc := 32) E dL_law_32 (by decide) rfl (by decide) (zL_alike E hX h5 hI hJ go)
        · exact zz_tabIn (pc := 32) E dL_law_32 (by decide) rfl (by decide) (zL_common E hX h5 hI hJ go)
        · exact zz_tabIn (pc := 32) E dL_law_32 (by decide) rfl (by decide) (zL_broken E hX h5 hI hJ go)
        · exact zz_tabIn (pc := 32) E dL_law_32 (by decide) rfl (by decide) (zL_settle E hX h5 hI hJ go)
        · exact zz_tabIn (pc := 32) E dL_law_32 (by decide) rfl (by decide) (zL_might E hX h5 hI hJ go)
        · exact zz_tabIn (pc := 32) E dL_law_32 (by decide) rfl (by decide) (zL_undo E hX h5 hI hJ go)
        · exact zz_tabIn (pc := 32) E dL_law_32 (by decide) rfl (by decide) (zL_many E hX h5 hI hJ go)
      · exact zz_tabOut (pc := 32) (tgt := 696) E dL_law_32 (Or.inr (by rw [nI_toInt hj]; omega)) (by decide) (go M S hs hI hJ)

theorem zL_known {s : State} {args : Array Value} (hts : ∀ w ∈ lw_tbl, w.before args s = true) : ∃ (D : va_G) (f : Nat → ClassId), ∀ n, yy_K (zG D f n) s := by
  obtain ⟨c0, i0, k0⟩ := u_known (C := RX0) (T := TX0) (N := 2) (n := 2) hts wsL_in_wsX00 (hts (.instantiable RX0 2) (by decide +kernel))
  obtain ⟨c1, i1, k1⟩ := u_known (C := RX1) (T := TX1) (N := 1) (n := 1) hts wsL_in_wsX10 (hts (.instantiable RX1 1) (by decide +kernel))
  obtain ⟨c2, i2, k2⟩ := u_known (C := RX2) (T := TX2) (N := 1) (n := 1) hts wsL_in_wsX20 (hts (.instantiable RX2 1) (by decide +kernel))
  obtain ⟨c3, i3, k3⟩ := u_known (C := RX3) (T := TX3) (N := 3) (n := 3) hts wsL_in_wsX30 (hts (.instantiable RX3 3) (by decide +kernel))
  obtain ⟨c4, i4, k4⟩ := u_known (C := RX4) (T := TX4) (N := 2) (n := 2) hts wsL_in_wsX40 (hts (.instantiable RX4 2) (by decide +kernel))
  obtain ⟨c5, i5, k5⟩ := u_known (C := RX5) (T := TX5) (N := 2) (n := 2) hts wsL_in_wsX50 (hts (.instantiable RX5 2) (by decide +kernel))
  obtain ⟨c6, i6, k6⟩ := u_known (C := RX6) (T := TX6) (N := 2) (n := 2) hts wsL_in_wsX60 (hts (.instantiable RX6 2) (by decide +kernel))
  obtain ⟨c7, i7, k7⟩ := u_known (C := RX7) (T := TX7) (N := 8) (n := 8) hts wsL_in_wsX70 (hts (.instantiable RX7 8) (by decide +kernel))
  obtain ⟨c8, i8, k8⟩ := u_known (C := RX8) (T := TX8) (N := 14) (n := 14) hts wsL_in_wsX80 (hts (.instantiable RX8 14) (by decide +kernel))
  obtain ⟨cI, kI, cmI, a1, a2, a3⟩ := Cond.arrayClass_spec (hts (.arrayClass .int) (by decide +kernel))
  obtain ⟨cmR, cR, kR, b1, -, b3, b4, b5⟩ := Cond.arrayOver_spec (hts (.arrayOver (.object RX5)) (by decide +kernel))
  obtain ⟨cmT, cT, kT, t1, -, t3, t4, t5⟩ := Cond.arrayOver_spec (hts (.arrayOver (.object RX6)) (by decide +kernel))
  obtain ⟨cmA, cA, kA, d1, d2, d3, d4⟩ := Cond.arrayOver_specA (hts (.arrayOver (.array .int)) (by decide +kernel))
  refine ⟨(fun k => match k with | 0 => c0 | 1 => c1 | 2 => c2 | 3 => c3 | 4 => c4 | 5 => c5 | 6 => c6 | 7 => c7 | _ => c8, fun k => match k with | 0 => i0 | 1 => i1 | 2 => i2 | 3 => i3 | 4 => i4 | 5 => i5 | 6 => i6 | 7 => i7 | _ => i8), fun k => match k with | 0 => cI | 1 => cR | 2 => cT | _ => cA, fun n => ⟨⟨⟨fun k q hq => ?_, fun k q hq => ?_⟩, ?_⟩, ⟨?_, ?_, ?_⟩, ?_, ?_, ?_⟩⟩
  · match k, hq with
    | 0, hq => cases hq; exact k0
    | 1, hq => cases hq; exact k1
    | 2, hq => cases hq; exact k2
    | 3, hq => cases hq; exact k3
    | 4, hq => cases hq; exact k4
    | 5, hq => cases hq; exact k5
    | 6, hq => cases hq; exact k6
    | 7, hq => cases hq; exact k7
    | 8, hq => cases hq; exact k8
    | k + 9, hq => simp [vwCl] at hq
  · match k, hq with
    | 0, hq => cases hq; exact ⟨fun n z => ⟨fun k h => (by cases h), kI, a2, cmI, a3⟩, a1⟩
    | 1, hq => cases hq; exact ⟨fun n z => ⟨fun k h => (by cases h), kR, b3, cmR, b4⟩, kR, cmR, b3, b4, b1, b5⟩
    | 2, hq => cases hq; exact ⟨fun n z => ⟨fun k h => (by cases h), kT, t3, cmT, t4⟩, kT, cmT, t3, t4, t1, t5⟩
    | 3, hq => cases hq; exact ⟨fun n z => ⟨fun k h => (by cases h), kA, d2, cmA, d3⟩, d4⟩
    | k + 4, hq => simp [zz_T] at hq
  · exact ⟨va_Nw.of rfl (hts (.methodLinkNest RX0 43 yX7_isSign "FirstSigns") (by decide +kernel)), va_Nw.of rfl (hts (.methodLinkNest RX1 36 yX7_isSign "FirstSigns") (by decide +kernel)), va_Nw.of rfl (hts (.methodLinkNest RX2 42 yX7_isSign "FirstSigns") (by decide +kernel)), va_Nw.of rfl (hts (.methodLinkNest RX6 24 yX7_isSign "FirstSigns") (by decide +kernel)), va_Nw.of rfl (hts (.methodLinkNest RX6 28 yX7_isLetter "FirstSigns") (by decide +kernel))⟩
  · exact va_Nw.of rfl (hts (.methodLinkNest RX7 27 yX4_init "FirstSigns") (by decide +kernel))
  · exact va_Nw.of rfl (hts (.methodLinkNest RX7 34 yX2_init "FirstSigns") (by decide +kernel))
  · exact va_Nw.of rfl (hts (.methodLinkNest RX7 41 yX0_init "FirstSigns") (by decide +kernel))
  · exact va_AO.of (hts (.arrayOver (.object RX5)) (by decide +kernel))
  · exact va_AO.of (hts (.arrayOver (.object RX6)) (by decide +kernel))
  · exact va_AOA.of (hts (.arrayOver (.array .int)) (by decide +kernel))
