theorem zmu_up {v : Nat → Option Nat} {s n : Nat} (hs : s < 6) (h : n < zvl (v s)) : zmu (zvu v s (some n)) < zmu v := by
  unfold zmu
  match s, hs with
  | 0, _ => rw [zvu_same, zvu_ne _ _ (by decide), zvu_ne _ _ (by decide), zvu_ne _ _ (by decide), zvu_ne _ _ (by decide), zvu_ne _ _ (by decide)]; show n + _ + _ + _ + _ + _ < _; omega
  | 1, _ => rw [zvu_same, zvu_ne _ _ (by decide), zvu_ne _ _ (by decide), zvu_ne _ _ (by decide), zvu_ne _ _ (by decide), zvu_ne _ _ (by decide)]; show _ + n + _ + _ + _ + _ < _; omega
  | 2, _ => rw [zvu_same, zvu_ne _ _ (by decide), zvu_ne _ _ (by decide), zvu_ne _ _ (by decide), zvu_ne _ _ (by decide), zvu_ne _ _ (by decide)]; show _ + _ + n + _ + _ + _ < _; omega
  | 3, _ => rw [zvu_same, zvu_ne _ _ (by decide), zvu_ne _ _ (by decide), zvu_ne _ _ (by decide), zvu_ne _ _ (by decide), zvu_ne _ _ (by decide)]; show _ + _ + _ + n + _ + _ < _; omega
  | 4, _ => rw [zvu_same, zvu_ne _ _ (by decide), zvu_ne _ _ (by decide), zvu_ne _ _ (by decide), zvu_ne _ _ (by decide), zvu_ne _ _ (by decide)]; show _ + _ + _ + _ + n + _ < _; omega
  | 5, _ => rw [zvu_same, zvu_ne _ _ (by decide), zvu_ne _ _ (by decide), zvu_ne _ _ (by decide), zvu_ne _ _ (by decide), zvu_ne _ _ (by decide)]; show _ + _ + _ + _ + _ + n < _; omega
theorem zfix_of {S v : Nat → Option Nat} (h1 : zdn S v) (h2 : ∀ x, x < 18 → ole (v (x / 3)) (zby S v (x / 3) (some (x % 3)))) : zfix S v := fun s hs => ole_as (fun n hn => by
  obtain ⟨a, ha, hb⟩ := zmin_ex hn
  have h := h2 (3 * s + a) (by omega)
  rw [show (3 * s + a) / 3 = s by omega, show (3 * s + a) % 3 = a by omega] at h
  exact h n hb) (h1 s hs)
/-- a pass of the reference: nothing found, or something less -/
def zpass (S v v2 : Nat → Option Nat) (b i : Nat) : Prop := (b = 0 ∧ v2 = v ∧ ∀ x, x < i → ole (v (x / 3)) (zby S v (x / 3) (some (x % 3)))) ∨ (b = 1 ∧ zmu v2 < zmu v)
theorem zpass_keep {S v v2 : Nat → Option Nat} {b i : Nat} (h : zpass S v v2 b i) (h2 : ole (v2 (i / 3)) (zby S v2 (i / 3) (some (i % 3)))) : zpass S v v2 b (i + 1) := by
  rcases h with ⟨h1, rfl, h3⟩ | h
  · exact Or.inl ⟨h1, rfl, fun x hx => by
      by_cases e : x = i
      · rw [e]; exact h2
      · exact h3 x (by omega)⟩
  · exact Or.inr h
theorem zpass_up {S v v2 v3 : Nat → Option Nat} {b i j : Nat} (h : zpass S v v2 b i) (h2 : zmu v3 < zmu v2) : zpass S v v3 1 j := by
  rcases h with ⟨h1, rfl, h3⟩ | h
  · exact Or.inr ⟨rfl, h2⟩
  · exact Or.inr ⟨rfl, by omega⟩
def zn8 (M : zz_M) (v : Nat → Option Nat) : Prop := ∀ s, s < 6 → M 104 s = zo (v s)

theorem inX8_findNorms_X8 : ∀ w ∈ u_ws RX8 TX8 14, w ∈ wsX8_findNorms := by decide +kernel
theorem lkX8_findNorms_7 : Cond.fieldLink RX8 7 RX8 "told" "[I" ∈ wsX8_findNorms := by decide +kernel
theorem lkX8_findNorms_19 : Cond.fieldLink RX8 19 RX8 "norms" "[I" ∈ wsX8_findNorms := by decide +kernel
set_option maxHeartbeats 4000000 in
set_option maxRecDepth 100000 in
theorem kkX8_findNorms (l : Launch) (G : zz_C) (hJ : zz_J G) (M : zz_M) (S : Nat → Option Nat) (hV : zV S) (hS : ztl M S) : Met l yX8_findNorms wsX8_findNorms ({ frames := 3, cells := 0, slots := 0, locals := 72 } : Room) (zz_P G M [.ref (G.2.2 100)]) (zz_Qv G (fun M1 => zfr [104] M M1 ∧ zn8 M1 (zit S 36))) 0 0 (zz_A G) := by
  refine zz_start hJ (by decide) rfl (Nat.le_of_ble_eq_true rfl) ?_
  intro p e s m below meth c E hr hlk
  have hts := E.2.2.2.2.1
  show zz_Z p l e (headSpec wsX8_findNorms ({ frames := 3, cells := 0, slots := 0, locals := 72 } : Room)).room s m ([.ref (G.2.2 100)] : List Value).toArray below meth c 0 0 (MQ below (zz_Qv G (fun M1 => zfr [104] M M1 ∧ zn8 M1 (zit S 36))) ([.ref (G.2.2 100)] : List Value).toArray s 0 0 (zz_A G)) 5 G (zz_A G) M 0 [(0, .ref (G.2.2 100))] []
  refine zz_iconst (pc := 0) (v := nI 0) E dX8_findNorms_0 (by decide) ?_
  refine zz_istore_n (pc := 1) (lv' := [(0, _), (1, _)]) E dX8_findNorms_1 (by decide) rfl ?_
  have key0 : ∀ (j i : Nat) (M2 : zz_M), i + j = 6 → zfr [104] M M2 → (∀ s, s < i → M2 104 s = -9) → zz_Z p l e (headSpec wsX8_findNorms ({ frames := 3, cells := 0, slots := 0, locals := 72 } : Room)).room s m ([.ref (G.2.2 100)] : List Value).toArray below meth c 0 0 (MQ below (zz_Qv G (fun M1 => zfr [104] M M1 ∧ zn8 M1 (zit S 36))) ([.ref (G.2.2 100)] : List Value).toArray s 0 0 (zz_A G)) 5 G (zz_A G) M2 2 [(0, .ref (G.2.2 100)), (1, .int (nI i))] [] := by
    intro j
    induction j with
    | zero =>
      intro i M2 hi hf hq
      refine zz_iload_n (pc := 2) E dX8_findNorms_2 rfl ?_
      refine zz_bipush (pc := 3) (v := nI 6) E dX8_findNorms_3 (by decide) ?_
      refine zn_icmp_ge (pc := 5) (tgt := 22) E dX8_findNorms_5 (by decide) (by omega) (by omega) (fun h5 => ?_) (fun h5 => ?_)
      · refine zz_iconst (pc := 22) (v := nI 1) E dX8_findNorms_22 (by decide) ?_
        refine zz_istore_n (pc := 23) (lv' := [(0, _), (1, _)]) E dX8_findNorms_23 (by decide) rfl ?_
        have key : ∀ (n : Nat) (b : Nat) (v : Nat → Option Nat) (M3 : zz_M), zmu v + b ≤ n → b ≤ 1 → zfr [104] M M3 → zn8 M3 v → zdn S v → zbg v → (b = 0 → ∀ x, x < 18 → ole (v (x / 3)) (zby S v (x / 3) (some (x % 3)))) → zz_Z p l e (headSpec wsX8_findNorms ({ frames := 3, cells := 0, slots := 0, locals := 72 } : Room)).room s m ([.ref (G.2.2 100)] : List Value).toArray below meth c 0 0 (MQ below (zz_Qv G (fun M1 => zfr [104] M M1 ∧ zn8 M1 (zit S 36))) ([.ref (G.2.2 100)] : List Value).toArray s 0 0 (zz_A G)) 5 G (zz_A G) M3 24 [(0, .ref (G.2.2 100)), (1, .int (nI b))] [] := by
          intro n
          induction n with
          | zero =>
            intro b v M3 hn hb hf3 hv hdn hbg hex
            have hb0 : b = 0 := by omega
            subst hb0
            have hex := hex rfl
            refine zz_iload_n (pc := 24) E dX8_findNorms_24 rfl ?_
            refine zn_if_eq (pc := 25) (tgt := 122) E dX8_findNorms_25 (by decide) (by omega) (fun h25 => ?_) (fun h25 => ?_)
            · exact zz_vret (pc := 122) E hr hlk dX8_findNorms_122 ⟨hf3, fun s hs => by rw [hv s hs, zfix_uniq hV (zfix_of hdn hex) (zit_fix hV) s hs]⟩
            · exact absurd h25 (by omega)
          | succ n ih =>
            intro b v M3 hn hb hf3 hv hdn hbg hex
            refine zz_iload_n (pc := 24) E dX8_findNorms_24 rfl ?_
            refine zn_if_eq (pc := 25) (tgt := 122) E dX8_findNorms_25 (by decide) (by omega) (fun h25 => ?_) (fun h25 => ?_)
            · have hex := hex h25
              exact zz_vret (pc := 122) E hr hlk dX8_findNorms_122 ⟨hf3, fun s hs => by rw [hv s hs, zfix_uniq hV (zfix_of hdn hex) (zit_fix hV) s hs]⟩
            · refine zz_iconst (pc := 28) (v := nI 0) E dX8_findNorms_28 (by decide) ?_
              refine zz_istore_n (pc := 29) (lv' := [(0, _), (1, _)]) E dX8_findNorms_29 (by decide) rfl ?_
              refine zz_iconst (pc := 30) (v := nI 0) E dX8_findNorms_30 (by decide) ?_
              refine zz_istore_n (pc := 31) (lv' := [(0, _), (1, _), (2, _)]) E dX8_findNorms_31 (by decide) rfl ?_
              have key2 : ∀ (j i b2 : Nat) (v2 : Nat → Option Nat) (M4 : zz_M), i + j = 18 → b2 ≤ 1 → zfr [104] M M4 → zn8 M4 v2 → zdn S v2 → zbg v2 → zpass S v v2 b2 i → zz_Z p l e (headSpec wsX8_findNorms ({ frames := 3, cells := 0, slots := 0, locals := 72 } : Room)).room s m ([.ref (G.2.2 100)] : List Value).toArray below meth c 0 0 (MQ below (zz_Qv G (fun M1 => zfr [104] M M1 ∧ zn8 M1 (zit S 36))) ([.ref (G.2.2 100)] : List Value).toArray s 0 0 (zz_A G)) 5 G (zz_A G) M4 32 [(0, .ref (G.2.2 100)), (1, .int (nI b2)), (2, .int (nI i))] [] := by
                intro j
                induction j with
                | zero =>
                  intro i b2 v2 M4 hi hb2 hf4 hv4 hd4 hg4 hp
                  refine zz_iload_n (pc := 32) E dX8_findNorms_32 rfl ?_
                  refine zz_bipush (pc := 33) (v := nI 18) E dX8_findNorms_33 (by decide) ?_
                  refine zn_icmp_ge (pc := 35) (tgt := 119) E dX8_findNorms_35 (by decide) (by omega) (by omega) (fun h35 => ?_) (fun h35 => ?_)
                  · refine zz_goto (pc := 119) (tgt := 24) E dX8_findNorms_119 (by decide) ?_
                    exact zz_to (ih b2 v2 M4 (by rcases hp with ⟨q1, q2, -⟩ | ⟨q1, q2⟩; rw [q2]; omega; omega) hb2 hf4 hv4 hd4 hg4 (fun q => by rcases hp with ⟨-, rfl, q3⟩ | ⟨q1, -⟩; exact fun x hx => q3 x (by omega); omega)) ⟨rfl, rfl, trivial⟩
                  · exact absurd h35 (by omega)
                | succ j ih2 =>
                  intro i b2 v2 M4 hi hb2 hf4 hv4 hd4 hg4 hp
                  have hbd := zbg_bd hg4
                  have h101 : M4 101 i = zo (S i) := by rw [hf4 101 (by decide)]; exact hS i (by omega)
                  have hlti : ∀ q, S i = some q → q < 2 ^ 31 := fun q hq => by have := zV_lt hV (by omega) hq; omega
                  have hi3 : 3 * (i / 3) + i % 3 = i := by omega
                  have hs6 : i / 3 < 6 := by omega
                  have hv104 := hv4 _ hs6
                  have hltv : ∀ q, v2 (i / 3) = some q → q < 2 ^ 31 := fun q hq => by have := hbd _ hs6 q hq; omega
                  refine zz_iload_n (pc := 32) E dX8_findNorms_32 rfl ?_
                  refine zz_bipush (pc := 33) (v := nI 18) E dX8_findNorms_33 (by decide) ?_
                  refine zn_icmp_ge (pc := 35) (tgt := 119) E dX8_findNorms_35 (by decide) (by omega) (by omega) (fun h35 => ?_) (fun h35 => ?_)
                  · exact absurd h35 (by omega)
                  · refine zz_aload_n (pc := 38) E dX8_findNorms_38 rfl ?_
                    refine zz_gf (pc := 39) E 100 (by decide) rfl rfl inX8_findNorms_X8 0 (by decide) lkX8_findNorms_7 (fun _ h => h) rfl dX8_findNorms_39 ?_
                    refine zz_iload_n (pc := 42) E dX8_findNorms_42 rfl ?_
                    refine zz_iald (pc := 43) E 101 (_) (n := 24) (by decide) rfl rfl (by omega) (by decide) dX8_findNorms_43 ?_
                    refine zz_eqi (y := zo (S i)) h101 ?_
                    refine zz_bipush (pc := 44) (v := -9) E dX8_findNorms_44 (by decide) ?_
                    refine zz_icmp_ne (pc := 46) (tgt := 54) E dX8_findNorms_46 (by decide) (fun h46 => ?_) (fun h46 => ?_)
                    · obtain ⟨r, hrr⟩ : ∃ q, S i = some q := by
                        cases hv2 : S i with
                        | none => exact absurd (by rw [hv2]; rfl) h46
                        | some q => exact ⟨q, rfl⟩
                      have hzr := hV.1 i (by omega) r hrr
                      have hby : zby S v2 (i / 3) (some (i % 3)) = (znorm v2 (zr r)).map (· + 1) := by show (match S (3 * (i / 3) + i % 3) with | none => none | some r => (znorm v2 (zr r)).map (· + 1)) = _; rw [hi3, hrr]
                      have hltn : ∀ q, znorm v2 (zr r) = some q → q < 2000 := fun q hq => by
                        have h1 := znorm_le hbd (zr_lt hzr) hq
                        rw [zr_len] at h1
                        have h2 := zok_len hzr
                        omega
                      refine zz_aload_n (pc := 54) E dX8_findNorms_54 rfl ?_
                      refine zz_aload_n (pc := 55) E dX8_findNorms_55 rfl ?_
                      refine zz_gf (pc := 56) E 100 (by decide) rfl rfl inX8_findNorms_X8 0 (by decide) lkX8_findNorms_7 (fun _ h => h) rfl dX8_findNorms_56 ?_
                      refine zz_iload_n (pc := 59) E dX8_findNorms_59 rfl ?_
                      refine zz_iald (pc := 60) E 101 (_) (n := 24) (by decide) rfl rfl (by omega) (by decide) dX8_findNorms_60 ?_
                      refine zz_eqi (y := nI r) (by rw [h101, hrr]; rfl) ?_
                      refine zz_ciV (pc := 61) E 100 (kkX8_normOf l G hJ _  v2 r 3 364 hv4 hbd (by decide) hzr (by decide)) (cwV 1 hts gX8_findNorms_X8_normOf rfl rfl rfl (by decide +kernel) ⟨Nat.le_of_ble_eq_true rfl, Nat.le_of_ble_eq_true rfl⟩) (by decide) rfl rfl rfl rfl (Nat.le_of_ble_eq_true rfl) dX8_findNorms_61 (fun r61 M61 q61 => ?_)
                      obtain ⟨rfl, rfl⟩ := q61
                      refine zz_istore_n (pc := 64) (lv' := [(0, _), (1, _), (2, _), (3, _)]) E dX8_findNorms_64 (by decide) rfl ?_
                      refine zz_iload_n (pc := 65) E dX8_findNorms_65 rfl ?_
                      refine zz_iconst (pc := 66) (v := nI 3) E dX8_findNorms_66 (by decide) ?_
                      refine zn_idiv (pc := 67) E dX8_findNorms_67 (by omega) (by omega) (by omega) ?_
                      refine zz_istore (pc := 68) (lv' := [(0, _), (1, _), (2, _), (3, _), (4, _)]) E dX8_findNorms_68 (by decide) rfl ?_
                      refine zz_iload_n (pc := 70) E dX8_findNorms_70 rfl ?_
                      refine zz_bipush (pc := 71) (v := -9) E dX8_findNorms_71 (by decide) ?_
                      refine zz_icmp_eq (pc := 73) (tgt := 113) E dX8_findNorms_73 (by decide) (fun h73 => ?_) (fun h73 => ?_)
                      · rw [zo_m9 (fun q hq => by have := hltn q hq; omega)] at h73
                        rw [h73] at hby
                        have hby : zby S v2 (i / 3) (some (i % 3)) = none := hby
                        refine zn_inc (pc := 113) (lv' := [(0, _), (1, _), (2, _), (3, _), (4, _)]) E dX8_findNorms_113 rfl (by decide) rfl ?_
                        refine zz_goto (pc := 116) (tgt := 32) E dX8_findNorms_116 (by decide) ?_
                        exact zz_to (ih2 (i + 1) b2 v2 M4 (by omega) hb2 hf4 hv4 hd4 hg4 (zpass_keep hp (by rw [hby]; exact ole_none _))) ⟨rfl, rfl, rfl, trivial⟩
                      · obtain ⟨q, hq⟩ : ∃ q, znorm v2 (zr r) = some q := by
                          cases hv2 : znorm v2 (zr r) with
                          | none => exact absurd (by rw [hv2]; rfl) h73
                          | some q => exact ⟨q, rfl⟩
                        have hq31 := hltn q hq
                        rw [hq] at hby
                        have hby : zby S v2 (i / 3) (some (i % 3)) = some (q + 1) := hby
                        refine zz_aload_n (pc := 76) E dX8_findNorms_76 rfl ?_
                        refine zz_gf (pc := 77) E 100 (by decide) rfl rfl inX8_findNorms_X8 5 (by decide) lkX8_findNorms_19 (fun _ h => h) rfl dX8_findNorms_77 ?_
                        refine zz_iload (pc := 80) E dX8_findNorms_80 rfl ?_
                        refine zz_iald (pc := 82) E 104 (_) (n := 6) (by decide) rfl rfl (by omega) (by decide) dX8_findNorms_82 ?_
                        refine zz_eqi (y := zo (v2 (i / 3))) hv104 ?_
                        refine zz_bipush (pc := 83) (v := -9) E dX8_findNorms_83 (by decide) ?_
                        refine zz_icmp_eq (pc := 85) (tgt := 101) E dX8_findNorms_85 (by decide) (fun h85 => ?_) (fun h85 => ?_)
                        · rw [zo_m9 hltv] at h85
                          have hup : ole (some (q + 1)) (v2 (i / 3)) := by rw [h85]; exact ole_none _
                          have hg5 := zbg_up hV hg4 hs6 (by omega) hby hup
                          have hlt5 : q + 1 < zvl (v2 (i / 3)) := by have := zbg_bd hg5 _ hs6 (q + 1) (zvu_same _ _ _); rw [h85]; show q + 1 < 365; omega
                          refine zz_aload_n (pc := 101) E dX8_findNorms_101 rfl ?_
                          refine zz_gf (pc := 102) E 100 (by decide) rfl rfl inX8_findNorms_X8 5 (by decide) lkX8_findNorms_19 (fun _ h => h) rfl dX8_findNorms_102 ?_
                          refine zz_iload (pc := 105) E dX8_findNorms_105 rfl ?_
                          refine zz_iload_n (pc := 107) E dX8_findNorms_107 rfl ?_
                          refine zz_eqi (y := nI q) (by rw [hq]; rfl) ?_
                          refine zz_iconst (pc := 108) (v := nI 1) E dX8_findNorms_108 (by decide) ?_
                          refine zn_iadd (pc := 109) E dX8_findNorms_109 ?_
                          refine zz_iast (pc := 110) E 104 (_) (n := 6) (by decide) (fun _ => rfl) rfl (by omega) (by decide) dX8_findNorms_110 ?_
                          refine zz_iconst (pc := 111) (v := nI 1) E dX8_findNorms_111 (by decide) ?_
                          refine zz_istore_n (pc := 112) (lv' := [(0, _), (1, _), (2, _), (3, _), (4, _)]) E dX8_findNorms_112 (by decide) rfl ?_
                          refine zn_inc (pc := 113) (lv' := [(0, _), (1, _), (2, _), (3, _), (4, _)]) E dX8_findNorms_113 rfl (by decide) rfl ?_
                          refine zz_goto (pc := 116) (tgt := 32) E dX8_findNorms_116 (by decide) ?_
                          exact zz_to (ih2 (i + 1) 1 (zvu v2 (i / 3) (some (q + 1))) _ (by omega) (by omega) (zfr_up hf4 (by simp)) (fun s hs => by rw [zz_up_same]; by_cases e : s = i / 3; rw [e, upd_same, zvu_same]; rfl; rw [upd_ne _ _ e, zvu_ne _ _ e]; exact hv4 s hs) (zdn_up hV hd4 hs6 (by rw [← hby]; exact zmin_ub (by omega)) hup) hg5 (zpass_up hp (zmu_up hs6 hlt5))) ⟨rfl, rfl, rfl, trivial⟩
                        · obtain ⟨n2, hn2⟩ : ∃ q, v2 (i / 3) = some q := by
                            cases hv2 : v2 (i / 3) with
                            | none => exact absurd (by rw [hv2]; rfl) h85
                            | some q => exact ⟨q, rfl⟩
                          have hn231 := hltv n2 hn2
                          refine zz_iload_n (pc := 88) E dX8_findNorms_88 rfl ?_
                          refine zz_eqi (y := nI q) (by rw [hq]; rfl) ?_
                          refine zz_iconst (pc := 89) (v := nI 1) E dX8_findNorms_89 (by decide) ?_
                          refine zn_iadd (pc := 90) E dX8_findNorms_90 ?_
                          refine zz_aload_n (pc := 91) E dX8_findNorms_91 rfl ?_
                          refine zz_gf (pc := 92) E 100 (by decide) rfl rfl inX8_findNorms_X8 5 (by decide) lkX8_findNorms_19 (fun _ h => h) rfl dX8_findNorms_92 ?_
                          refine zz_iload (pc := 95) E dX8_findNorms_95 rfl ?_
                          refine zz_iald (pc := 97) E 104 (_) (n := 6) (by decide) rfl rfl (by omega) (by decide) dX8_findNorms_97 ?_
                          refine zz_eqi (y := nI n2) (by rw [hv104, hn2]; rfl) ?_
                          refine zn_icmp_ge (pc := 98) (tgt := 113) E dX8_findNorms_98 (by decide) (by omega) (by omega) (fun h98 => ?_) (fun h98 => ?_)
                          · refine zn_inc (pc := 113) (lv' := [(0, _), (1, _), (2, _), (3, _), (4, _)]) E dX8_findNorms_113 rfl (by decide) rfl ?_
                            refine zz_goto (pc := 116) (tgt := 32) E dX8_findNorms_116 (by decide) ?_
                            exact zz_to (ih2 (i + 1) b2 v2 M4 (by omega) hb2 hf4 hv4 hd4 hg4 (zpass_keep hp (by rw [hby, hn2]; intro y hy; cases hy; exact ⟨n2, rfl, h98⟩))) ⟨rfl, rfl, rfl, trivial⟩
                          · have hup : ole (some (q + 1)) (v2 (i / 3)) := fun y hy => by rw [hn2] at hy; cases hy; exact ⟨q + 1, rfl, by omega⟩
                            have hg5 := zbg_up hV hg4 hs6 (by omega) hby hup
                            have hlt5 : q + 1 < zvl (v2 (i / 3)) := by rw [hn2]; exact h98
                            refine zz_aload_n (pc := 101) E dX8_findNorms_101 rfl ?_
                            refine zz_gf (pc := 102) E 100 (by decide) rfl rfl inX8_findNorms_X8 5 (by decide) lkX8_findNorms_19 (fun _ h => h) rfl dX8_findNorms_102 ?_
                            refine zz_iload (pc := 105) E dX8_findNorms_105 rfl ?_
                            refine zz_iload_n (pc := 107) E dX8_findNorms_107 rfl ?_
                            refine zz_eqi (y := nI q) (by rw [hq]; rfl) ?_
                            refine zz_iconst (pc := 108) (v := nI 1) E dX8_findNorms_108 (by decide) ?_
                            refine zn_iadd (pc := 109) E dX8_findNorms_109 ?_
                            refine zz_iast (pc := 110) E 104 (_) (n := 6) (by decide) (fun _ => rfl) rfl (by omega) (by decide) dX8_findNorms_110 ?_
                            refine zz_iconst (pc := 111) (v := nI 1) E dX8_findNorms_111 (by decide) ?_
                            refine zz_istore_n (pc := 112) (lv' := [(0, _), (1, _), (2, _), (3, _), (4, _)]) E dX8_findNorms_112 (by decide) rfl ?_
                            refine zn_inc (pc := 113) (lv' := [(0, _), (1, _), (2, _), (3, _), (4, _)]) E dX8_findNorms_113 rfl (by decide) rfl ?_
                            refine zz_goto (pc := 116) (tgt := 32) E dX8_findNorms_116 (by decide) ?_
                            exact zz_to (ih2 (i + 1) 1 (zvu v2 (i / 3) (some (q + 1))) _ (by omega) (by omega) (zfr_up hf4 (by simp)) (fun s hs => by rw [zz_up_same]; by_cases e : s = i / 3; rw [e, upd_same, zvu_same]; rfl; rw [upd_ne _ _ e, zvu_ne _ _ e]; exact hv4 s hs) (zdn_up hV hd4 hs6 (by rw [← hby]; exact zmin_ub (by omega)) hup) hg5 (zpass_up hp (zmu_up hs6 hlt5))) ⟨rfl, rfl, rfl, trivial⟩
                    · rw [zo_m9 hlti] at h46
                      have hby : zby S v2 (i / 3) (some (i % 3)) = none := by show (match S (3 * (i / 3) + i % 3) with | none => none | some r => (znorm v2 (zr r)).map (· + 1)) = none; rw [hi3, h46]
                      refine zz_bipush (pc := 49) (v := -9) E dX8_findNorms_49 (by decide) ?_
                      refine zz_goto (pc := 51) (tgt := 64) E dX8_findNorms_51 (by decide) ?_
                      refine zz_istore_n (pc := 64) (lv' := [(0, _), (1, _), (2, _), (3, _)]) E dX8_findNorms_64 (by decide) rfl ?_
                      refine zz_iload_n (pc := 65) E dX8_findNorms_65 rfl ?_
                      refine zz_iconst (pc := 66) (v := nI 3) E dX8_findNorms_66 (by decide) ?_
                      refine zn_idiv (pc := 67) E dX8_findNorms_67 (by omega) (by omega) (by omega) ?_
                      refine zz_istore (pc := 68) (lv' := [(0, _), (1, _), (2, _), (3, _), (4, _)]) E dX8_findNorms_68 (by decide) rfl ?_
                      refine zz_iload_n (pc := 70) E dX8_findNorms_70 rfl ?_
                      refine zz_bipush (pc := 71) (v := -9) E dX8_findNorms_71 (by decide) ?_
                      refine zz_icmp_eq (pc := 73) (tgt := 113) E dX8_findNorms_73 (by decide) (fun h73 => ?_) (fun h73 => ?_)
                      · refine zn_inc (pc := 113) (lv' := [(0, _), (1, _), (2, _), (3, _), (4, _)]) E dX8_findNorms_113 rfl (by decide) rfl ?_
                        refine zz_goto (pc := 116) (tgt := 32) E dX8_findNorms_116 (by decide) ?_
                        exact zz_to (ih2 (i + 1) b2 v2 M4 (by omega) hb2 hf4 hv4 hd4 hg4 (zpass_keep hp (by rw [hby]; exact ole_none _))) ⟨rfl, rfl, rfl, trivial⟩
                      · exact absurd rfl h73
              exact zz_to (key2 18 0 0 v M3 (by omega) (by omega) hf3 hv hdn hbg (Or.inl ⟨rfl, rfl, fun x hx => absurd hx (by omega)⟩)) ⟨rfl, rfl, rfl, trivial⟩
        exact zz_to (key _ 1 (fun _ => none) M2 (Nat.le_refl _) (Nat.le_refl _) hf (fun s hs => hq s (by omega)) (fun s _ => ole_none _) (fun s _ n h => by cases h) (fun h => by cases h)) ⟨rfl, rfl, trivial⟩
      · exact absurd h5 (by omega)
    | succ j ih =>
      intro i M2 hi hf hq
      refine zz_iload_n (pc := 2) E dX8_findNorms_2 rfl ?_
      refine zz_bipush (pc := 3) (v := nI 6) E dX8_findNorms_3 (by decide) ?_
      refine zn_icmp_ge (pc := 5) (tgt := 22) E dX8_findNorms_5 (by decide) (by omega) (by omega) (fun h5 => ?_) (fun h5 => ?_)
      · exact absurd h5 (by omega)
      · refine zz_aload_n (pc := 8) E dX8_findNorms_8 rfl ?_
        refine zz_gf (pc := 9) E 100 (by decide) rfl rfl inX8_findNorms_X8 5 (by decide) lkX8_findNorms_19 (fun _ h => h) rfl dX8_findNorms_9 ?_
        refine zz_iload_n (pc := 12) E dX8_findNorms_12 rfl ?_
        refine zz_bipush (pc := 13) (v := -9) E dX8_findNorms_13 (by decide) ?_
        refine zz_iast (pc := 15) E 104 (_) (n := 6) (by decide) (fun _ => rfl) rfl (by omega) (by decide) dX8_findNorms_15 ?_
        refine zn_inc (pc := 16) (lv' := [(0, _), (1, _)]) E dX8_findNorms_16 rfl (by decide) rfl ?_
        refine zz_goto (pc := 19) (tgt := 2) E dX8_findNorms_19 (by decide) ?_
        exact zz_to (ih (i + 1) _ (by omega) (zfr_up hf (by simp)) (fun s hs => by rw [zz_up_same]; by_cases e : s = i; rw [e, upd_same]; rw [upd_ne _ _ e]; exact hq s (by omega))) ⟨rfl, rfl, trivial⟩
  exact zz_to (key0 6 0 M (by omega) (zfr_rf _ _) (fun s hs => absurd hs (by omega))) ⟨rfl, rfl, trivial⟩
