/-! what each call answers: of a state S of rules and claims, and what was ahead of the last changes -/
def zI (M : zz_M) (S : Nat → Option Nat) (hs : List (Nat → Option Nat)) : Prop := zV S ∧ (∀ T ∈ hs, zV T) ∧ ztab M 1 S ∧ ∃ nx, zpast M nx hs
theorem zI_fr {ks : List Nat} {M M1 : zz_M} {S : Nat → Option Nat} {hs : List (Nat → Option Nat)} (h : zI M S hs) (hf : zfr ks M M1) (hk : ∀ j ∈ ks, j ∉ 2 :: 3 :: zKP) : zI M1 S hs := by
  obtain ⟨h1, h2, h3, nx, h4⟩ := h
  exact ⟨h1, h2, ztab_fr h3 hf (fun q => hk _ q (by simp)) (fun q => hk _ q (by simp)), nx, zpast_fr h4 hf (fun j hj q => hk j hj (List.mem_cons_of_mem _ (List.mem_cons_of_mem _ q)))⟩
def zin (z : Int32) : Option Nat := if z = -9 then none else some z.toInt.toNat
theorem zo_zin {z : Int32} {kn mo : Nat} (h : (decide (z = -9) || zs_row z.toInt64 kn mo) = true) (hm : mo < 20) : zo (zin z) = z := by
  unfold zin
  by_cases hz : z = -9
  · rw [if_pos hz, hz]; rfl
  · rw [if_neg hz]
    rw [decide_eq_false hz, Bool.false_or] at h
    obtain ⟨a, ha, -, hb, -⟩ := zs_row_of h hm
    show nI z.toInt.toNat = z
    rw [← hb, ← ha]
theorem zin_ok {z : Int32} {kn mo a : Nat} (h : (decide (z = -9) || zs_row z.toInt64 kn mo) = true) (hm : mo < 20) (ha : zin z = some a) : zok a kn mo = true ∧ z = nI a := by
  unfold zin at ha
  by_cases hz : z = -9
  · rw [if_pos hz] at ha; cases ha
  · rw [if_neg hz] at ha
    rw [decide_eq_false hz, Bool.false_or] at h
    obtain ⟨b, hb, hk, hc, -⟩ := zs_row_of h hm
    cases ha
    rw [← hc]
    exact ⟨hk, hb⟩
theorem zV_rule {S : Nat → Option Nat} (hV : zV S) {i : Nat} {o : Option Nat} (hi : i < 18) (ho : ∀ a, o = some a → zok a 6 3 = true) : zV (zvu S i o) := by
  refine ⟨fun j hj a h => ?_, fun s hs a h => ?_⟩
  · by_cases e : j = i
    · rw [e, zvu_same] at h; exact ho a h
    · rw [zvu_ne _ _ e] at h; exact hV.1 j hj a h
  · rw [zvu_ne _ _ (by omega)] at h; exact hV.2 s hs a h
theorem zV_clm {S : Nat → Option Nat} (hV : zV S) {s : Nat} {o : Option Nat} (hs : s < 6) (ho : ∀ a, o = some a → zok a s 3 = true ∧ a ≠ 0) : zV (zvu S (18 + s) o) := by
  refine ⟨fun j hj a h => ?_, fun t ht a h => ?_⟩
  · rw [zvu_ne _ _ (by omega)] at h; exact hV.1 j hj a h
  · by_cases e : t = s
    · rw [e, zvu_same] at h; rw [e]; exact ho a h
    · rw [zvu_ne _ _ (by omega)] at h; exact hV.2 t ht a h
theorem z64_ne {z : Int32} (h : ¬ z = 0) : ¬ z.toInt64 = lN 0 := fun q => h (by
  apply Int32.toInt_inj.mp
  have e := congrArg Int64.toInt q
  rw [Int32.toInt_toInt64, zl_toInt (by decide)] at e
  rw [e]
  rfl)
theorem zin_ne {z : Int32} {kn mo a : Nat} (h : (decide (z = -9) || (zs_row z.toInt64 kn mo && !decide (z.toInt64 = lN 0))) = true) (ha : zin z = some a) : a ≠ 0 := by
  unfold zin at ha
  by_cases hz : z = -9
  · rw [if_pos hz] at ha; cases ha
  · rw [if_neg hz] at ha
    rw [decide_eq_false hz, Bool.false_or, Bool.and_eq_true] at h
    intro e
    cases ha
    have h2 := h.2
    simp only [Bool.not_eq_true', decide_eq_false_iff_not] at h2
    have h1 := h.1
    unfold zs_row at h1
    rw [Bool.and_eq_true, decide_eq_true_iff, Int64.le_iff_toInt_le, zl_toInt (by decide), Int32.toInt_toInt64] at h1
    apply h2
    apply Int64.toInt_inj.mp
    rw [Int32.toInt_toInt64, zl_toInt (by decide)]
    have := h1.1
    omega
theorem ztab_rule {M : zz_M} {k : Nat} {S : Nat → Option Nat} {i : Nat} {z : Int32} {o : Option Nat} (h : ztab M k S) (hi : i < 18) (hz : zo o = z) : ztab (zz_up M (k + 1) (upd (M (k + 1)) i z)) k (zvu S i o) := by
  refine ⟨fun j hj => ?_, fun j hj => ?_⟩
  · rw [zz_up_same]
    by_cases e : j = i
    · rw [e, upd_same, zvu_same, hz]
    · rw [upd_ne _ _ e, zvu_ne _ _ e]; exact h.1 j hj
  · rw [zz_up_ne _ _ (by omega), zvu_ne _ _ (by omega)]; exact h.2 j hj
theorem ztab_clm {M : zz_M} {k : Nat} {S : Nat → Option Nat} {s : Nat} {z : Int32} {o : Option Nat} (h : ztab M k S) (hs : s < 6) (hz : zo o = z) : ztab (zz_up M (k + 2) (upd (M (k + 2)) s z)) k (zvu S (18 + s) o) := by
  refine ⟨fun j hj => ?_, fun j hj => ?_⟩
  · rw [zz_up_ne _ _ (by omega), zvu_ne _ _ (by omega)]; exact h.1 j hj
  · rw [zz_up_same]
    by_cases e : j = s
    · rw [e, upd_same, zvu_same, hz]
    · rw [upd_ne _ _ e, zvu_ne _ _ (by omega)]; exact h.2 j hj
abbrev zSt : Type := (Nat → Option Nat) × List (Nat → Option Nat)
def zkp (S : Nat → Option Nat) (hs : List (Nat → Option Nat)) : List (Nat → Option Nat) := (S :: hs).take 20
theorem zkp_V {S : Nat → Option Nat} {hs : List (Nat → Option Nat)} (hV : zV S) (hh : ∀ T ∈ hs, zV T) : ∀ T ∈ zkp S hs, zV T := fun T hT => by
  rcases List.mem_cons.mp (List.mem_of_mem_take hT) with rfl | h
  · exact hV
  · exact hh T h
theorem zV_getD {S : Nat → Option Nat} {hs : List (Nat → Option Nat)} (hV : zV S) (hh : ∀ T ∈ hs, zV T) (q : Nat) : zV ((S :: hs).getD q S) := by
  rw [List.getD_eq_getElem?_getD]
  cases h : (S :: hs)[q]? with
  | none => exact hV
  | some T =>
    rcases List.mem_cons.mp (List.mem_of_getElem? h) with rfl | h2
    · exact hV
    · exact hh T h2
def sp_rule (S : Nat → Option Nat) (hs : List (Nat → Option Nat)) (x y z : Int32) : Int32 × zSt :=
  if (zp_in x 6 && zp_in y 3) = true then
    if (decide (z = -9) || zs_row z.toInt64 6 3) = true then (zo (S (3 * x.toInt.toNat + y.toInt.toNat)), zvu S (3 * x.toInt.toNat + y.toInt.toNat) (zin z), zkp S hs)
    else (-2, S, hs)
  else (-1, S, hs)
def sp_ofRule (S : Nat → Option Nat) (x y : Int32) : Int32 := if (zp_in x 6 && zp_in y 3) = true then zo (S (3 * x.toInt.toNat + y.toInt.toNat)) else -1
def zrdw (q : Nat × List Nat) (n u : Nat) : Int32 := match u with
  | 0 => nI q.1
  | 1 => nI q.2.length
  | 2 => zo (q.2[0]?)
  | _ => zz_b (decide (q.1 = n) && decide (q.2.length = 0))
def sp_read (S : Nat → Option Nat) (x : Int32) (y : Int64) (w : Int32) : Int32 :=
  if (zs_row x.toInt64 6 9 && (zs_row y 3 12 && zp_in w 4)) = true then zrdw (zrd S (zr x.toInt.toNat) (zr y.toInt.toNat)) (zr y.toInt.toNat).length w.toInt.toNat
  else -2
def sp_norm (S : Nat → Option Nat) (x : Int32) : Int32 := if zs_row x.toInt64 6 9 = true then zo (znorm (zit S 36) (zr x.toInt.toNat)) else -2
def sp_least (S : Nat → Option Nat) (x : Int32) : Int64 :=
  if zs_row x.toInt64 6 9 = true then
    match znorm (zit S 36) (zr x.toInt.toNat) with
    | none => -9
    | some n => if n ≤ 12 then lN (zlw S (zit S 36) n (zr x.toInt.toNat) 0) else -9
  else -9223372036854775808
def sp_words (S : Nat → Option Nat) (x y : Int32) : Int32 := if (zs_row x.toInt64 6 9 && zp_in y 13) = true then zrc (zcw S (y.toInt.toNat + 1)) (zr x.toInt.toNat) y.toInt.toNat else -2
def zpt (S : Nat → Option Nat) (a b h p : Nat) : Bool := !(zgo S (zr a) (zr (zro p 3)) h == zgo S (zr b) (zr (zro p 3)) h)
def sp_parts (S : Nat → Option Nat) (x y z : Int32) : Int64 :=
  if (zs_row x.toInt64 6 9 && (zs_row y.toInt64 6 9 && zp_in z 2)) = true then
    match zfs (zpt S x.toInt.toNat y.toInt.toNat z.toInt.toNat) 0 1093 with
    | none => -9
    | some p => lN (zro p 3)
  else -9223372036854775808
/-- one more round of firsts -/
def zfst (S : Nat → Option Nat) (w : Nat) : Nat := w ||| zfof S (zit S 36) w 18
def zfsi (S : Nat → Option Nat) (w : Nat) : Nat → Nat
  | 0 => w
  | n + 1 => zfst S (zfsi S w n)
def sp_firsts (S : Nat → Option Nat) (x : Int32) : Int32 := if zs_row x.toInt64 6 9 = true then nI (zfsi S (zfw (zit S 36) (zr x.toInt.toNat)) 6) else -2
def zclm (x z : Int32) : Bool := decide (z = -9) || (zs_row z.toInt64 x.toInt.toNat 3 && !decide (z.toInt64 = lN 0))
def sp_claim (S : Nat → Option Nat) (hs : List (Nat → Option Nat)) (x z : Int32) : Int32 × zSt :=
  if zp_in x 6 = true then
    if zclm x z = true then (zo (S (18 + x.toInt.toNat)), zvu S (18 + x.toInt.toNat) (zin z), zkp S hs)
    else (-2, S, hs)
  else (-1, S, hs)
def sp_ofClaim (S : Nat → Option Nat) (x : Int32) : Int32 := if zp_in x 6 = true then zo (S (18 + x.toInt.toNat)) else -1
/-- how many, or the k-th -/
def zkth (L : List Nat) (k : Int32) : Int32 := if k = -1 then nI L.length else zo (L[k.toInt.toNat]?)
def sp_reduced (S : Nat → Option Nat) (x k : Int32) : Int32 := if (zs_row x.toInt64 6 9 && decide (-1 ≤ k)) = true then zkth (zred S (zr x.toInt.toNat)) k else -2
def sp_alike (S : Nat → Option Nat) (x y : Int32) : Int32 := if (zs_row x.toInt64 6 9 && zs_row y.toInt64 6 9) = true then zz_b (decide (zred S (zr x.toInt.toNat) = zred S (zr y.toInt.toNat))) else -2
def sp_common (S : Nat → Option Nat) (x y z : Int32) : Int32 :=
  if (zs_row x.toInt64 6 9 && (zs_row y.toInt64 6 9 && zp_in z 2)) = true then
    if z.toInt.toNat = 0 then nI (zcp (zred S (zr x.toInt.toNat)) (zred S (zr y.toInt.toNat))) else nI (zcp (zred S (zr x.toInt.toNat)).reverse (zred S (zr y.toInt.toNat)).reverse)
  else -2
def sp_broken (S : Nat → Option Nat) (w : Int32) : Int32 :=
  if zp_in w 2 = true then
    match zfs (fun s => (zbb S s).isSome) 0 6 with
    | none => -9
    | some s => if w.toInt.toNat = 0 then nI s else zo (zbb S s)
  else -2
def zsl : Nat → (Nat → Option Nat) → Nat × (Nat → Option Nat)
  | 0, S => (0, S)
  | f + 1, S => if zbs S = 0 then (0, S) else (zpc (zbs S) + (zsl f (zrmv S (zbs S))).1, (zsl f (zrmv S (zbs S))).2)
def sp_settle (S : Nat → Option Nat) (hs : List (Nat → Option Nat)) : Int32 × zSt := (nI (zsl 6 S).1, (zsl 6 S).2, zkp S hs)
def zcl (s : Nat) : List Nat := (List.range (s + s * s + s * s * s)).map (fun p => zro (p + 1) s)
def zmP (S : Nat → Option Nat) (s r : Nat) : Bool := (zbb (zvu S (18 + s) (some r)) s).isNone
def zmF (S : Nat → Option Nat) (s : Nat) : List Nat := (zcl s).filter (zmP S s)
def sp_might (S : Nat → Option Nat) (x k : Int32) : Int32 := if zp_in x 6 = true then (if -1 ≤ k then zkth (zmF S x.toInt.toNat) k else -2) else -1
def sp_undo (S : Nat → Option Nat) (hs : List (Nat → Option Nat)) (k : Int32) : Int32 × zSt :=
  if zp_in k (hs.length + 1) = true then (nI (hs.length - k.toInt.toNat), (S :: hs).getD k.toInt.toNat S, hs.drop k.toInt.toNat) else (-2, S, hs)
def zct (S : Nat → Option Nat) (i : Nat) : Nat → Nat
  | 0 => 0
  | n + 1 => zct S i n + (if (S (i + n)).isSome = true then 1 else 0)
def zmny (S : Nat → Option Nat) (n u : Nat) : Int32 := match u with
  | 0 => nI (zct S 0 18)
  | 1 => nI (zct S 18 6)
  | 2 => nI (zct (zit S 36) 0 6)
  | 3 => nI n
  | _ => nI (zpc (zbs S))
def sp_many (S : Nat → Option Nat) (hs : List (Nat → Option Nat)) (w : Int32) : Int32 := if zp_in w 5 = true then zmny S hs.length w.toInt.toNat else -2
