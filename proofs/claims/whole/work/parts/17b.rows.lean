/-- the script, which no call touches -/
def zX (s : State) (A : Nat → Prop) (b L : Nat) (xs : Nat → Int32) : Prop := va_X b L xs s s.heap ∧ b < s.heap.size ∧ ¬ A b ∧ L ≤ 2560
section ZL
variable {p : Program} {l : Launch} {e : Env} {R : Room} {s : State} {m : MethodId} {args : Array Value} {below : List Frame} {meth : Method} {c : Code} {cells slots : Nat} {Q : State → Prop}
variable {cc : ByteArray} {nL : Nat} {Ts : List Cond} {own : String} {G : zz_C} {A : Nat → Prop} {M : zz_M} {pc : Nat} {lv : List (Nat × Value)} {st : List Value}
theorem zz_sld (E : zz_E p R s m args c cells slots cc nL Ts own G A) {b L : Nat} {xs : Nat → Int32} (hX : zX s A b L xs) (j : Nat) {i : Int32} (hi : i = nI j) (hj : j < L) (hdg : decode cc pc = .ok (.iaload, 1)) (kk : zz_Z p l e R s m args below meth c cells slots Q nL G A M (pc + 1) lv (.int (xs j) :: st)) : zz_Z p l e R s m args below meth c cells slots Q nL G A M pc lv (.int i :: .ref b :: st) := fun H locs ls hP hS hh => by
  have hL : L < 2 ^ 31 := Nat.lt_of_le_of_lt hX.2.2.2 (by decide)
  have hin : vp_in i L := by rw [hi]; exact vp_in_nI hj hL
  have e9 : i.toNatClampNeg = j := by rw [hi]; exact nI_clamp (by omega)
  refine va_sld E.1 E.2.1 hX.1 hX.2.1 hX.2.2.1 hS hin hdg ?_
  rw [e9]
  exact kk H locs ls hP hS hh
theorem zz_slen (E : zz_E p R s m args c cells slots cc nL Ts own G A) {b L : Nat} {xs : Nat → Int32} (hX : zX s A b L xs) (hdg : decode cc pc = .ok (.arraylength, 1)) (kk : zz_Z p l e R s m args below meth c cells slots Q nL G A M (pc + 1) lv (.int (nI L) :: st)) : zz_Z p l e R s m args below meth c cells slots Q nL G A M pc lv (.ref b :: st) := fun H locs ls hP hS hh => va_slen E.1 E.2.1 hX.1 hX.2.1 hX.2.2.1 hS hdg (kk H locs ls hP hS hh)
theorem zz_tabIn (E : zz_E p R s m args c cells slots cc nL Ts own G A) {dflt off : Int} {offs : Array Int} {len j tgt : Nat} (hdg : decode cc pc = .ok (.tableswitch dflt 0 17 offs, len)) (hj : j ≤ 17) (ho : offs[j]? = some off) (ht : (pc : Int) + off = (tgt : Int)) (kk : zz_Z p l e R s m args below meth c cells slots Q nL G A M tgt lv st) : zz_Z p l e R s m args below meth c cells slots Q nL G A M pc lv (.int (nI j) :: st) := fun H locs ls hP hS hh => by
  have e9 : (nI j).toInt = (j : Int) := nI_toInt (by omega)
  exact lv_tableIn E.1 E.2.1 hdg (by rw [e9]; omega) (by rw [e9]; omega) (by rw [e9, show ((j : Int) - 0).toNat = j by omega]; exact ho) ht (kk H locs ls hP hS hh)
theorem zz_tabOut (E : zz_E p R s m args c cells slots cc nL Ts own G A) {dflt : Int} {offs : Array Int} {len tgt : Nat} {x : Int32} (hdg : decode cc pc = .ok (.tableswitch dflt 0 17 offs, len)) (h : x.toInt < 0 ∨ 17 < x.toInt) (ht : (pc : Int) + dflt = (tgt : Int)) (kk : zz_Z p l e R s m args below meth c cells slots Q nL G A M tgt lv st) : zz_Z p l e R s m args below meth c cells slots Q nL G A M pc lv (.int x :: st) := fun H locs ls hP hS hh => lv_tableOut E.1 E.2.1 hdg h ht (kk H locs ls hP hS hh)
theorem zl_gt {i L : Nat} (hL : L ≤ 2560) (hi : i < 10000) (h : ¬ nI L - nI 5 < nI i) : i + 5 ≤ L := by
  by_cases c : L < 5
  · exfalso
    apply h
    rw [Int32.lt_iff_toInt_lt, nI_toInt (show i < 2 ^ 31 by omega)]
    have : (nI L - nI 5).toInt < 0 := by
      rcases (show L = 0 ∨ L = 1 ∨ L = 2 ∨ L = 3 ∨ L = 4 by omega) with rfl | rfl | rfl | rfl | rfl <;> decide
    omega
  · have e9 : nI L - nI 5 = nI (L - 5) := by
      rw [show L = (L - 5) + 5 by omega, ← nI_add, Int32.add_sub_cancel, show L - 5 + 5 - 5 = L - 5 by omega]
    rw [e9] at h
    have h9 : ¬ L - 5 < i := fun q => h ((nI_ltI (show L - 5 < 2 ^ 31 by omega) (show i < 2 ^ 31 by omega)).mpr q)
    omega
end ZL
