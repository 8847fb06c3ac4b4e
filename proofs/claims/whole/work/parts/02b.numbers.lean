/-! numbers -/
def zz_b (b : Bool) : Int32 := if b then 1 else 0
theorem zz_b01 (b : Bool) : zz_b b = 0 ∨ zz_b b = 1 := by cases b <;> simp [zz_b]
theorem zz_b_eq0 {b : Bool} : zz_b b = 0 ↔ b = false := by cases b <;> simp [zz_b]
theorem zn_mul (a b : Nat) : nI a * nI b = nI (a * b) := (Int32.ofNat_mul a b).symm
theorem zn_sub {a b : Nat} (h : b ≤ a) : nI a - nI b = nI (a - b) := by
  have e := nI_add (a - b) b
  rw [Nat.sub_add_cancel h] at e
  rw [← e, Int32.add_sub_cancel]
theorem zn_div {a b : Nat} (ha : a < 2 ^ 31) (hb : b < 2 ^ 31) : nI a / nI b = nI (a / b) := by
  have hd : a / b ≤ a := Nat.div_le_self a b
  have hq : (0 : Int) ≤ (a : Int) / (b : Int) := Int.ediv_nonneg (by omega) (by omega)
  apply Int32.toInt_inj.mp
  rw [Int32.toInt_div, nI_toInt ha, nI_toInt hb, nI_toInt (by omega), Int.tdiv_eq_ediv_of_nonneg (by omega), Int.bmod_eq_of_le (by omega) (by omega)]
  omega
theorem zn_mod {a b : Nat} (ha : a < 2 ^ 31) (hb : b < 2 ^ 31) : nI a - nI a / nI b * nI b = nI (a % b) := by
  have hd : a / b * b ≤ a := Nat.div_mul_le_self a b
  rw [zn_div ha hb, zn_mul, zn_sub hd]
  congr 1
  have := Nat.div_add_mod a b
  rw [Nat.mul_comm] at this
  omega
theorem zl_toInt {n : Nat} (h : n < 2 ^ 63) : (lN n).toInt = (n : Int) := Int64.toInt_ofNat_of_lt h
theorem zl_le {a b : Nat} (ha : a < 2 ^ 63) (hb : b < 2 ^ 63) : lN a ≤ lN b ↔ a ≤ b := by
  rw [Int64.le_iff_toInt_le, zl_toInt ha, zl_toInt hb]; omega
theorem zl_lt {a b : Nat} (ha : a < 2 ^ 63) (hb : b < 2 ^ 63) : lN a < lN b ↔ a < b := by
  rw [Int64.lt_iff_toInt_lt, zl_toInt ha, zl_toInt hb]; omega
theorem zl_eq {a b : Nat} (ha : a < 2 ^ 63) (hb : b < 2 ^ 63) : lN a = lN b ↔ a = b := by
  rw [← Int64.toInt_inj, zl_toInt ha, zl_toInt hb]; omega
theorem zl_div {a b : Nat} (ha : a < 2 ^ 63) (hb : b < 2 ^ 63) : lN a / lN b = lN (a / b) := by
  have hd : a / b ≤ a := Nat.div_le_self a b
  have hq : (0 : Int) ≤ (a : Int) / (b : Int) := Int.ediv_nonneg (by omega) (by omega)
  apply Int64.toInt_inj.mp
  rw [Int64.toInt_div, zl_toInt ha, zl_toInt hb, zl_toInt (by omega), Int.tdiv_eq_ediv_of_nonneg (by omega), Int.bmod_eq_of_le (by omega) (by omega)]
  omega
theorem zl_mod {a b : Nat} (ha : a < 2 ^ 63) (hb : b < 2 ^ 63) : lN a - lN a / lN b * lN b = lN (a % b) := by
  have hd : a / b * b ≤ a := Nat.div_mul_le_self a b
  rw [zl_div ha hb, lN_mul, lN_sub hd]
  congr 1
  have := Nat.div_add_mod a b
  rw [Nat.mul_comm] at this
  omega
theorem zn_ne0 {b : Nat} (h0 : 0 < b) (hb : b < 2 ^ 31) : ¬ nI b = 0 := nI_ne0 h0 hb
theorem zl_ne0 {b : Nat} (h0 : 0 < b) (hb : b < 2 ^ 63) : ¬ lN b = 0 := fun e => by
  have e : lN b = lN 0 := e
  rw [zl_eq hb (by omega)] at e
  omega
section ZN
variable {p : Program} {l : Launch} {e : Env} {R : Room} {s : State} {m : MethodId} {args : Array Value} {below : List Frame} {meth : Method} {c : Code} {cells slots : Nat} {Q : State → Prop}
variable {cc : ByteArray} {nL : Nat} {Ts : List Cond} {own : String} {G : zz_C} {A : Nat → Prop} {M : zz_M} {pc : Nat} {lv : List (Nat × Value)} {st : List Value}
theorem zn_iadd (E : zz_E p R s m args c cells slots cc nL Ts own G A) {a b : Nat} (hdg : decode cc pc = .ok (.iadd, 1))  (kk : zz_Z p l e R s m args below meth c cells slots Q nL G A M (pc + 1) lv (.int (nI (a + b)) :: st)) : zz_Z p l e R s m args below meth c cells slots Q nL G A M pc lv (.int (nI b) :: .int (nI a) :: st) := zz_iadd E hdg (zz_eqi (nI_add a b) kk)
theorem zn_imul (E : zz_E p R s m args c cells slots cc nL Ts own G A) {a b : Nat} (hdg : decode cc pc = .ok (.imul, 1))  (kk : zz_Z p l e R s m args below meth c cells slots Q nL G A M (pc + 1) lv (.int (nI (a * b)) :: st)) : zz_Z p l e R s m args below meth c cells slots Q nL G A M pc lv (.int (nI b) :: .int (nI a) :: st) := zz_imul E hdg (zz_eqi (zn_mul a b) kk)
theorem zn_isub (E : zz_E p R s m args c cells slots cc nL Ts own G A) {a b : Nat} (hdg : decode cc pc = .ok (.isub, 1)) (h : b ≤ a) (kk : zz_Z p l e R s m args below meth c cells slots Q nL G A M (pc + 1) lv (.int (nI (a - b)) :: st)) : zz_Z p l e R s m args below meth c cells slots Q nL G A M pc lv (.int (nI b) :: .int (nI a) :: st) := zz_isub E hdg (zz_eqi (zn_sub h) kk)
theorem zn_idiv (E : zz_E p R s m args c cells slots cc nL Ts own G A) {a b : Nat} (hdg : decode cc pc = .ok (.idiv, 1)) (h0 : 0 < b) (ha : a < 2 ^ 31) (hb : b < 2 ^ 31) (kk : zz_Z p l e R s m args below meth c cells slots Q nL G A M (pc + 1) lv (.int (nI (a / b)) :: st)) : zz_Z p l e R s m args below meth c cells slots Q nL G A M pc lv (.int (nI b) :: .int (nI a) :: st) := zz_idiv E hdg (zn_ne0 h0 hb) (zz_eqi (zn_div ha hb) kk)
theorem zn_irem (E : zz_E p R s m args c cells slots cc nL Ts own G A) {a b : Nat} (hdg : decode cc pc = .ok (.irem, 1)) (h0 : 0 < b) (ha : a < 2 ^ 31) (hb : b < 2 ^ 31) (kk : zz_Z p l e R s m args below meth c cells slots Q nL G A M (pc + 1) lv (.int (nI (a % b)) :: st)) : zz_Z p l e R s m args below meth c cells slots Q nL G A M pc lv (.int (nI b) :: .int (nI a) :: st) := zz_irem E hdg (zn_ne0 h0 hb) (zz_eqi (zn_mod ha hb) kk)
theorem zn_ladd (E : zz_E p R s m args c cells slots cc nL Ts own G A) {a b : Nat} (hdg : decode cc pc = .ok (.ladd, 1))  (kk : zz_Z p l e R s m args below meth c cells slots Q nL G A M (pc + 1) lv (.long (lN (a + b)) :: st)) : zz_Z p l e R s m args below meth c cells slots Q nL G A M pc lv (.long (lN b) :: .long (lN a) :: st) := zz_ladd E hdg (zz_eql (lN_add a b) kk)
theorem zn_lmul (E : zz_E p R s m args c cells slots cc nL Ts own G A) {a b : Nat} (hdg : decode cc pc = .ok (.lmul, 1))  (kk : zz_Z p l e R s m args below meth c cells slots Q nL G A M (pc + 1) lv (.long (lN (a * b)) :: st)) : zz_Z p l e R s m args below meth c cells slots Q nL G A M pc lv (.long (lN b) :: .long (lN a) :: st) := zz_lmul E hdg (zz_eql (lN_mul a b) kk)
theorem zn_ldiv (E : zz_E p R s m args c cells slots cc nL Ts own G A) {a b : Nat} (hdg : decode cc pc = .ok (.ldiv, 1)) (h0 : 0 < b) (ha : a < 2 ^ 63) (hb : b < 2 ^ 63) (kk : zz_Z p l e R s m args below meth c cells slots Q nL G A M (pc + 1) lv (.long (lN (a / b)) :: st)) : zz_Z p l e R s m args below meth c cells slots Q nL G A M pc lv (.long (lN b) :: .long (lN a) :: st) := zz_ldiv E hdg (zl_ne0 h0 hb) (zz_eql (zl_div ha hb) kk)
theorem zn_lrem (E : zz_E p R s m args c cells slots cc nL Ts own G A) {a b : Nat} (hdg : decode cc pc = .ok (.lrem, 1)) (h0 : 0 < b) (ha : a < 2 ^ 63) (hb : b < 2 ^ 63) (kk : zz_Z p l e R s m args below meth c cells slots Q nL G A M (pc + 1) lv (.long (lN (a % b)) :: st)) : zz_Z p l e R s m args below meth c cells slots Q nL G A M pc lv (.long (lN b) :: .long (lN a) :: st) := zz_lrem E hdg (zl_ne0 h0 hb) (zz_eql (zl_mod ha hb) kk)
theorem zn_i2l (E : zz_E p R s m args c cells slots cc nL Ts own G A) {a : Nat} (hdg : decode cc pc = .ok (.i2l, 1)) (ha : a < 2 ^ 31) (kk : zz_Z p l e R s m args below meth c cells slots Q nL G A M (pc + 1) lv (.long (lN a) :: st)) : zz_Z p l e R s m args below meth c cells slots Q nL G A M pc lv (.int (nI a) :: st) := zz_i2l E hdg (nI_l ha) kk
theorem zn_l2i (E : zz_E p R s m args c cells slots cc nL Ts own G A) {a : Nat} (hdg : decode cc pc = .ok (.l2i, 1)) (kk : zz_Z p l e R s m args below meth c cells slots Q nL G A M (pc + 1) lv (.int (nI a) :: st)) : zz_Z p l e R s m args below meth c cells slots Q nL G A M pc lv (.long (lN a) :: st) := zz_l2i E hdg (lN_i a) kk
theorem zn_inc (E : zz_E p R s m args c cells slots cc nL Ts own G A) {i a : Nat} {lv' : List (Nat × Value)} (hdg : decode cc pc = .ok (.iinc i 1, 3)) (hg : zz_get lv i = some (.int (nI a))) (hn : i < nL) (hl : zz_set i (.int (nI (a + 1))) lv = lv') (kk : zz_Z p l e R s m args below meth c cells slots Q nL G A M (pc + 3) lv' st) : zz_Z p l e R s m args below meth c cells slots Q nL G A M pc lv st := zz_iinc E hdg hg (nI_1 a) hn hl kk
theorem zn_dec (E : zz_E p R s m args c cells slots cc nL Ts own G A) {i a : Nat} {lv' : List (Nat × Value)} (hdg : decode cc pc = .ok (.iinc i (-1), 3)) (hg : zz_get lv i = some (.int (nI (a + 1)))) (hn : i < nL) (hl : zz_set i (.int (nI a)) lv = lv') (kk : zz_Z p l e R s m args below meth c cells slots Q nL G A M (pc + 3) lv' st) : zz_Z p l e R s m args below meth c cells slots Q nL G A M pc lv st := zz_iinc E hdg hg (by rw [show Int32.ofInt (-1) = -1 by decide, ← Int32.sub_eq_add_neg]; exact nI_pred a) hn hl kk
theorem zn_icmp_eq (E : zz_E p R s m args c cells slots cc nL Ts own G A) {a b : Nat} {off : Int} {tgt : Nat} (hdg : decode cc pc = .ok (.if_icmp .eq off, 3)) (ht : (pc : Int) + off = (tgt : Int)) (ha : a < 2 ^ 31) (hb : b < 2 ^ 31) (kt : a = b → zz_Z p l e R s m args below meth c cells slots Q nL G A M tgt lv st) (kf : ¬ a = b → zz_Z p l e R s m args below meth c cells slots Q nL G A M (pc + 3) lv st) : zz_Z p l e R s m args below meth c cells slots Q nL G A M pc lv (.int (nI b) :: .int (nI a) :: st) := zz_icmp_eq E hdg ht (fun q => kt ((nI_eq ha hb).mp q)) (fun q => kf (fun z => q ((nI_eq ha hb).mpr z)))
theorem zn_lcmp_eq (E : zz_E p R s m args c cells slots cc nL Ts own G A) {a b : Nat} {off : Int} {tgt : Nat} (hdg : decode cc pc = .ok (.lcmp, 1)) (hdg2 : decode cc (pc + 1) = .ok (.ifCond .eq off, 3)) (ht : ((pc + 1 : Nat) : Int) + off = (tgt : Int)) (ha : a < 2 ^ 63) (hb : b < 2 ^ 63) (kt : a = b → zz_Z p l e R s m args below meth c cells slots Q nL G A M tgt lv st) (kf : ¬ a = b → zz_Z p l e R s m args below meth c cells slots Q nL G A M (pc + 4) lv st) : zz_Z p l e R s m args below meth c cells slots Q nL G A M pc lv (.long (lN b) :: .long (lN a) :: st) := zz_lcmp E hdg (zz_if_eq E hdg2 ht (fun q => kt (((lg_cmp_eq (lN a) (lN b)).trans (zl_eq ha hb)).mp q)) (fun q => kf (fun z => q (((lg_cmp_eq (lN a) (lN b)).trans (zl_eq ha hb)).mpr z))))
theorem zn_if_eq (E : zz_E p R s m args c cells slots cc nL Ts own G A) {a : Nat} {off : Int} {tgt : Nat} (hdg : decode cc pc = .ok (.ifCond .eq off, 3)) (ht : (pc : Int) + off = (tgt : Int)) (ha : a < 2 ^ 31) (kt : a = 0 → zz_Z p l e R s m args below meth c cells slots Q nL G A M tgt lv st) (kf : ¬ a = 0 → zz_Z p l e R s m args below meth c cells slots Q nL G A M (pc + 3) lv st) : zz_Z p l e R s m args below meth c cells slots Q nL G A M pc lv (.int (nI a) :: st) := by
  have hb : 0 < 2 ^ 31 := by decide
  exact zz_if_eq E hdg ht (fun q => kt ((nI_eq ha hb).mp q)) (fun q => kf (fun z => q ((nI_eq ha hb).mpr z)))
theorem zn_icmp_ne (E : zz_E p R s m args c cells slots cc nL Ts own G A) {a b : Nat} {off : Int} {tgt : Nat} (hdg : decode cc pc = .ok (.if_icmp .ne off, 3)) (ht : (pc : Int) + off = (tgt : Int)) (ha : a < 2 ^ 31) (hb : b < 2 ^ 31) (kt : ¬ a = b → zz_Z p l e R s m args below meth c cells slots Q nL G A M tgt lv st) (kf : a = b → zz_Z p l e R s m args below meth c cells slots Q nL G A M (pc + 3) lv st) : zz_Z p l e R s m args below meth c cells slots Q nL G A M pc lv (.int (nI b) :: .int (nI a) :: st) := zz_icmp_ne E hdg ht (fun q => kt (fun z => q ((nI_eq ha hb).mpr z))) (fun q => kf ((nI_eq ha hb).mp q))
theorem zn_lcmp_ne (E : zz_E p R s m args c cells slots cc nL Ts own G A) {a b : Nat} {off : Int} {tgt : Nat} (hdg : decode cc pc = .ok (.lcmp, 1)) (hdg2 : decode cc (pc + 1) = .ok (.ifCond .ne off, 3)) (ht : ((pc + 1 : Nat) : Int) + off = (tgt : Int)) (ha : a < 2 ^ 63) (hb : b < 2 ^ 63) (kt : ¬ a = b → zz_Z p l e R s m args below meth c cells slots Q nL G A M tgt lv st) (kf : a = b → zz_Z p l e R s m args below meth c cells slots Q nL G A M (pc + 4) lv st) : zz_Z p l e R s m args below meth c cells slots Q nL G A M pc lv (.long (lN b) :: .long (lN a) :: st) := zz_lcmp E hdg (zz_if_ne E hdg2 ht (fun q => kt (fun z => q (((lg_cmp_eq (lN a) (lN b)).trans (zl_eq ha hb)).mpr z))) (fun q => kf (((lg_cmp_eq (lN a) (lN b)).trans (zl_eq ha hb)).mp q)))
theorem zn_if_ne (E : zz_E p R s m args c cells slots cc nL Ts own G A) {a : Nat} {off : Int} {tgt : Nat} (hdg : decode cc pc = .ok (.ifCond .ne off, 3)) (ht : (pc : Int) + off = (tgt : Int)) (ha : a < 2 ^ 31) (kt : ¬ a = 0 → zz_Z p l e R s m args below meth c cells slots Q nL G A M tgt lv st) (kf : a = 0 → zz_Z p l e R s m args below meth c cells slots Q nL G A M (pc + 3) lv st) : zz_Z p l e R s m args below meth c cells slots Q nL G A M pc lv (.int (nI a) :: st) := by
  have hb : 0 < 2 ^ 31 := by decide
  exact zz_if_ne E hdg ht (fun q => kt (fun z => q ((nI_eq ha hb).mpr z))) (fun q => kf ((nI_eq ha hb).mp q))
theorem zn_icmp_lt (E : zz_E p R s m args c cells slots cc nL Ts own G A) {a b : Nat} {off : Int} {tgt : Nat} (hdg : decode cc pc = .ok (.if_icmp .lt off, 3)) (ht : (pc : Int) + off = (tgt : Int)) (ha : a < 2 ^ 31) (hb : b < 2 ^ 31) (kt : a < b → zz_Z p l e R s m args below meth c cells slots Q nL G A M tgt lv st) (kf : b ≤ a → zz_Z p l e R s m args below meth c cells slots Q nL G A M (pc + 3) lv st) : zz_Z p l e R s m args below meth c cells slots Q nL G A M pc lv (.int (nI b) :: .int (nI a) :: st) := zz_icmp_lt E hdg ht (fun q => kt ((nI_ltI ha hb).mp q)) (fun q => kf (Nat.not_lt.mp (fun z => q ((nI_ltI ha hb).mpr z))))
theorem zn_lcmp_lt (E : zz_E p R s m args c cells slots cc nL Ts own G A) {a b : Nat} {off : Int} {tgt : Nat} (hdg : decode cc pc = .ok (.lcmp, 1)) (hdg2 : decode cc (pc + 1) = .ok (.ifCond .lt off, 3)) (ht : ((pc + 1 : Nat) : Int) + off = (tgt : Int)) (ha : a < 2 ^ 63) (hb : b < 2 ^ 63) (kt : a < b → zz_Z p l e R s m args below meth c cells slots Q nL G A M tgt lv st) (kf : b ≤ a → zz_Z p l e R s m args below meth c cells slots Q nL G A M (pc + 4) lv st) : zz_Z p l e R s m args below meth c cells slots Q nL G A M pc lv (.long (lN b) :: .long (lN a) :: st) := zz_lcmp E hdg (zz_if_lt E hdg2 ht (fun q => kt (((lg_cmp_lt (lN a) (lN b)).trans (zl_lt ha hb)).mp q)) (fun q => kf (Nat.not_lt.mp (fun z => q (((lg_cmp_lt (lN a) (lN b)).trans (zl_lt ha hb)).mpr z)))))
theorem zn_if_lt (E : zz_E p R s m args c cells slots cc nL Ts own G A) {a : Nat} {off : Int} {tgt : Nat} (hdg : decode cc pc = .ok (.ifCond .lt off, 3)) (ht : (pc : Int) + off = (tgt : Int)) (ha : a < 2 ^ 31) (kt : a < 0 → zz_Z p l e R s m args below meth c cells slots Q nL G A M tgt lv st) (kf : 0 ≤ a → zz_Z p l e R s m args below meth c cells slots Q nL G A M (pc + 3) lv st) : zz_Z p l e R s m args below meth c cells slots Q nL G A M pc lv (.int (nI a) :: st) := by
  have hb : 0 < 2 ^ 31 := by decide
  exact zz_if_lt E hdg ht (fun q => kt ((nI_ltI ha hb).mp q)) (fun q => kf (Nat.not_lt.mp (fun z => q ((nI_ltI ha hb).mpr z))))
theorem zn_icmp_ge (E : zz_E p R s m args c cells slots cc nL Ts own G A) {a b : Nat} {off : Int} {tgt : Nat} (hdg : decode cc pc = .ok (.if_icmp .ge off, 3)) (ht : (pc : Int) + off = (tgt : Int)) (ha : a < 2 ^ 31) (hb : b < 2 ^ 31) (kt : b ≤ a → zz_Z p l e R s m args below meth c cells slots Q nL G A M tgt lv st) (kf : a < b → zz_Z p l e R s m args below meth c cells slots Q nL G A M (pc + 3) lv st) : zz_Z p l e R s m args below meth c cells slots Q nL G A M pc lv (.int (nI b) :: .int (nI a) :: st) := zz_icmp_ge E hdg ht (fun q => kt ((nI_leI hb ha).mp q)) (fun q => kf (Nat.not_le.mp (fun z => q ((nI_leI hb ha).mpr z))))
theorem zn_lcmp_ge (E : zz_E p R s m args c cells slots cc nL Ts own G A) {a b : Nat} {off : Int} {tgt : Nat} (hdg : decode cc pc = .ok (.lcmp, 1)) (hdg2 : decode cc (pc + 1) = .ok (.ifCond .ge off, 3)) (ht : ((pc + 1 : Nat) : Int) + off = (tgt : Int)) (ha : a < 2 ^ 63) (hb : b < 2 ^ 63) (kt : b ≤ a → zz_Z p l e R s m args below meth c cells slots Q nL G A M tgt lv st) (kf : a < b → zz_Z p l e R s m args below meth c cells slots Q nL G A M (pc + 4) lv st) : zz_Z p l e R s m args below meth c cells slots Q nL G A M pc lv (.long (lN b) :: .long (lN a) :: st) := zz_lcmp E hdg (zz_if_ge E hdg2 ht (fun q => kt (((lg_cmp_ge (lN a) (lN b)).trans (zl_le hb ha)).mp q)) (fun q => kf (Nat.not_le.mp (fun z => q (((lg_cmp_ge (lN a) (lN b)).trans (zl_le hb ha)).mpr z)))))
theorem zn_if_ge (E : zz_E p R s m args c cells slots cc nL Ts own G A) {a : Nat} {off : Int} {tgt : Nat} (hdg : decode cc pc = .ok (.ifCond .ge off, 3)) (ht : (pc : Int) + off = (tgt : Int)) (ha : a < 2 ^ 31) (kt : 0 ≤ a → zz_Z p l e R s m args below meth c cells slots Q nL G A M tgt lv st) (kf : a < 0 → zz_Z p l e R s m args below meth c cells slots Q nL G A M (pc + 3) lv st) : zz_Z p l e R s m args below meth c cells slots Q nL G A M pc lv (.int (nI a) :: st) := by
  have hb : 0 < 2 ^ 31 := by decide
  exact zz_if_ge E hdg ht (fun q => kt ((nI_leI hb ha).mp q)) (fun q => kf (Nat.not_le.mp (fun z => q ((nI_leI hb ha).mpr z))))
theorem zn_icmp_gt (E : zz_E p R s m args c cells slots cc nL Ts own G A) {a b : Nat} {off : Int} {tgt : Nat} (hdg : decode cc pc = .ok (.if_icmp .gt off, 3)) (ht : (pc : Int) + off = (tgt : Int)) (ha : a < 2 ^ 31) (hb : b < 2 ^ 31) (kt : b < a → zz_Z p l e R s m args below meth c cells slots Q nL G A M tgt lv st) (kf : a ≤ b → zz_Z p l e R s m args below meth c cells slots Q nL G A M (pc + 3) lv st) : zz_Z p l e R s m args below meth c cells slots Q nL G A M pc lv (.int (nI b) :: .int (nI a) :: st) := zz_icmp_gt E hdg ht (fun q => kt ((nI_ltI hb ha).mp q)) (fun q => kf (Nat.not_lt.mp (fun z => q ((nI_ltI hb ha).mpr z))))
theorem zn_lcmp_gt (E : zz_E p R s m args c cells slots cc nL Ts own G A) {a b : Nat} {off : Int} {tgt : Nat} (hdg : decode cc pc = .ok (.lcmp, 1)) (hdg2 : decode cc (pc + 1) = .ok (.ifCond .gt off, 3)) (ht : ((pc + 1 : Nat) : Int) + off = (tgt : Int)) (ha : a < 2 ^ 63) (hb : b < 2 ^ 63) (kt : b < a → zz_Z p l e R s m args below meth c cells slots Q nL G A M tgt lv st) (kf : a ≤ b → zz_Z p l e R s m args below meth c cells slots Q nL G A M (pc + 4) lv st) : zz_Z p l e R s m args below meth c cells slots Q nL G A M pc lv (.long (lN b) :: .long (lN a) :: st) := zz_lcmp E hdg (zz_if_gt E hdg2 ht (fun q => kt (((lg_cmp_gt (lN a) (lN b)).trans (zl_lt hb ha)).mp q)) (fun q => kf (Nat.not_lt.mp (fun z => q (((lg_cmp_gt (lN a) (lN b)).trans (zl_lt hb ha)).mpr z)))))
theorem zn_if_gt (E : zz_E p R s m args c cells slots cc nL Ts own G A) {a : Nat} {off : Int} {tgt : Nat} (hdg : decode cc pc = .ok (.ifCond .gt off, 3)) (ht : (pc : Int) + off = (tgt : Int)) (ha : a < 2 ^ 31) (kt : 0 < a → zz_Z p l e R s m args below meth c cells slots Q nL G A M tgt lv st) (kf : a ≤ 0 → zz_Z p l e R s m args below meth c cells slots Q nL G A M (pc + 3) lv st) : zz_Z p l e R s m args below meth c cells slots Q nL G A M pc lv (.int (nI a) :: st) := by
  have hb : 0 < 2 ^ 31 := by decide
  exact zz_if_gt E hdg ht (fun q => kt ((nI_ltI hb ha).mp q)) (fun q => kf (Nat.not_lt.mp (fun z => q ((nI_ltI hb ha).mpr z))))
theorem zn_icmp_le (E : zz_E p R s m args c cells slots cc nL Ts own G A) {a b : Nat} {off : Int} {tgt : Nat} (hdg : decode cc pc = .ok (.if_icmp .le off, 3)) (ht : (pc : Int) + off = (tgt : Int)) (ha : a < 2 ^ 31) (hb : b < 2 ^ 31) (kt : a ≤ b → zz_Z p l e R s m args below meth c cells slots Q nL G A M tgt lv st) (kf : b < a → zz_Z p l e R s m args below meth c cells slots Q nL G A M (pc + 3) lv st) : zz_Z p l e R s m args below meth c cells slots Q nL G A M pc lv (.int (nI b) :: .int (nI a) :: st) := zz_icmp_le E hdg ht (fun q => kt ((nI_leI ha hb).mp q)) (fun q => kf (Nat.not_le.mp (fun z => q ((nI_leI ha hb).mpr z))))
theorem zn_lcmp_le (E : zz_E p R s m args c cells slots cc nL Ts own G A) {a b : Nat} {off : Int} {tgt : Nat} (hdg : decode cc pc = .ok (.lcmp, 1)) (hdg2 : decode cc (pc + 1) = .ok (.ifCond .le off, 3)) (ht : ((pc + 1 : Nat) : Int) + off = (tgt : Int)) (ha : a < 2 ^ 63) (hb : b < 2 ^ 63) (kt : a ≤ b → zz_Z p l e R s m args below meth c cells slots Q nL G A M tgt lv st) (kf : b < a → zz_Z p l e R s m args below meth c cells slots Q nL G A M (pc + 4) lv st) : zz_Z p l e R s m args below meth c cells slots Q nL G A M pc lv (.long (lN b) :: .long (lN a) :: st) := zz_lcmp E hdg (zz_if_le E hdg2 ht (fun q => kt (((lg_cmp_le (lN a) (lN b)).trans (zl_le ha hb)).mp q)) (fun q => kf (Nat.not_le.mp (fun z => q (((lg_cmp_le (lN a) (lN b)).trans (zl_le ha hb)).mpr z)))))
theorem zn_if_le (E : zz_E p R s m args c cells slots cc nL Ts own G A) {a : Nat} {off : Int} {tgt : Nat} (hdg : decode cc pc = .ok (.ifCond .le off, 3)) (ht : (pc : Int) + off = (tgt : Int)) (ha : a < 2 ^ 31) (kt : a ≤ 0 → zz_Z p l e R s m args below meth c cells slots Q nL G A M tgt lv st) (kf : 0 < a → zz_Z p l e R s m args below meth c cells slots Q nL G A M (pc + 3) lv st) : zz_Z p l e R s m args below meth c cells slots Q nL G A M pc lv (.int (nI a) :: st) := by
  have hb : 0 < 2 ^ 31 := by decide
  exact zz_if_le E hdg ht (fun q => kt ((nI_leI ha hb).mp q)) (fun q => kf (Nat.not_le.mp (fun z => q ((nI_leI ha hb).mpr z))))
theorem zb_if_eq (E : zz_E p R s m args c cells slots cc nL Ts own G A) {b : Bool} {off : Int} {tgt : Nat} (hdg : decode cc pc = .ok (.ifCond .eq off, 3)) (ht : (pc : Int) + off = (tgt : Int)) (kt : b = false → zz_Z p l e R s m args below meth c cells slots Q nL G A M tgt lv st) (kf : b = true → zz_Z p l e R s m args below meth c cells slots Q nL G A M (pc + 3) lv st) : zz_Z p l e R s m args below meth c cells slots Q nL G A M pc lv (.int (zz_b b) :: st) := zz_if_eq E hdg ht (fun q => kt (zz_b_eq0.mp q)) (fun q => kf (by cases b <;> simp_all [zz_b]))
theorem zb_if_ne (E : zz_E p R s m args c cells slots cc nL Ts own G A) {b : Bool} {off : Int} {tgt : Nat} (hdg : decode cc pc = .ok (.ifCond .ne off, 3)) (ht : (pc : Int) + off = (tgt : Int)) (kt : b = true → zz_Z p l e R s m args below meth c cells slots Q nL G A M tgt lv st) (kf : b = false → zz_Z p l e R s m args below meth c cells slots Q nL G A M (pc + 3) lv st) : zz_Z p l e R s m args below meth c cells slots Q nL G A M pc lv (.int (zz_b b) :: st) := zz_if_ne E hdg ht (fun q => kt (by cases b <;> simp_all [zz_b])) (fun q => kf (zz_b_eq0.mp q))
theorem zz_pfj (E : zz_E p R s m args c cells slots cc nL Ts own G A) (k j : Nat) {ci Nf index : Nat} {C ref : String} {T : u_T} {fs : List Value} {x : Int32} (hk : k < 111) (hF : zz_F G k (M k) = .inr (ci, fs)) (hc : vwCl[ci]? = some (C, T, Nf)) (hin : ∀ w ∈ u_ws C T Nf, w ∈ Ts) (ty0 : Nat → FieldType) (hty : ∀ k, k < Nf → parseFieldDescriptor (T k).2.2.1 = some (ty0 k)) (hnm : ∀ a, a < Nf → ∀ b, b < Nf → a ≠ b → (T a).2.1 ≠ (T b).2.1) (f : Nat) (hf : f < Nf) (hlink : Cond.fieldLink own index ref (T f).2.1 (T f).2.2.1 ∈ Ts) (hsame : ∀ x, s.fieldFound? (T f).1 (T f).2.1 (T f).2.2.1 = some x → s.fieldFound? ref (T f).2.1 (T f).2.2.1 = some x) (hfin : (T f).2.2.2 = false) (hd : parseFieldDescriptor (T f).2.2.1 = some .int) (hl : f < fs.length) (hg : zz_F G k (upd (M k) j x) = .inr (ci, fs.set f (.int x))) (hdg : decode cc pc = .ok (.putfield index, 3)) (kk : zz_Z p l e R s m args below meth c cells slots Q nL G A (zz_up M k (upd (M k) j x)) (pc + 3) lv st) : zz_Z p l e R s m args below meth c cells slots Q nL G A M pc lv (.int x :: .ref (G.2.2 k) :: st) := zz_pf E k (upd (M k) j x) hk hF hc hin ty0 hty hnm f hf hlink hsame hfin hd hl hg hdg kk
theorem zz_ldcw (E : zz_E p R s m args c cells slots cc nL Ts own G A) {index : Nat} {v : Int32} (hw : Cond.constant own index v ∈ Ts) (hdg : decode cc pc = .ok (.ldc_w index, 3)) (kk : zz_Z p l e R s m args below meth c cells slots Q nL G A M (pc + 3) lv (.int v :: st)) : zz_Z p l e R s m args below meth c cells slots Q nL G A M pc lv st := fun H locs ls hP hS hh => lv_ldcw E.1 E.2.1 E.2.2.2.1 (E.2.2.2.2.1 _ hw) hdg (kk H locs ls hP hS hh)
end ZN
/-! the shapes of rows and tables -/
def zz_R (k n : Nat) : Prop := zz_row k = true ∧ zz_tab k = false ∧ k + 1 < 111 ∧ n < 2 ^ 31 ∧ ∀ (G : zz_C) (f : Nat → Int32), zz_F G (k + 1) f = .inl (G.2.1 0, n, .inl f)
theorem zz_R7 : zz_R 7 33 := ⟨rfl, rfl, by decide, by decide, fun _ _ => rfl⟩
theorem zz_R9 : zz_R 9 12 := ⟨rfl, rfl, by decide, by decide, fun _ _ => rfl⟩
theorem zz_R36 : zz_R 36 2187 := ⟨rfl, rfl, by decide, by decide, fun _ _ => rfl⟩
theorem zz_R38 : zz_R 38 2187 := ⟨rfl, rfl, by decide, by decide, fun _ _ => rfl⟩
theorem zz_R24 : zz_R 24 243 := ⟨rfl, rfl, by decide, by decide, fun _ _ => rfl⟩
theorem zz_R26 : zz_R 26 243 := ⟨rfl, rfl, by decide, by decide, fun _ _ => rfl⟩
theorem zz_R28 : zz_R 28 243 := ⟨rfl, rfl, by decide, by decide, fun _ _ => rfl⟩
theorem zz_R30 : zz_R 30 243 := ⟨rfl, rfl, by decide, by decide, fun _ _ => rfl⟩
theorem zz_R32 : zz_R 32 243 := ⟨rfl, rfl, by decide, by decide, fun _ _ => rfl⟩
theorem zz_R34 : zz_R 34 243 := ⟨rfl, rfl, by decide, by decide, fun _ _ => rfl⟩
theorem zz_Rf : ∀ {i : Nat}, i < 6 → zz_R (24 + 2 * i) 243
  | 0, _ => zz_R24
  | 1, _ => zz_R26
  | 2, _ => zz_R28
  | 3, _ => zz_R30
  | 4, _ => zz_R32
  | 5, _ => zz_R34
  | n + 6, h => absurd h (by omega)
def zz_Tb (k : Nat) : Prop := zz_tab k = true ∧ k + 2 < 111 ∧ (∀ (G : zz_C) (f : Nat → Int32), zz_F G (k + 1) f = .inl (G.2.1 0, 18, .inl f)) ∧ ∀ (G : zz_C) (f : Nat → Int32), zz_F G (k + 2) f = .inl (G.2.1 0, 6, .inl f)
theorem zz_T1 : zz_Tb 1 := ⟨rfl, by decide, fun _ _ => rfl, fun _ _ => rfl⟩
theorem zz_T40 : zz_Tb 40 := ⟨rfl, by decide, fun _ _ => rfl, fun _ _ => rfl⟩
theorem zz_T43 : zz_Tb 43 := ⟨rfl, by decide, fun _ _ => rfl, fun _ _ => rfl⟩
theorem zz_T46 : zz_Tb 46 := ⟨rfl, by decide, fun _ _ => rfl, fun _ _ => rfl⟩
theorem zz_T49 : zz_Tb 49 := ⟨rfl, by decide, fun _ _ => rfl, fun _ _ => rfl⟩
theorem zz_T52 : zz_Tb 52 := ⟨rfl, by decide, fun _ _ => rfl, fun _ _ => rfl⟩
theorem zz_T55 : zz_Tb 55 := ⟨rfl, by decide, fun _ _ => rfl, fun _ _ => rfl⟩
theorem zz_T58 : zz_Tb 58 := ⟨rfl, by decide, fun _ _ => rfl, fun _ _ => rfl⟩
theorem zz_T61 : zz_Tb 61 := ⟨rfl, by decide, fun _ _ => rfl, fun _ _ => rfl⟩
theorem zz_T64 : zz_Tb 64 := ⟨rfl, by decide, fun _ _ => rfl, fun _ _ => rfl⟩
theorem zz_T67 : zz_Tb 67 := ⟨rfl, by decide, fun _ _ => rfl, fun _ _ => rfl⟩
theorem zz_T70 : zz_Tb 70 := ⟨rfl, by decide, fun _ _ => rfl, fun _ _ => rfl⟩
theorem zz_T73 : zz_Tb 73 := ⟨rfl, by decide, fun _ _ => rfl, fun _ _ => rfl⟩
theorem zz_T76 : zz_Tb 76 := ⟨rfl, by decide, fun _ _ => rfl, fun _ _ => rfl⟩
theorem zz_T79 : zz_Tb 79 := ⟨rfl, by decide, fun _ _ => rfl, fun _ _ => rfl⟩
theorem zz_T82 : zz_Tb 82 := ⟨rfl, by decide, fun _ _ => rfl, fun _ _ => rfl⟩
theorem zz_T85 : zz_Tb 85 := ⟨rfl, by decide, fun _ _ => rfl, fun _ _ => rfl⟩
theorem zz_T88 : zz_Tb 88 := ⟨rfl, by decide, fun _ _ => rfl, fun _ _ => rfl⟩
theorem zz_T91 : zz_Tb 91 := ⟨rfl, by decide, fun _ _ => rfl, fun _ _ => rfl⟩
theorem zz_T94 : zz_Tb 94 := ⟨rfl, by decide, fun _ _ => rfl, fun _ _ => rfl⟩
theorem zz_T97 : zz_Tb 97 := ⟨rfl, by decide, fun _ _ => rfl, fun _ _ => rfl⟩
theorem zz_Tk : ∀ {i : Nat}, i < 20 → zz_Tb (40 + 3 * i)
  | 0, _ => zz_T40
  | 1, _ => zz_T43
  | 2, _ => zz_T46
  | 3, _ => zz_T49
  | 4, _ => zz_T52
  | 5, _ => zz_T55
  | 6, _ => zz_T58
  | 7, _ => zz_T61
  | 8, _ => zz_T64
  | 9, _ => zz_T67
  | 10, _ => zz_T70
  | 11, _ => zz_T73
  | 12, _ => zz_T76
  | 13, _ => zz_T79
  | 14, _ => zz_T82
  | 15, _ => zz_T85
  | 16, _ => zz_T88
  | 17, _ => zz_T91
  | 18, _ => zz_T94
  | 19, _ => zz_T97
  | n + 20, h => absurd h (by omega)
