/-! THE CONSTRUCTORS. A region: from the address a on lie the cells L, and nothing lies behind them. -/
def va_AOA (t : FieldType) (U : State) : Prop := (Cond.arrayOver (.array t)).before #[] U = true
theorem va_AOA.use {t : FieldType} {A : Array Value} {U : State} (h : va_AOA t U) : (Cond.arrayOver (.array t)).before A U = true := h
theorem va_AOA.of {t : FieldType} {A : Array Value} {U : State} (h : (Cond.arrayOver (.array t)).before A U = true) : va_AOA t U := h
theorem va_AOA.moved {t : FieldType} {u U : State} (hvm : u.vm.Alike U.vm) (h : va_AOA t u) : va_AOA t U := Jvm.Stand.arrayOver_alikeB hvm h
def yy_K (G : zz_C) (U : State) : Prop := zz_K G U ∧ (va_Nw (.methodLinkNest RX7 27 yX4_init "FirstSigns") U ∧ va_Nw (.methodLinkNest RX7 34 yX2_init "FirstSigns") U ∧ va_Nw (.methodLinkNest RX7 41 yX0_init "FirstSigns") U) ∧ va_AO RX5 U ∧ va_AO RX6 U ∧ va_AOA .int U
theorem yy_K.warm {G : zz_C} {s U : State} (hW : s.WarmedH U.vm) (h : yy_K G s) : yy_K G U := ⟨⟨va_K.moved hW.alike h.1.1, h.1.2.warm hW⟩, ⟨va_Nw.warmM hW h.2.1.1, va_Nw.warmM hW h.2.1.2.1, va_Nw.warmM hW h.2.1.2.2⟩, va_AO.moved hW.alike h.2.2.1, va_AO.moved hW.alike h.2.2.2.1, va_AOA.moved hW.alike h.2.2.2.2⟩
theorem yy_K.same {G : zz_C} {u U : State} (hv : u.vm = U.vm) (h : yy_K G u) : yy_K G U := by
  have ha : u.vm.Alike U.vm := by rw [hv]; exact Vm.Alike.refl _
  exact ⟨⟨va_K.moved ha h.1.1, zz_N.same hv h.1.2⟩, ⟨va_Nw.same rfl hv h.2.1.1, va_Nw.same rfl hv h.2.1.2.1, va_Nw.same rfl hv h.2.1.2.2⟩, va_AO.moved ha h.2.2.1, va_AO.moved ha h.2.2.2.1, va_AOA.moved ha h.2.2.2.2⟩
def yy_P (G : zz_C) (a : Nat) (L : List va_E) (H : Heap) : Prop := H.size = a + L.length ∧ ∀ (j : Nat) (e : va_E), L[j]? = some e → va_at G.1 vwCl (a + j, e) H
def yy_w (a : Nat) (L : List va_E) : va_W := L.mapIdx (fun j e => (a + j, e))
theorem yy_w_get {a j : Nat} {L : List va_E} {e : va_E} (h : L[j]? = some e) : (yy_w a L)[j]? = some (a + j, e) := by
  unfold yy_w
  rw [List.getElem?_mapIdx, h]
  rfl
theorem yy_P.vp {G : zz_C} {a : Nat} {L : List va_E} {H : Heap} (h : yy_P G a L H) : va_P G.1 vwCl (yy_w a L) H := by
  intro k q hq
  unfold yy_w at hq
  rw [List.getElem?_mapIdx] at hq
  cases he : L[k]? with
  | none => rw [he] at hq; cases hq
  | some e =>
    rw [he] at hq
    cases hq
    exact h.2 k e he
theorem yy_at_kept {G : zz_C} {x : Nat} {e : va_E} {H H1 : Heap} (h : va_at G.1 vwCl (x, e) H) (hq : H1[x]? = H[x]?) : va_at G.1 vwCl (x, e) H1 := va_at.kept (q := (x, e)) h hq
theorem yy_P.push {G : zz_C} {a : Nat} {L : List va_E} {H H1 : Heap} {e : va_E} (h : yy_P G a L H) (hz : H1.size = H.size + 1) (ho : ∀ q, q < H.size → H1[q]? = H[q]?) (he : va_at G.1 vwCl (H.size, e) H1) : yy_P G a (L ++ [e]) H1 := by
  refine ⟨by rw [hz, h.1, List.length_append]; rfl, fun j e' hj => ?_⟩
  by_cases hl : j < L.length
  · rw [List.getElem?_append_left hl] at hj
    exact yy_at_kept (h.2 j e' hj) (ho _ (by rw [h.1]; omega))
  · rw [List.getElem?_append_right (by omega)] at hj
    have h0 : j - L.length < 1 := (List.getElem?_eq_some_iff.mp hj).1
    rw [show j - L.length = 0 by omega] at hj
    cases hj
    rw [show a + j = H.size by rw [h.1]; omega]
    exact he
theorem yy_P.put {G : zz_C} {a j : Nat} {L : List va_E} {H H1 : Heap} {e e0 : va_E} (h : yy_P G a L H) (h0 : L[j]? = some e0) (hz : H1.size = H.size) (ho : ∀ q, q ≠ a + j → H1[q]? = H[q]?) (he : va_at G.1 vwCl (a + j, e) H1) : yy_P G a (L.set j e) H1 := by
  have hl := (List.getElem?_eq_some_iff.mp h0).1
  refine ⟨by rw [hz, h.1, List.length_set], fun i e' hi => ?_⟩
  by_cases c : i = j
  · subst c
    rw [List.getElem?_set_self hl] at hi
    cases hi
    exact he
  · rw [List.getElem?_set_ne (Ne.symm c)] at hi
    exact yy_at_kept (h.2 i e' hi) (ho _ (by omega))
theorem yy_P.join {G : zz_C} {a b : Nat} {L L0 L1 : List va_E} {H H1 : Heap} (h : yy_P G a (L ++ L0) H) (hb : a + L.length = b) (hk : ∀ q, q < H.size → ¬ b ≤ q → H1[q]? = H[q]?) (h1 : yy_P G b L1 H1) : yy_P G a (L ++ L1) H1 := by
  refine ⟨by rw [h1.1, List.length_append]; omega, fun j e hj => ?_⟩
  by_cases hl : j < L.length
  · rw [List.getElem?_append_left hl] at hj
    exact yy_at_kept (h.2 j e (by rw [List.getElem?_append_left hl]; exact hj)) (hk _ (by rw [h.1, List.length_append]; omega) (by omega))
  · rw [List.getElem?_append_right (by omega)] at hj
    have := h1.2 _ e hj
    rw [show b + (j - L.length) = a + j by omega] at this
    exact this
theorem yy_P.last {G : zz_C} {a b : Nat} {L L0 : List va_E} {H : Heap} (h : yy_P G a (L ++ L0) H) (hb : a + L.length = b) : yy_P G b L0 H := by
  refine ⟨by rw [h.1, List.length_append]; omega, fun j e hj => ?_⟩
  have := h.2 (L.length + j) e (by rw [List.getElem?_append_right (by omega), show L.length + j - L.length = j by omega]; exact hj)
  rw [show a + (L.length + j) = b + j by omega] at this
  exact this
/-- a constructor's start, its end -/
def yy_C (G : zz_C) (b : Nat) (L : List va_E) (av : List Value) : Array Value → State → Prop := va_Pc av (fun U => yy_P G b L U.heap ∧ yy_K G U)
def yy_B (G : zz_C) (b : Nat) (L : List va_E) : Unit → State → Prop := fun _ t => yy_P G b L t.heap
abbrev yy_Q (G : zz_C) (b : Nat) (L : List va_E) : Array Value → State → Outcome → State → Prop := va_Qv (fun _ : Unit => True) (yy_B G b L) (fun q => b ≤ q)
theorem yy_C_blind {G : zz_C} {b : Nat} {L : List va_E} {av : List Value} : FrameBlind (yy_C G b L av) := fun a U g mk h => ⟨h.1, h.2.1, yy_K.same (u := U) (U := U.calling g mk a) rfl h.2.2⟩
theorem vr_outer (c : ClassId) (N h0 : Nat) : ∀ i : Nat, Jvm.Free.Multi.outerC c N h0 i = arrV c N (fun j => va_rf (if j < i then some (h0 + 1 + j) else none))
  | 0 => by
    show ({ cls := c, slots := Array.replicate N .null, vm := .none } : Cell) = _
    rw [arrV_new]
    refine congrArg (arrV c N) (funext fun j => ?_)
    simp [va_rf]
  | i + 1 => by
    show (Jvm.Free.Multi.outerC c N h0 i).setSlot i (.ref (h0 + 1 + i)) = _
    rw [vr_outer c N h0 i, arrV_store]
    refine congrArg (arrV c N) (funext fun j => ?_)
    by_cases e : j = i
    · subst e
      simp [updV, va_rf]
    · by_cases h : j < i
      · simp [updV, e, h, Nat.lt_succ_of_lt h]
      · simp [updV, e, h, show ¬ j < i + 1 by omega]
section YY
variable {p : Program} {l : Launch} {e : Env} {R : Room} {s : State} {m : MethodId} {args : Array Value} {below : List Frame} {meth : Method} {c : Code} {cells slots : Nat} {Q : State → Prop}
variable {cc : ByteArray} {nL : Nat} {Ts : List Cond} {own : String} {G : zz_C} {a : Nat} {L : List va_E} {pc : Nat} {lv : List (Nat × Value)} {st : List Value}
def yy_E (p : Program) (s : State) (m : MethodId) (args : Array Value) (c : Code) (cc : ByteArray) (nL : Nat) (Ts : List Cond) (own : String) (G : zz_C) (a : Nat) : Prop :=
  p.tables.exec = Jvm.exec ∧ c.code = cc ∧ c.maxLocals = nL ∧ s.vm.findClass own = some m.cls ∧ (∀ w ∈ Ts, w.before args s = true) ∧ yy_K G s ∧ a ≤ s.heap.size
def yy_Z (p : Program) (l : Launch) (e : Env) (R : Room) (s : State) (m : MethodId) (args : Array Value) (below : List Frame) (meth : Method) (c : Code) (cells slots : Nat) (Q : State → Prop) (nL : Nat) (G : zz_C) (a : Nat) (L : List va_E) (pc : Nat) (lv : List (Nat × Value)) (st : List Value) : Prop :=
  ∀ (H : Heap) (locs : List Loc) (ls : Array Slot), yy_P G a L H → va_S (fun q => a ≤ q) s.heap H locs → lv_has ls nL lv → W p l e R s m args below meth c H locs cells slots Q (F0 m pc ls st)
theorem yy_re {L' : List va_E} {cells' slots' : Nat} (hL : L = L') (hc : cells = cells') (hs : slots = slots') (k : yy_Z p l e R s m args below meth c cells' slots' Q nL G a L' pc lv st) : yy_Z p l e R s m args below meth c cells slots Q nL G a L pc lv st := by
  subst hL; subst hc; subst hs; exact k
theorem yy_iload_n (E : yy_E p s m args c cc nL Ts own G a) {k : Fin 4} {x : Int32} (hdg : decode cc pc = .ok (.iload_n k, 1)) (hl : zz_get lv (k : Nat) = some (.int x)) (kk : yy_Z p l e R s m args below meth c cells slots Q nL G a L (pc + 1) lv (.int x :: st)) : yy_Z p l e R s m args below meth c cells slots Q nL G a L pc lv st := fun H locs ls hP hS hv => lv_iload_n E.1 E.2.1 hdg rfl (zz_get_has hv hl) (kk H locs ls hP hS hv)
theorem yy_aload_n (E : yy_E p s m args c cc nL Ts own G a) {k : Fin 4} {x : Nat} (hdg : decode cc pc = .ok (.aload_n k, 1)) (hl : zz_get lv (k : Nat) = some (.ref x)) (kk : yy_Z p l e R s m args below meth c cells slots Q nL G a L (pc + 1) lv (.ref x :: st)) : yy_Z p l e R s m args below meth c cells slots Q nL G a L pc lv st := fun H locs ls hP hS hv => lv_aload_n E.1 E.2.1 hdg rfl (zz_get_has hv hl) (kk H locs ls hP hS hv)
theorem yy_istore_n (E : yy_E p s m args c cc nL Ts own G a) {k : Fin 4} {x : Int32} {lv' : List (Nat × Value)} (hdg : decode cc pc = .ok (.istore_n k, 1)) (hn : (k : Nat) < nL) (hl : zz_set (k : Nat) (.int x) lv = lv') (kk : yy_Z p l e R s m args below meth c cells slots Q nL G a L (pc + 1) lv' st) : yy_Z p l e R s m args below meth c cells slots Q nL G a L pc lv (.int x :: st) := fun H locs ls hP hS hv => lv_istore_n E.1 E.2.1 hdg rfl hv hn rfl (fun ls' hv' => kk H locs ls' hP hS (hv'.mono (by rw [← hl]; exact zz_set1 rfl)))
theorem yy_astore_n (E : yy_E p s m args c cc nL Ts own G a) {k : Fin 4} {x : Nat} {lv' : List (Nat × Value)} (hdg : decode cc pc = .ok (.astore_n k, 1)) (hn : (k : Nat) < nL) (hl : zz_set (k : Nat) (.ref x) lv = lv') (kk : yy_Z p l e R s m args below meth c cells slots Q nL G a L (pc + 1) lv' st) : yy_Z p l e R s m args below meth c cells slots Q nL G a L pc lv (.ref x :: st) := fun H locs ls hP hS hv => lv_astore_n E.1 E.2.1 hdg rfl hv hn rfl (fun ls' hv' => kk H locs ls' hP hS (hv'.mono (by rw [← hl]; exact zz_set1 rfl)))
theorem yy_iconst (E : yy_E p s m args c cc nL Ts own G a) {n : Int} {v : Int32} (hdg : decode cc pc = .ok (.iconst n, 1)) (hv : Int32.ofInt n = v) (kk : yy_Z p l e R s m args below meth c cells slots Q nL G a L (pc + 1) lv (.int v :: st)) : yy_Z p l e R s m args below meth c cells slots Q nL G a L pc lv st := fun H locs ls hP hS hh => lv_iconst E.1 E.2.1 hdg hv (kk H locs ls hP hS hh)
theorem yy_bipush (E : yy_E p s m args c cc nL Ts own G a) {n : Int} {v : Int32} (hdg : decode cc pc = .ok (.bipush n, 2)) (hv : (Int8.ofInt n).toInt32 = v) (kk : yy_Z p l e R s m args below meth c cells slots Q nL G a L (pc + 2) lv (.int v :: st)) : yy_Z p l e R s m args below meth c cells slots Q nL G a L pc lv st := fun H locs ls hP hS hh => lv_bipush E.1 E.2.1 hdg hv (kk H locs ls hP hS hh)
theorem yy_sipush (E : yy_E p s m args c cc nL Ts own G a) {n : Int} {v : Int32} (hdg : decode cc pc = .ok (.sipush n, 3)) (hv : (Int16.ofInt n).toInt32 = v) (kk : yy_Z p l e R s m args below meth c cells slots Q nL G a L (pc + 3) lv (.int v :: st)) : yy_Z p l e R s m args below meth c cells slots Q nL G a L pc lv st := fun H locs ls hP hS hh => lv_sipush E.1 E.2.1 hdg hv (kk H locs ls hP hS hh)
theorem yy_dup (E : yy_E p s m args c cc nL Ts own G a) {v : Value} (hdg : decode cc pc = .ok (.dup, 1)) (hv : v.category = 1) (kk : yy_Z p l e R s m args below meth c cells slots Q nL G a L (pc + 1) lv (v :: v :: st)) : yy_Z p l e R s m args below meth c cells slots Q nL G a L pc lv (v :: st) := fun H locs ls hP hS hh => lv_dup E.1 E.2.1 hdg hv (kk H locs ls hP hS hh)
theorem yy_goto (E : yy_E p s m args c cc nL Ts own G a) {off : Int} {tgt : Nat} (hdg : decode cc pc = .ok (.goto off, 3)) (ht : (pc : Int) + off = (tgt : Int)) (kk : yy_Z p l e R s m args below meth c cells slots Q nL G a L tgt lv st) : yy_Z p l e R s m args below meth c cells slots Q nL G a L pc lv st := fun H locs ls hP hS hh => lv_goto E.1 E.2.1 hdg ht (kk H locs ls hP hS hh)
theorem yy_icmp_ge (E : yy_E p s m args c cc nL Ts own G a) {x y : Int32} {off : Int} {tgt : Nat} (hdg : decode cc pc = .ok (.if_icmp .ge off, 3)) (ht : (pc : Int) + off = (tgt : Int)) (kt : y ≤ x → yy_Z p l e R s m args below meth c cells slots Q nL G a L tgt lv st) (kf : ¬ y ≤ x → yy_Z p l e R s m args below meth c cells slots Q nL G a L (pc + 3) lv st) : yy_Z p l e R s m args below meth c cells slots Q nL G a L pc lv (.int y :: .int x :: st) := fun H locs ls hP hS hh => lv_icmp_ge E.1 E.2.1 hdg ht (fun q => kt q H locs ls hP hS hh) (fun q => kf q H locs ls hP hS hh)
theorem yy_iinc (E : yy_E p s m args c cc nL Ts own G a) {i : Nat} {n : Int} {x v : Int32} {lv' : List (Nat × Value)} (hdg : decode cc pc = .ok (.iinc i n, 3)) (hg : zz_get lv i = some (.int x)) (hv : x + Int32.ofInt n = v) (hn : i < nL) (hl : zz_set i (.int v) lv = lv') (kk : yy_Z p l e R s m args below meth c cells slots Q nL G a L (pc + 3) lv' st) : yy_Z p l e R s m args below meth c cells slots Q nL G a L pc lv st := by
  obtain ⟨k, hk⟩ := zz_at hg
  exact fun H locs ls hP hS hh => lv_iinc E.1 E.2.1 hdg hh hk hv hn rfl (fun ls' hv' => kk H locs ls' hP hS (hv'.mono (by rw [← hl]; exact zz_set1 rfl)))
theorem yn_icmp_ge (E : yy_E p s m args c cc nL Ts own G a) {x y : Nat} {off : Int} {tgt : Nat} (hdg : decode cc pc = .ok (.if_icmp .ge off, 3)) (ht : (pc : Int) + off = (tgt : Int)) (ha : x < 2 ^ 31) (hb : y < 2 ^ 31) (kt : y ≤ x → yy_Z p l e R s m args below meth c cells slots Q nL G a L tgt lv st) (kf : x < y → yy_Z p l e R s m args below meth c cells slots Q nL G a L (pc + 3) lv st) : yy_Z p l e R s m args below meth c cells slots Q nL G a L pc lv (.int (nI y) :: .int (nI x) :: st) := yy_icmp_ge E hdg ht (fun q => kt ((nI_leI hb ha).mp q)) (fun q => kf (Nat.not_le.mp (fun z => q ((nI_leI hb ha).mpr z))))
theorem yy_max (E : yy_E p s m args c cc nL Ts own G a) {index : Nat} {x y : Int32} (h1 : Cond.methodLink own index Lib.Math.max.name ∈ Ts) (h2 : Cond.static Lib.Math.max.name ∈ Ts) (h3 : Cond.initialized "java/lang/Math" ∈ Ts) (h4 : Cond.code Lib.Math.max.name Lib.Math.max.code 2 (some .int) ∈ Ts) (hf : 1 ≤ R.frames) (hl : (st.map fun v => v.category).sum + 13 ≤ R.locals) (hc : cells ≤ R.cells) (hs : slots ≤ R.slots) (hdg : decode cc pc = .ok (.invokestatic index, 3)) (kk : yy_Z p l e R s m args below meth c cells slots Q nL G a L (pc + 3) lv (.int (if x < y then y else x) :: st)) : yy_Z p l e R s m args below meth c cells slots Q nL G a L pc lv (.int y :: .int x :: st) := fun H locs ls hP hS hh => va_mmax E.1 E.2.1 (E.2.2.1.trans hh.1.symm) E.2.2.2.1 (E.2.2.2.2.1 _ h1) (E.2.2.2.2.1 _ h2) (E.2.2.2.2.1 _ h3) (E.2.2.2.2.1 _ h4) hf hl hc hs hdg (kk H locs ls hP hS hh)
theorem yy_obj (E : yy_E p s m args c cc nL Ts own G a) {index x : Nat} (h1 : Cond.methodLink own index objectInit ∈ Ts) (h2 : Cond.instanceMethod objectInit ∈ Ts) (h3 : Cond.code objectInit ⟨#[0xb1]⟩ 1 none ∈ Ts) (hf : 1 ≤ R.frames) (hl : 2 * 0 + (st.map fun v => v.category).sum + 12 ≤ R.locals) (hdg : decode cc pc = .ok (.invokespecial index, 3)) (kk : yy_Z p l e R s m args below meth c cells slots Q nL G a L (pc + 3) lv st) : yy_Z p l e R s m args below meth c cells slots Q nL G a L pc lv (.ref x :: st) := fun H locs ls hP hS hh => W.objInit (g := F0 m pc ls (.ref x :: st)) E.1 E.2.1 E.2.2.2.1 (E.2.2.2.2.1 _ h1) (E.2.2.2.2.1 _ h2) (E.2.2.2.2.1 _ h3) rfl (hh.1.trans E.2.2.1.symm) rfl hdg hf hl (kk H locs ls hP hS hh)
theorem yy_S_push {H0 H H1 : Heap} {locs : List Loc} (h : va_S (fun q => a ≤ q) H0 H locs) (hz : H1.size = H.size + 1) (ho : ∀ q, q < H.size → H1[q]? = H[q]?) : va_S (fun q => a ≤ q) H0 H1 locs := ⟨Nat.le_trans h.1 (by omega), fun x h1 h2 => (ho x (Nat.lt_of_lt_of_le h1 h.1)).trans (h.2.1 x h1 h2), h.2.2⟩
theorem yy_new (E : yy_E p s m args c cc nL Ts own G a) {C : String} {T : u_T} {N ci index q : Nat} {fs : List Value} (hin : ∀ w ∈ u_ws C T N, w ∈ Ts) (ty : Nat → FieldType) (hty : ∀ k, k < N → parseFieldDescriptor (T k).2.2.1 = some (ty k)) (hcl : Cond.classLink own index C ∈ Ts) (hinst : Cond.instantiable C N ∈ Ts) (hini : Cond.initialized C ∈ Ts) (hc : vwCl[ci]? = some (C, T, N)) (hfs : ∀ j, j < N → defaultValue (ty j) = vp_V fs j) (hcells : cells + 1 ≤ R.cells) (hslots : slots + N ≤ R.slots) (hdg : decode cc pc = .ok (.new index, 3)) (hq : a + L.length = q)
    (kk : yy_Z p l e R s m args below meth c (cells + 1) (slots + N) Q nL G a (L ++ [.inr (ci, fs)]) (pc + 3) lv (.ref q :: st)) : yy_Z p l e R s m args below meth c cells slots Q nL G a L pc lv st := fun H locs ls hP hS hh => by
  have hKn := E.2.2.2.2.2.1.1.1.1 ci _ hc
  refine W.newcK E.1 E.2.1 E.2.2.2.1 (E.2.2.2.2.1 _ hcl) (E.2.2.2.2.1 _ hinst) (E.2.2.2.2.1 _ hini) rfl hdg hcells hslots hKn.2.1 rfl fun H1 kC hkC e1 z1 o1 => ?_
  have hz : H.size = q := hP.1.trans hq
  have hk := kk H1 locs ls (hP.push z1 o1 ⟨_, hc, (u_born ty E.2.2.2.2.1 hin hKn hkC e1 hty).to hfs⟩) (yy_S_push hS z1 o1) hh
  rw [← hz] at hk
  exact hk
theorem yy_newa (E : yy_E p s m args c cc nL Ts own G a) {n : Int32} {N q : Nat} (harr : Cond.arrayClass .int ∈ Ts) (hn : ¬ n < 0) (hN : n.toNatClampNeg = N) (hbytes : N * 4 ≤ 536870912) (hcells : cells + 1 ≤ R.cells) (hslots : slots + N ≤ R.slots) (hdg : decode cc pc = .ok (.newarray .int, 2)) (hq : a + L.length = q)
    (kk : yy_Z p l e R s m args below meth c (cells + 1) (slots + N) Q nL G a (L ++ [.inl (G.2.1 0, N, .inl (fun _ => 0))]) (pc + 2) lv (.ref q :: st)) : yy_Z p l e R s m args below meth c cells slots Q nL G a L pc lv (.int n :: st) := fun H locs ls hP hS hh => by
  refine va_newaK (atype := .int) E.1 E.2.1 (E.2.2.2.2.1 _ harr) rfl hdg rfl hn hN hbytes hcells hslots rfl fun H1 cA e1 z1 o1 hAr hNm => ?_
  have hR : s.vm.findClass ("[" ++ FieldType.int.toString) = some (G.2.1 0) := (E.2.2.2.2.2.1.1.1.2 0 _ rfl).2
  have hcA : cA = G.2.1 0 := Option.some.inj (hNm.symm.trans hR)
  subst hcA
  have hz : H.size = q := hP.1.trans hq
  have hk := kk H1 locs ls (hP.push z1 o1 e1) (yy_S_push hS z1 o1) hh
  rw [← hz] at hk
  exact hk
theorem yy_anew (E : yy_E p s m args c cc nL Ts own G a) {C : String} {index t : Nat} {cA0 : ClassId} {n : Int32} {N q : Nat} (hcl : Cond.classLink own index C ∈ Ts) (hover : va_AO C s) (ht : (zz_T G)[t]? = some (cA0, .object C)) (hn : ¬ n < 0) (hN : n.toNatClampNeg = N) (hbytes : N * 4 ≤ 536870912) (hcells : cells + 1 ≤ R.cells) (hslots : slots + N ≤ R.slots) (hdg : decode cc pc = .ok (.anewarray index, 3)) (hq : a + L.length = q)
    (kk : yy_Z p l e R s m args below meth c (cells + 1) (slots + N) Q nL G a (L ++ [.inl (cA0, N, .inr (.inr (.inr (.inr (fun _ => none)))))]) (pc + 3) lv (.ref q :: st)) : yy_Z p l e R s m args below meth c cells slots Q nL G a L pc lv (.int n :: st) := fun H locs ls hP hS hh => by
  subst hN
  refine W.anew E.1 E.2.1 E.2.2.2.1 (E.2.2.2.2.1 _ hcl) (va_AO.use hover) rfl hdg rfl hn hbytes hcells hslots fun cA kA comp f1 f2 f3 f4 => ?_
  generalize hH1 : H.push ({ cls := cA, slots := Array.replicate n.toNatClampNeg .null, vm := .none } : Cell) = H1
  have z1 : H1.size = H.size + 1 := by rw [← hH1, Array.size_push]
  have e1 : H1[H.size]? = some (arrV cA n.toNatClampNeg (fun _ => .null)) := by rw [← hH1, Array.getElem?_push_size, ← arrV_new]
  have o1 : ∀ q : Nat, q < H.size → H1[q]? = H[q]? := fun q hq => by rw [← hH1, Array.getElem?_push, if_neg (Nat.ne_of_lt hq)]
  obtain ⟨_, _, _, _, _, g4⟩ := (E.2.2.2.2.2.1.1.1.2 t _ ht).2
  have hcA : cA = cA0 := Option.some.inj (f1.symm.trans g4)
  subst hcA
  have hz : H.size = q := hP.1.trans hq
  have hk := kk H1 locs ls (hP.push z1 o1 e1) (yy_S_push hS z1 o1) hh
  rw [← hz] at hk
  exact hk
theorem yy_gf (E : yy_E p s m args c cc nL Ts own G a) (j : Nat) {x ci Nf index : Nat} {C ref : String} {T : u_T} {fs : List Value} {v : Value} (hx : a + j = x) (he : L[j]? = some (.inr (ci, fs))) (hc : vwCl[ci]? = some (C, T, Nf)) (hin : ∀ w ∈ u_ws C T Nf, w ∈ Ts) (f : Nat) (hf : f < Nf) (hlink : Cond.fieldLink own index ref (T f).2.1 (T f).2.2.1 ∈ Ts) (hsame : ∀ x, s.fieldFound? (T f).1 (T f).2.1 (T f).2.2.1 = some x → s.fieldFound? ref (T f).2.1 (T f).2.2.1 = some x) (hv : fs[f]? = some v) (hdg : decode cc pc = .ok (.getfield index, 3)) (kk : yy_Z p l e R s m args below meth c cells slots Q nL G a L (pc + 3) lv (v :: st)) : yy_Z p l e R s m args below meth c cells slots Q nL G a L pc lv (.ref x :: st) := fun H locs ls hP hS hh => by
  subst hx
  exact va_get E.1 E.2.1 E.2.2.2.2.1 hin E.2.2.2.1 E.2.2.2.2.2.1.1.1 hP.vp j (yy_w_get he) hc f hf (E.2.2.2.2.1 _ hlink) hsame hv hdg (kk H locs ls hP hS hh)
theorem yy_pf (E : yy_E p s m args c cc nL Ts own G a) (hin2 : meth.name = "<init>") {ci Nf index : Nat} {C ref : String} {T : u_T} {fs : List Value} {v : Value} {ty : FieldType} {L0 : List va_E} (hL : L = .inr (ci, fs) :: L0) (hc : vwCl[ci]? = some (C, T, Nf)) (hin : ∀ w ∈ u_ws C T Nf, w ∈ Ts) (ty0 : Nat → FieldType) (hty : ∀ k, k < Nf → parseFieldDescriptor (T k).2.2.1 = some (ty0 k)) (hnm : ∀ a, a < Nf → ∀ b, b < Nf → a ≠ b → (T a).2.1 ≠ (T b).2.1) (k : Nat) (hk : k < Nf) (hlink : Cond.fieldLink own index ref (T k).2.1 (T k).2.2.1 ∈ Ts) (hsame : ∀ x, s.fieldFound? (T k).1 (T k).2.1 (T k).2.2.1 = some x → s.fieldFound? ref (T k).2.1 (T k).2.2.1 = some x) (hfin : (T k).2.2.2 = true) (hdecl : (T k).1 = own) (hd : parseFieldDescriptor (T k).2.2.1 = some ty) (hn : narrow ty v = v) (hfit : fits ty v = true) (hl : k < fs.length) (hdg : decode cc pc = .ok (.putfield index, 3)) (kk : yy_Z p l e R s m args below meth c cells slots Q nL G a (.inr (ci, fs.set k v) :: L0) (pc + 3) lv st) : yy_Z p l e R s m args below meth c cells slots Q nL G a L pc lv (v :: .ref a :: st) := fun H locs ls hP hS0 hh => by
  subst hL
  have hts := E.2.2.2.2.1
  have hK := E.2.2.2.2.2.1.1.1
  have hap := va_apart (own := own) hts hin ty0 hty hnm hK hc
  obtain ⟨r, h1, cell, q1, q2, q3, q4⟩ := hP.2 0 _ rfl
  have hr : r = (C, T, Nf) := Option.some.inj (h1.symm.trans hc)
  subst hr
  obtain ⟨hS, hfc, kC, hkC, hkind⟩ := hK.1 ci _ hc
  obtain ⟨cf, kf, fi, f, hi, hsl⟩ := hS k hk
  have hlay := hts _ (hin _ (u_in_lay hk))
  unfold u_lay at hlay
  rw [if_pos hfin] at hlay
  have hst := (u_facts hfc hkC (u_lays hts hin hk) hi).1
  have hcf : m.cls = cf := by
    obtain ⟨_, _, c', _, _, _, -, -, hf', -, -, -, hown2, -⟩ := Cond.laysFinal_spec hlay
    have e1 : c' = cf := by have := hi.symm.trans hf'; simp at this; exact this.1.symm
    rw [hdecl] at hown2
    rw [← e1]; exact Option.some.inj (E.2.2.2.1.symm.trans hown2)
  have h6 := u_fits hfc hkC hkind (Or.inr hlay) hi hd hn hfit
  refine W.putFinK E.1 E.2.1 E.2.2.2.1 (hts _ hlink) (hsame _ hi) hst hcf hin2 (by rw [q2]; exact h6) q1 q3 (by rw [hsl]; exact k2_hasslot (q4 k hk)) rfl rfl hdg fun H' e1 e2 e3 => ?_
  rw [hsl] at e1 ⊢
  exact kk H' _ ls (hP.put (j := 0) rfl e2 e3 ⟨_, hc, t_OB.to (V := updV (vp_V fs) k v) ⟨_, e1, q2, q3, t_set q4 hap hk v⟩ (fun j _ => vp_updV_set hl v j)⟩) (hS0.put e2 e3 (Nat.le_refl a)) hh
theorem yy_iast (E : yy_E p s m args c cc nL Ts own G a) (j : Nat) {n i y : Nat} {x : Int32} {f : Nat → Int32} (hy : a + j = y) (he : L[j]? = some (.inl (G.2.1 0, n, .inl f))) (hi : i < n) (hn : n < 2 ^ 31) (hdg : decode cc pc = .ok (.iastore, 1)) (kk : yy_Z p l e R s m args below meth c cells slots Q nL G a (L.set j (.inl (G.2.1 0, n, .inl (upd f i x)))) (pc + 1) lv st) : yy_Z p l e R s m args below meth c cells slots Q nL G a L pc lv (.int x :: .int (nI i) :: .ref y :: st) := fun H locs ls hP hS hh => by
  subst hy
  have hat : H[a + j]? = some (vp_cell (G.2.1 0) (n, .inl f)) := hP.2 j _ he
  have hnn : (nI i).toNatClampNeg = i := nI_clamp (by omega)
  refine W.iast E.1 E.2.1 hat ((E.2.2.2.2.2.1.1.1.2 0 _ rfl).1 n (fun j => .int (f j))) (fun q => by cases q) (by show ¬ (nI i < 0 ∨ (arrV _ _ _).slots.size ≤ _); rw [arrV_size, hnn]; exact fun h => h.elim (fun q => nI_pos (by omega) q) (fun q => by omega)) rfl rfl hdg fun H1 e z oq => ?_
  refine kk H1 _ ls (hP.put he z oq ?_) (hS.put z oq (Nat.le_add_right a j)) hh
  show H1[a + j]? = some (vp_cell _ _)
  rw [e, hnn]
  rw [vp_cell_i, vp_cell_i, arrV_store]
  congr 2
  funext q
  by_cases hq : q = i
  · subst hq
    simp [updV, upd]
  · simp [updV, upd, hq]
theorem yy_aast (E : yy_E p s m args c cc nL Ts own G a) (j jv : Nat) {t n i y v ci : Nat} {r : vw_C} {vs : List Value} {cA : ClassId} {f : Nat → Option Nat} (hy : a + j = y) (hv0 : a + jv = v) (he : L[j]? = some (.inl (cA, n, .inr (.inr (.inr (.inr f)))))) (ht : (zz_T G)[t]? = some (cA, .object r.1)) (hv : L[jv]? = some (.inr (ci, vs))) (hc : vwCl[ci]? = some r) (hi : i < n) (hn : n < 2 ^ 31) (hdg : decode cc pc = .ok (.aastore, 1)) (kk : yy_Z p l e R s m args below meth c cells slots Q nL G a (L.set j (.inl (cA, n, .inr (.inr (.inr (.inr (va_up f i (some v)))))))) (pc + 1) lv st) : yy_Z p l e R s m args below meth c cells slots Q nL G a L pc lv (.ref v :: .int (nI i) :: .ref y :: st) := fun H locs ls hP hS hh => by
  subst hy
  subst hv0
  have hat : H[a + j]? = some (vp_cell cA (n, .inr (.inr (.inr (.inr f))))) := hP.2 j _ he
  have hnn : (nI i).toNatClampNeg = i := nI_clamp (by omega)
  obtain ⟨r', hr', cellV, g1, g2, g3, -⟩ := hP.2 jv _ hv
  have hK := E.2.2.2.2.2.1.1.1
  have hcls := (hK.1 ci r hc).2
  obtain ⟨kA, comp, k1, k2, k3, -⟩ := (hK.2 t _ ht).2
  have hcomp : comp = G.1.1 ci := Option.some.inj (k3.symm.trans hcls.1)
  subst hcomp
  obtain ⟨kC, hkC, -⟩ := hcls.2
  refine W.aast E.1 E.2.1 hat (fun q h => by cases h) (fun h => by cases h) k1 k2 rfl hkC ⟨nI_pos (by omega), by show _ < (arrV _ _ _).slots.size; rw [arrV_size, hnn]; exact hi⟩ g1 (fun q h => by rw [g3] at h; cases h) (by rw [g2]; exact hkC) (by rw [g2]; exact va_assign hcls) rfl rfl hdg fun H1 e z oq => ?_
  refine kk H1 _ ls (hP.put he z oq ?_) (hS.put z oq (Nat.le_add_right a j)) hh
  show H1[a + j]? = some (vp_cell _ _)
  rw [e, hnn]
  rw [vp_cell_q, vp_cell_q, arrV_store]
  congr 2
  funext q
  by_cases hq : q = i
  · subst hq
    simp [updV, va_up, va_rf]
  · simp [updV, va_up, hq]
theorem yy_alen (E : yy_E p s m args c cc nL Ts own G a) (j : Nat) {n y : Nat} {f : Nat → Int32} (hy : a + j = y) (he : L[j]? = some (.inl (G.2.1 0, n, .inl f))) (hdg : decode cc pc = .ok (.arraylength, 1)) (kk : yy_Z p l e R s m args below meth c cells slots Q nL G a L (pc + 1) lv (.int (nI n) :: st)) : yy_Z p l e R s m args below meth c cells slots Q nL G a L pc lv (.ref y :: st) := fun H locs ls hP hS hh => by
  subst hy
  exact va_alen (v := nI n) (ty := .int) E.1 E.2.1 E.2.2.2.2.2.1.1.1 hP.vp j 0 (cA := G.2.1 0) (x := (n, .inl f)) (yy_w_get he) rfl rfl hdg (kk H locs ls hP hS hh)
theorem yy_cI (E : yy_E p s m args c cc nL Ts own G a) {y : MethodName} {bytes : ByteArray} {maxL n index mc ms b : Nat} {ws : List Cond} {rm : Room} {As rest : List Value} {L0 Lo L1 : List va_E} (hM : Met l y ws rm (yy_C G b Lo (.ref b :: As)) (yy_Q G b L1) mc ms (fun q => b ≤ q)) (cw : CallB R s args own index y bytes maxL none ws rm mc ms n ∧ y.name = "<init>" ∧ (Cond.instanceMethod y).before args s = true) (hL : L = L0 ++ Lo) (hb : a + L0.length = b) (hn : As.length = n) (hst : st = As.reverse ++ .ref b :: rest) (hW : (rest.map fun v => v.category).sum ≤ 8) (hdg : decode cc pc = .ok (.invokespecial index, 3)) (hf : cells + mc ≤ R.cells ∧ slots + ms ≤ R.slots)
    (kk : yy_Z p l e R s m args below meth c (cells + mc) (slots + ms) Q nL G a (L0 ++ L1) (pc + 3) lv rest) : yy_Z p l e R s m args below meth c cells slots Q nL G a L pc lv st := fun H locs ls hP hS hh => by
  subst hL
  exact va_callv (va_runI (g := F0 m pc ls st) ⟨E.1, E.2.1, E.2.2.1, E.2.2.2.1, E.2.2.2.2.1⟩ hM cw ⟨yy_C_blind, fun U hU hW => ⟨rfl, by rw [hU]; exact hP.last hb, E.2.2.2.2.2.1.warm hW⟩⟩ rfl hn hh.1 hst (lv_room hW) hdg hf) hS (fun q _ h => Nat.le_trans (by omega) h) (fun q h => Nat.le_trans (by omega) h) (fun u t H1 locs1 ht _ _ hB hz hk hS1 => kk H1 locs1 ls (hP.join hb hk (by rw [← ht]; exact hB)) hS1 hh)
theorem yy_cIN (E : yy_E p s m args c cc nL Ts own G a) {y : MethodName} {host : String} {bytes : ByteArray} {maxL n index mc ms b : Nat} {ws : List Cond} {rm : Room} {As rest : List Value} {L0 Lo L1 : List va_E} (hM : Met l y ws rm (yy_C G b Lo (.ref b :: As)) (yy_Q G b L1) mc ms (fun q => b ≤ q)) (cw : va_CN R s args own index y host bytes maxL none ws rm mc ms n ∧ y.name = "<init>" ∧ (Cond.instanceMethod y).before args s = true) (hL : L = L0 ++ Lo) (hb : a + L0.length = b) (hn : As.length = n) (hst : st = As.reverse ++ .ref b :: rest) (hW : (rest.map fun v => v.category).sum ≤ 8) (hdg : decode cc pc = .ok (.invokespecial index, 3)) (hf : cells + mc ≤ R.cells ∧ slots + ms ≤ R.slots)
    (kk : yy_Z p l e R s m args below meth c (cells + mc) (slots + ms) Q nL G a (L0 ++ L1) (pc + 3) lv rest) : yy_Z p l e R s m args below meth c cells slots Q nL G a L pc lv st := fun H locs ls hP hS hh => by
  subst hL
  exact va_callv (va_runIN (g := F0 m pc ls st) ⟨E.1, E.2.1, E.2.2.1, E.2.2.2.1, E.2.2.2.2.1⟩ hM cw ⟨yy_C_blind, fun U hU hW => ⟨rfl, by rw [hU]; exact hP.last hb, E.2.2.2.2.2.1.warm hW⟩⟩ rfl hn hh.1 hst (lv_room hW) hdg hf) hS (fun q _ h => Nat.le_trans (by omega) h) (fun q h => Nat.le_trans (by omega) h) (fun u t H1 locs1 ht _ _ hB hz hk hS1 => kk H1 locs1 ls (hP.join hb hk (by rw [← ht]; exact hB)) hS1 hh)
theorem yy_cS (E : yy_E p s m args c cc nL Ts own G a) {y : MethodName} {bytes : ByteArray} {maxL n index : Nat} {ws : List Cond} {rm : Room} {As rest : List Value} {L1 : List va_E} (hM : Met l y ws rm (yy_C G a L As) (yy_Q G a L1) 0 0 (fun q => a ≤ q)) (cw : CallB R s args own index y bytes maxL none ws rm 0 0 n ∧ (Cond.static y).before args s = true) (hn : As.length = n) (hst : st = As.reverse ++ rest) (hW : (rest.map fun v => v.category).sum ≤ 8) (hdg : decode cc pc = .ok (.invokestatic index, 3)) (hf : cells ≤ R.cells ∧ slots ≤ R.slots)
    (kk : yy_Z p l e R s m args below meth c cells slots Q nL G a L1 (pc + 3) lv rest) : yy_Z p l e R s m args below meth c cells slots Q nL G a L pc lv st := fun H locs ls hP hS hh => va_callv (va_runS (g := F0 m pc ls st) ⟨E.1, E.2.1, E.2.2.1, E.2.2.2.1, E.2.2.2.2.1⟩ hM cw ⟨yy_C_blind, fun U hU hW => ⟨rfl, by rw [hU]; exact hP, E.2.2.2.2.2.1.warm hW⟩⟩ rfl hn hh.1 hst (lv_room hW) hdg hf) hS (fun q _ h => h) (fun q h => h) (fun u t H1 locs1 ht _ _ hB hz hk hS1 => kk H1 locs1 ls (by rw [← ht]; exact hB) hS1 hh)
theorem yy_vret (E : yy_E p s m args c cc nL Ts own G a) {L1 : List va_E} (hr : meth.sig.returnType = none) (hlocks : meth.locks = false) (hdg : decode cc pc = .ok (.return_, 1)) (hL : L = L1) : yy_Z p l e R s m args below meth c cells slots (MQ below (yy_Q G a L1) args s cells slots (fun q => a ≤ q)) nL G a L pc lv [] := fun H locs ls hP hS hh => by
  subst hL
  exact W.vret E.1 E.2.1 hr (fun t ht hW => ⟨⟨(), rfl, trivial, by show yy_P G a L t.heap; rw [ht]; exact hP⟩, hS.F ht⟩) hS.2.2 hdg
theorem yy_mna (E : yy_E p s m args c cc nL Ts own G a) {index : Nat} {n k : Int32} {N K q : Nat} (hcl : Cond.classLink own index ("[" ++ (FieldType.array .int).toString) ∈ Ts) (harr : Cond.arrayClass .int ∈ Ts) (hn : ¬ n < 0) (hk : ¬ k < 0) (hN : n.toNatClampNeg = N) (hK : k.toNatClampNeg = K) (hb1 : N * 4 ≤ 536870912) (hb2 : K * 4 ≤ 536870912) (hcells : cells + (1 + N) ≤ R.cells) (hslots : slots + (N + N * K) ≤ R.slots) (hdg : decode cc pc = .ok (.multianewarray index 2, 4)) (hq : a + L.length = q)
    (kk : yy_Z p l e R s m args below meth c (cells + 1 + N) (slots + N + N * K) Q nL G a (L ++ .inl (G.2.1 3, N, .inr (.inr (.inr (.inr (fun i => if i < N then some (q + 1 + i) else none))))) :: List.replicate N (.inl (G.2.1 0, K, .inl (fun _ => 0)))) (pc + 4) lv (.ref q :: st)) : yy_Z p l e R s m args below meth c cells slots Q nL G a L pc lv (.int k :: .int n :: st) := fun H locs ls hP hS hh => by
  subst hN
  subst hK
  intro T hT Xs
  obtain ⟨vm₁, cA, comp, -, fA, fC, hO, -, X', step⟩ := Xs.multianewarray2F (ty := .int) E.1 E.2.2.2.1 (E.2.2.2.2.1 _ hcl) (va_AOA.use E.2.2.2.2.2.1.2.2.2.2) (E.2.2.2.2.1 _ harr) (g := F0 m pc ls (.int k :: .int n :: st)) rfl (by rw [E.2.1]; exact hdg) rfl hn hk hb1 hb2 (by omega) rfl rfl hcells hslots
  have hR0 : s.vm.findClass ("[" ++ FieldType.int.toString) = some (G.2.1 0) := (E.2.2.2.2.2.1.1.1.2 0 _ rfl).2
  have hR3 : s.vm.findClass ("[" ++ (FieldType.array .int).toString) = some (G.2.1 3) := (E.2.2.2.2.2.1.1.1.2 3 _ rfl).2
  have ec : comp = G.2.1 0 := Option.some.inj (fC.symm.trans hR0)
  have eA : cA = G.2.1 3 := Option.some.inj (fA.symm.trans hR3)
  subst ec
  subst eA
  have hz : H.size = q := hP.1.trans hq
  generalize hF : Jvm.Free.Multi.fill (T.setVm vm₁) (G.2.1 3) (G.2.1 0) n.toNatClampNeg k.toNatClampNeg (defaultValue .int) n.toNatClampNeg = F at X' step
  have hTh : (T.setVm vm₁).heap = H := hT
  obtain ⟨f1, f2, -, -⟩ := Jvm.Free.Multi.fill_facts (T.setVm vm₁) (G.2.1 3) (G.2.1 0) n.toNatClampNeg k.toNatClampNeg (defaultValue .int) n.toNatClampNeg
  rw [hF, hTh] at f1 f2
  have hold : ∀ x : Nat, x < H.size → F.heap[x]? = H[x]? := fun x hx => by
    have := Jvm.Free.Multi.fill_old (T.setVm vm₁) (G.2.1 3) (G.2.1 0) n.toNatClampNeg k.toNatClampNeg (defaultValue .int) (a := x) (by rw [hTh]; exact hx) n.toNatClampNeg
    rw [hF, hTh] at this
    exact this
  have hrow : ∀ j : Nat, j < n.toNatClampNeg → F.heap[H.size + 1 + j]? = some (vp_cell (G.2.1 0) (k.toNatClampNeg, .inl (fun _ => 0))) := fun j hj => by
    have := Jvm.Free.Multi.fill_inner (T.setVm vm₁) (G.2.1 3) (G.2.1 0) n.toNatClampNeg k.toNatClampNeg (defaultValue .int) n.toNatClampNeg j hj
    rw [hF, hTh] at this
    rw [this, vp_cell_i]
    exact congrArg some (arrV_new _ _ _)
  rw [vr_outer] at f2
  have hP1 : yy_P G a (L ++ .inl (G.2.1 3, n.toNatClampNeg, .inr (.inr (.inr (.inr (fun i => if i < n.toNatClampNeg then some (q + 1 + i) else none))))) :: List.replicate n.toNatClampNeg (.inl (G.2.1 0, k.toNatClampNeg, .inl (fun _ => 0)))) F.heap := by
    refine ⟨by rw [f1, hP.1]; simp; omega, fun j e' hj => ?_⟩
    by_cases hl : j < L.length
    · rw [List.getElem?_append_left hl] at hj
      exact yy_at_kept (hP.2 j e' hj) (hold _ (by rw [hP.1]; omega))
    · rw [List.getElem?_append_right (by omega)] at hj
      cases hd : j - L.length with
      | zero =>
        rw [hd] at hj
        cases hj
        show F.heap[a + j]? = some (vp_cell _ _)
        rw [show a + j = H.size by omega, f2, vp_cell_q, hz]
      | succ d =>
        rw [hd, List.getElem?_cons_succ] at hj
        obtain ⟨hd1, hd2⟩ := List.getElem?_eq_some_iff.mp hj
        rw [List.getElem_replicate] at hd2
        rw [List.length_replicate] at hd1
        subst hd2
        show F.heap[a + j]? = some (vp_cell _ _)
        rw [show a + j = H.size + 1 + d by omega]
        exact hrow d hd1
  obtain ⟨t, a1, b1⟩ := kk F.heap locs ls hP1 ⟨by rw [f1]; have := hS.1; omega, fun x h1 h2 => (hold x (Nat.lt_of_lt_of_le h1 hS.1)).trans (hS.2.1 x h1 h2), hS.2.2⟩ hh F rfl X'
  refine ⟨t, step t ?_, b1⟩
  have e9 : T.heap.size = q := by rw [hT]; exact hz
  rw [e9]
  exact a1
end YY
theorem yy_start {l : Launch} {y : MethodName} {ws ws' : List Cond} {rm : Room} {cc : ByteArray} {maxL mc ms b : Nat} {G : zz_C} {L : List va_E} {av : List Value} {Qc : Array Value → State → Outcome → State → Prop} (hy : plainName y.cls = true) (hw : ws = Cond.code y cc maxL none :: ws') (hlen : (lg_sl av).length ≤ maxL)
    (body : ∀ (p : Program) (e : Env) (s : State) (m : MethodId) (below : List Frame) (meth : Method) (c : Code), yy_E p s m av.toArray c cc maxL ws y.cls G b → meth.sig.returnType = none → meth.locks = false → meth.name = y.name →
      yy_Z p l e (headSpec ws rm).room s m av.toArray below meth c 0 0 (MQ below Qc av.toArray s mc ms (fun q => b ≤ q)) maxL G b L 0 (lv_args 0 av) []) : Met l y ws rm (yy_C G b L av) Qc mc ms (fun q => b ≤ q) := by
  refine Met.ofW (cc := cc) (maxL := maxL) (ret := none) hy hw ?_
  intro p e s m args below meth c s₁ B hml hv
  obtain ⟨rfl, hP, hK⟩ := hv
  have hl := lv_entry av (n := maxL) hlen
  rw [lg_entry_eq]
  exact body p e s m below meth c ⟨B.exec, B.bytes, hml, findClass_of_methodNamed B.named, atoms_spec (ws := ws) B.pre, hK, by rw [hP.1]; omega⟩ B.returns B.notSynchronized (name_of_methodNamed B.named B.method).1 s.heap [] _ hP va_S.rf hl
