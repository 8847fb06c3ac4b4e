def R_law : String := "FirstSignsLaw"
def lw_P (b : Addr) (xs : List Int32) (args : Array Value) (s : State) : Prop := args = #[.ref b] ∧ s.IntsAt b xs ∧ xs.length ≤ 2560 ∧ (Jvm.Cond.and given_1 narrow_1).before args s = true
def lw_Q (_ : Array Value) (s : State) (o : Outcome) (t : State) : Prop := o = .returned (some (.int 1)) ∧ Framed s o t [] 600000 7302250
def lw_Z (below : List Frame) (a : Array Value) (s : State) : State → Prop := fun t => ∃ o, t.status = .running ∧ Ended t below o ∧ lw_Q a s o t
/-- the law's own end, with 1 on the stack, nothing written that was there before, its room as the claim has it -/
theorem lw_ret {p : Program} {l : Launch} {e : Env} {s : State} {m : MethodId} {below : List Frame} {meth : Method} {c : Code} {b : Nat} (hx : p.tables.exec = Jvm.exec) (hb : c.code = code) (hr : meth.sig.returnType = ret) (hlocks : meth.locks = false) {pc : Nat} {H : Heap} {ls : Array Slot} (hdg : decode code pc = .ok (.ireturn, 1)) : W p l e room_1 s m #[Value.ref b] below meth c H [] 600000 7302250 (lw_Z below #[Value.ref b] s) (F0 m pc ls [.int 1]) := by
  intro T hT X
  obtain ⟨fs, hret, hrun, hended, hW, hframe⟩ := X.leave (v := some (.int 1)) (hlocks := hlocks) (fun h => by rw [hr] at h; cases h)
  have hmeth' : T.vm.method? m = some meth := X.method'
  refine ⟨T.setFrames fs, ?_, .returned (some (.int 1)), hrun, hended, rfl, ⟨_, rfl⟩, hW, hframe⟩
  jvm_step X.here [X.here.top, hx, hb, hdg, hmeth', hr, ret, narrow_b1]
  (try refine ⟨rfl, ?_⟩); (try refine ⟨rfl, ?_⟩)
  first | (intro acts; rw [hret _ acts rfl rfl rfl]) | rw [hret _ _ rfl rfl rfl]
  exact Steps.refl _
/-- what holds at the law's entry: the machine, the code, the tables' words (any of lw_tbl by 'hts w (by decide +kernel)'), the script of L ints xs at the cell b, what the Statement gives of the start (any of its parts by flat_of_before) -/
def lw_At (p : Program) (s : State) (m : MethodId) (meth : Method) (c : Code) (b L : Nat) (xs : Nat → Int32) : Prop :=
  p.tables.exec = Jvm.exec ∧ c.code = code ∧ meth.sig.returnType = ret ∧ c.maxLocals = 4 ∧ s.vm.findClass R_law = some m.cls ∧ (∀ w ∈ lw_tbl, w.before #[Value.ref b] s = true) ∧ va_X b L xs s s.heap ∧ b < s.heap.size ∧ meth.locks = false ∧ (Jvm.Cond.and given_1 narrow_1).before #[Value.ref b] s = true

set_option maxHeartbeats 4000000 in
set_option maxRecDepth 100000 in
theorem whole_start {p : Program} {e : Env} {s : State} {m : MethodId} {below : List Frame} {meth : Method} {c : Code} (l : Launch) (hflags : l.flags = flags0) {b L : Nat} {xs : Nat → Int32} (hL : L ≤ 2560) (C0 : lw_At p s m meth c b L xs) : W p l e room_1 s m #[Value.ref b] below meth c s.heap [] 0 0 (lw_Z below #[Value.ref b] s) (entryFrame m ([Value.ref b] : List Value).toArray 4) := by
  obtain ⟨hx, hb, hr, hml, hown, htsT, hX, hbl, hlocks, hgv⟩ := id C0
  have hts : ∀ w ∈ wsL_law, w.before #[Value.ref b] s = true := fun w hw => htsT w (wsL_law_in w hw)
  obtain ⟨D, f, hK⟩ := zL_known htsT
  have EY : yy_E p s m #[Value.ref b] c cL_law 4 lw_tbl RL (zG D f s.heap.size) s.heap.size := ⟨hx, hb, hml, hown, htsT, hK _, Nat.le_refl _⟩
  have EZ : zz_E p room_1 s m #[Value.ref b] c 111 14481 cL_law 4 wsL_law RL (zG D f s.heap.size) (fun q => s.heap.size ≤ q) := ⟨hx, hb, hml, hown, hts, zG_J _ _ _, (hK _).1, fun k _ => Nat.le_add_right _ _, Nat.le_of_ble_eq_true rfl, Nat.le_of_ble_eq_true rfl⟩
  have hXX : zX s (fun q => s.heap.size ≤ q) b L xs := ⟨hX, hbl, Nat.not_le.mpr hbl, hL⟩
  have fin : ∀ (M : zz_M) (lv : List (Nat × Value)), zz_Z p l e room_1 s m #[Value.ref b] below meth c 111 14481 (lw_Z below #[Value.ref b] s) 4 (zG D f s.heap.size) (fun q => s.heap.size ≤ q) M 702 lv [] := fun M lv => by
    refine zz_iconst (pc := 702) (v := 1) EZ dL_law_702 (by decide) ?_
    exact fun H locs ls hP hS hh => va_forget hS.2.2 (W.widen (k := 600000) (n := 7302250) (by decide) (by decide) (lw_ret hx hb hr hlocks dL_law_703))
  have hl := lv_entry ([.ref b]) (n := 4) (Nat.le_of_ble_eq_true rfl)
  rw [lg_entry_eq]
  suffices hZ : yy_Z p l e room_1 s m #[Value.ref b] below meth c 0 0 (lw_Z below #[Value.ref b] s) 4 (zG D f s.heap.size) s.heap.size [] 0 [(0, .ref b)] [] from hZ s.heap [] _ ⟨rfl, fun j e h => by cases h⟩ va_S.rf hl
  refine yy_new (pc := 0) (ci := 7) (C := RX7) (T := TX7) (N := 8) (fs := [.null, .null, .null, .null, .null, .null, .null, .null]) (q := s.heap.size) EY wsL_in_wsX70 tyX7 tyX7_ok (wsL_law_in _ (by decide +kernel)) (wsL_law_in _ (by decide +kernel)) (wsL_law_in _ (by decide +kernel)) rfl (by decide +kernel) (Nat.le_of_ble_eq_true rfl) (Nat.le_of_ble_eq_true rfl) dL_law_0 rfl ?_
  refine yy_dup (pc := 3) EY dL_law_3 rfl ?_
  refine yy_cI (pc := 4) (As := []) (L0 := []) EY (ktX7_init l (zG D f s.heap.size) s.heap.size) (cwI 0 hts gL_law_X7_init rfl rfl rfl (hts (.initialized RX7) (by decide +kernel)) (hts (.methodLink RL 9 yX7_init) (by decide +kernel)) (hts (.instanceMethod yX7_init) (by decide +kernel)) rfl (by decide +kernel) ⟨Nat.le_of_ble_eq_true rfl, Nat.le_of_ble_eq_true rfl⟩) rfl rfl rfl rfl (Nat.le_of_ble_eq_true rfl) dL_law_4 ⟨Nat.le_of_ble_eq_true rfl, Nat.le_of_ble_eq_true rfl⟩ ?_
  refine yy_astore_n (pc := 7) (lv' := [(0, _), (1, _)]) EY dL_law_7 (by decide) rfl ?_
  refine yy_new (pc := 8) (ci := 8) (C := RX8) (T := TX8) (N := 14) (fs := [.null, .int 0, .null, .int 0, .null, .null, .null, .null, .null, .int 0, .int 0, .null, .null, .null]) (q := s.heap.size + 100) EY wsL_in_wsX80 tyX8 tyX8_ok (wsL_law_in _ (by decide +kernel)) (wsL_law_in _ (by decide +kernel)) (wsL_law_in _ (by decide +kernel)) rfl (by decide +kernel) (Nat.le_of_ble_eq_true rfl) (Nat.le_of_ble_eq_true rfl) dL_law_8 (by simp only [yy_own, List.nil_append, List.length_cons, List.length_append, List.length_nil, yl_tab, yl_past, yl_read, yl_norm, yl_cnt, yl_forms, yl_row]) ?_
  refine yy_dup (pc := 11) EY dL_law_11 rfl ?_
  refine yy_cI (pc := 12) (As := []) (L0 := yy_own (zG D f s.heap.size) s.heap.size) EY (ktX8_init l (zG D f s.heap.size) (s.heap.size + 100)) (cwI 0 hts gL_law_X8_init rfl rfl rfl (hts (.initialized RX8) (by decide +kernel)) (hts (.methodLink RL 12 yX8_init) (by decide +kernel)) (hts (.instanceMethod yX8_init) (by decide +kernel)) rfl (by decide +kernel) ⟨Nat.le_of_ble_eq_true rfl, Nat.le_of_ble_eq_true rfl⟩) rfl (by simp only [yy_own, List.nil_append, List.length_cons, List.length_append, List.length_nil, yl_tab, yl_past, yl_read, yl_norm, yl_cnt, yl_forms, yl_row]) rfl rfl (Nat.le_of_ble_eq_true rfl) dL_law_12 ⟨Nat.le_of_ble_eq_true rfl, Nat.le_of_ble_eq_true rfl⟩ ?_
  refine yy_astore_n (pc := 15) (lv' := [(0, _), (1, _), (2, _)]) EY dL_law_15 (by decide) rfl ?_
  refine yy_iconst (pc := 16) (v := nI 0) EY dL_law_16 (by decide) ?_
  refine yy_istore_n (pc := 17) (lv' := [(0, _), (1, _), (2, _), (3, _)]) EY dL_law_17 (by decide) rfl ?_
  exact fun H locs ls hP hS hh => zL_loop EZ hXX fin L 0 zM0 (fun _ => none) [] zI0 zJ0 (by decide) (by omega) H locs ls (zm_P hP) hS hh
