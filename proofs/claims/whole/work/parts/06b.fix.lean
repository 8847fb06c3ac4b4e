/-! the norms as the one fixed point -/
/-- a is at most b, none being above all -/
def ole (a b : Option Nat) : Prop := ∀ y, b = some y → ∃ x, a = some x ∧ x ≤ y
theorem ole_rf (a : Option Nat) : ole a a := fun y h => ⟨y, h, Nat.le_refl _⟩
theorem ole_tr {a b c : Option Nat} (h1 : ole a b) (h2 : ole b c) : ole a c := fun z hz => by
  obtain ⟨y, hy, hl⟩ := h2 z hz
  obtain ⟨x, hx, hk⟩ := h1 y hy
  exact ⟨x, hx, Nat.le_trans hk hl⟩
theorem ole_as {a b : Option Nat} (h1 : ole a b) (h2 : ole b a) : a = b := by
  cases a with
  | none =>
    cases b with
    | none => rfl
    | some y => obtain ⟨x, hx, -⟩ := h1 y rfl; cases hx
  | some x =>
    obtain ⟨y, hy, hl⟩ := h2 x rfl
    obtain ⟨x2, hx2, hk⟩ := h1 y hy
    cases hx2
    rw [hy, Nat.le_antisymm hk hl]
theorem ole_none (a : Option Nat) : ole a none := fun y h => by cases h
theorem zoa_some {a b : Option Nat} {n : Nat} (h : zoa a b = some n) : ∃ x y, a = some x ∧ b = some y ∧ n = x + y := by
  cases a with
  | none => cases h
  | some x =>
    cases b with
    | none => cases h
    | some y => cases h; exact ⟨x, y, rfl, rfl, rfl⟩
theorem znorm_mono {v w : Nat → Option Nat} : ∀ {L : List Nat}, (∀ x ∈ L, ole (w x) (v x)) → ole (znorm w L) (znorm v L)
  | [], _ => ole_rf _
  | x :: L, h => by
    intro n hn
    obtain ⟨a, b, ha, hb, rfl⟩ := zoa_some (show zoa (v x) (znorm v L) = some n from hn)
    obtain ⟨a2, ha2, hl⟩ := h x List.mem_cons_self a ha
    obtain ⟨b2, hb2, hk⟩ := znorm_mono (L := L) (fun y hy => h y (List.mem_cons_of_mem _ hy)) b hb
    refine ⟨a2 + b2, ?_, Nat.add_le_add hl hk⟩
    show zoa (w x) (znorm w L) = _
    rw [ha2, hb2]
    rfl
theorem znorm_mem {v : Nat → Option Nat} : ∀ {L : List Nat} {n : Nat}, znorm v L = some n → ∀ x ∈ L, ∃ b, v x = some b ∧ b ≤ n
  | y :: L, n, h, x, hx => by
    obtain ⟨a, b, ha, hb, rfl⟩ := zoa_some (show zoa (v y) (znorm v L) = some n from h)
    rcases List.mem_cons.mp hx with rfl | hx
    · exact ⟨a, ha, Nat.le_add_right _ _⟩
    · obtain ⟨c, hc, hl⟩ := znorm_mem hb x hx
      exact ⟨c, hc, Nat.le_trans hl (Nat.le_add_left _ _)⟩
theorem znorm_congr {v w : Nat → Option Nat} : ∀ {L : List Nat}, (∀ x ∈ L, w x = v x) → znorm w L = znorm v L
  | [], _ => rfl
  | x :: L, h => by
    show zoa (w x) (znorm w L) = zoa (v x) (znorm v L)
    rw [h x List.mem_cons_self, znorm_congr (fun y hy => h y (List.mem_cons_of_mem _ hy))]
/-- a norm by a letter: the rule, its row's norm -/
theorem zby_some {S v : Nat → Option Nat} {s a n : Nat} (h : zby S v s (some a) = some n) : ∃ r q, S (3 * s + a) = some r ∧ znorm v (zr r) = some q ∧ n = q + 1 := by
  have h : (match S (3 * s + a) with | none => none | some r => (znorm v (zr r)).map (· + 1)) = some n := h
  cases hs : S (3 * s + a) with
  | none => rw [hs] at h; cases h
  | some r =>
    rw [hs] at h
    have h : (znorm v (zr r)).map (· + 1) = some n := h
    cases hn : znorm v (zr r) with
    | none => rw [hn] at h; cases h
    | some q => rw [hn] at h; cases h; exact ⟨r, q, rfl, hn, rfl⟩
theorem zby_of {S v : Nat → Option Nat} {s a r q : Nat} (h : S (3 * s + a) = some r) (hq : znorm v (zr r) = some q) : zby S v s (some a) = some (q + 1) := by
  show (match S (3 * s + a) with | none => none | some r => (znorm v (zr r)).map (· + 1)) = some (q + 1)
  rw [h]
  show (znorm v (zr r)).map (· + 1) = _
  rw [hq]
  rfl
theorem zby_mono {S v w : Nat → Option Nat} (hV : zV S) {s a : Nat} (hs : s < 6) (ha : a < 3) (h : ∀ x, x < 6 → ole (w x) (v x)) : ole (zby S w s (some a)) (zby S v s (some a)) := by
  intro n hn
  obtain ⟨r, q, hr, hq, rfl⟩ := zby_some hn
  have hz := hV.1 _ (by omega) r hr
  obtain ⟨q2, hq2, hl⟩ := znorm_mono (fun x hx => h x (zr_lt hz x hx)) q hq
  exact ⟨q2 + 1, zby_of hr hq2, by omega⟩
theorem zbest_ub {S v : Nat → Option Nat} {s : Nat} : ∀ {l a : Nat}, a < l → ole (zbest S v s l).2 (zby S v s (some a))
  | l + 1, a, ha => by
    intro n hn
    by_cases e : a = l
    · subst e
      rw [zbest, hn]
      cases h2 : (zbest S v s a).2 with
      | none => exact ⟨n, rfl, Nat.le_refl _⟩
      | some m =>
        show ∃ x, (if n < m then (some a, some n) else zbest S v s a).2 = some x ∧ x ≤ n
        by_cases hm : n < m
        · rw [if_pos hm]; exact ⟨n, rfl, Nat.le_refl _⟩
        · rw [if_neg hm]; exact ⟨m, h2, by omega⟩
    · obtain ⟨m, hm, hl⟩ := zbest_ub (l := l) (a := a) (by omega) n hn
      rw [zbest]
      cases h1 : zby S v s (some l) with
      | none => exact ⟨m, hm, hl⟩
      | some k =>
        rw [hm]
        show ∃ x, (if k < m then (some l, some k) else zbest S v s l).2 = some x ∧ x ≤ n
        by_cases hk : k < m
        · rw [if_pos hk]; exact ⟨k, rfl, by omega⟩
        · rw [if_neg hk]; exact ⟨m, hm, hl⟩
theorem zmin_ub {S v : Nat → Option Nat} {s a : Nat} (ha : a < 3) : ole (zmin S v s) (zby S v s (some a)) := zbest_ub ha
theorem zmin_ex {S v : Nat → Option Nat} {s n : Nat} (h : zmin S v s = some n) : ∃ a, a < 3 ∧ zby S v s (some a) = some n := by
  unfold zmin at h
  rw [← zbest_by] at h
  cases ho : (zbest S v s 3).1 with
  | none => rw [ho] at h; cases h
  | some a => exact ⟨a, zbest_lt S v s 3 a ho, by rw [ho] at h; exact h⟩
theorem zmin_mono {S v w : Nat → Option Nat} (hV : zV S) {s : Nat} (hs : s < 6) (h : ∀ x, x < 6 → ole (w x) (v x)) : ole (zmin S w s) (zmin S v s) := by
  intro n hn
  obtain ⟨a, ha, hb⟩ := zmin_ex hn
  obtain ⟨m, hm, hl⟩ := zby_mono hV hs ha h n hb
  obtain ⟨k, hk, hl2⟩ := zmin_ub ha m hm
  exact ⟨k, hk, by omega⟩
theorem zmin_congr {S v w : Nat → Option Nat} (hV : zV S) {s : Nat} (hs : s < 6) (h : ∀ x, x < 6 → w x = v x) : zmin S w s = zmin S v s := ole_as (zmin_mono hV hs (fun x hx => by rw [h x hx]; exact ole_rf _)) (zmin_mono hV hs (fun x hx => by rw [h x hx]; exact ole_rf _))
/-- a fixed point, and only one -/
def zfix (S v : Nat → Option Nat) : Prop := ∀ s, s < 6 → v s = zmin S v s
theorem zfix_le {S v w : Nat → Option Nat} (hV : zV S) (hv : zfix S v) (hw : zfix S w) : ∀ (n : Nat) (s : Nat), s < 6 → v s = some n → ∃ x, w s = some x ∧ x ≤ n := by
  intro n
  induction n using Nat.strongRecOn with
  | ind n ih =>
    intro s hs hn
    rw [hv s hs] at hn
    obtain ⟨a, ha, hb⟩ := zmin_ex hn
    obtain ⟨r, q, hr, hq, rfl⟩ := zby_some hb
    have hz := hV.1 _ (by omega) r hr
    obtain ⟨q2, hq2, hl⟩ := znorm_mono (v := v) (w := w) (L := zr r) (fun x hx y hy => by
      obtain ⟨b, hb2, hbl⟩ := znorm_mem hq x hx
      rw [hy] at hb2
      cases hb2
      exact ih y (by omega) x (zr_lt hz x hx) hy) q hq
    obtain ⟨k, hk, hl2⟩ := zmin_ub ha _ (zby_of hr hq2)
    exact ⟨k, by rw [hw s hs]; exact hk, by omega⟩
theorem zfix_uniq {S v w : Nat → Option Nat} (hV : zV S) (hv : zfix S v) (hw : zfix S w) : ∀ s, s < 6 → v s = w s := fun s hs => ole_as (fun n hn => zfix_le hV hw hv n s hs hn) (fun n hn => zfix_le hV hv hw n s hs hn)
/-! one update after another -/
def zvu (v : Nat → Option Nat) (s : Nat) (o : Option Nat) : Nat → Option Nat := fun t => if t = s then o else v t
theorem zvu_same (v : Nat → Option Nat) (s : Nat) (o : Option Nat) : zvu v s o s = o := if_pos rfl
theorem zvu_ne (v : Nat → Option Nat) {s t : Nat} (o : Option Nat) (h : t ≠ s) : zvu v s o t = v t := if_neg h
/-- none comes to be worse by an update -/
def zdn (S v : Nat → Option Nat) : Prop := ∀ s, s < 6 → ole (zmin S v s) (v s)
theorem zdn_low {v : Nat → Option Nat} {s : Nat} {o : Option Nat} (h : ole o (v s)) : ∀ t, ole (zvu v s o t) (v t) := fun t => by
  by_cases e : t = s
  · subst e; rw [zvu_same]; exact h
  · rw [zvu_ne _ _ e]; exact ole_rf _
/-- an update by something between the least and what was there -/
theorem zdn_up {S v : Nat → Option Nat} (hV : zV S) (h : zdn S v) {s : Nat} {o : Option Nat} (hs : s < 6) (h1 : ole (zmin S v s) o) (h2 : ole o (v s)) : zdn S (zvu v s o) := by
  intro t ht
  have hm := zmin_mono hV ht (fun x _ => zdn_low h2 x)
  by_cases e : t = s
  · subst e; rw [zvu_same]; exact ole_tr hm h1
  · rw [zvu_ne _ _ e]; exact ole_tr hm (h t ht)
/-- how many have a norm -/
def zhv (v : Nat → Option Nat) : Nat := ((List.range 6).filter (fun s => (v s).isSome)).length
def zg (c : Nat) : Nat := (3 ^ c - 1) / 2
theorem zg_ok : ∀ c, c < 6 → 1 + 3 * zg c ≤ zg (c + 1) := by decide
theorem zg_mono : ∀ c, c ≤ 6 → ∀ d, d ≤ 6 → c ≤ d → zg c ≤ zg d := by decide
theorem zhv_le (v : Nat → Option Nat) : zhv v ≤ 6 := List.length_filter_le _ _
theorem zfl_le {p q : Nat → Bool} : ∀ (l : List Nat), (∀ x ∈ l, p x = true → q x = true) → (l.filter p).length ≤ (l.filter q).length
  | [], _ => Nat.le_refl _
  | x :: l, h => by
    have ih := zfl_le l (fun y hy => h y (List.mem_cons_of_mem _ hy))
    cases hp : p x with
    | false =>
      rw [List.filter_cons_of_neg (by simp [hp])]
      refine Nat.le_trans ih ?_
      cases hq : q x with
      | false => rw [List.filter_cons_of_neg (by simp [hq])]; exact Nat.le_refl _
      | true => rw [List.filter_cons_of_pos hq, List.length_cons]; omega
    | true =>
      rw [List.filter_cons_of_pos hp, List.filter_cons_of_pos (h x List.mem_cons_self hp), List.length_cons, List.length_cons]
      omega
theorem zfl_lt {p q : Nat → Bool} {a : Nat} : ∀ (l : List Nat), (∀ x ∈ l, p x = true → q x = true) → a ∈ l → p a = false → q a = true → (l.filter p).length < (l.filter q).length
  | x :: l, h, ha, hp, hq => by
    have hle := zfl_le l (fun y hy => h y (List.mem_cons_of_mem _ hy))
    by_cases e : a = x
    · subst e
      rw [List.filter_cons_of_neg (by simp [hp]), List.filter_cons_of_pos hq, List.length_cons]
      omega
    · have ha2 : a ∈ l := by
        rcases List.mem_cons.mp ha with h1 | h1
        · exact absurd h1 e
        · exact h1
      have ih := zfl_lt l (fun y hy => h y (List.mem_cons_of_mem _ hy)) ha2 hp hq
      cases hpx : p x with
      | false =>
        rw [List.filter_cons_of_neg (by simp [hpx])]
        refine Nat.lt_of_lt_of_le ih ?_
        cases hqx : q x with
        | false => rw [List.filter_cons_of_neg (by simp [hqx])]; exact Nat.le_refl _
        | true => rw [List.filter_cons_of_pos hqx, List.length_cons]; omega
      | true =>
        rw [List.filter_cons_of_pos hpx, List.filter_cons_of_pos (h x List.mem_cons_self hpx), List.length_cons, List.length_cons]
        omega
theorem zhv_up {v : Nat → Option Nat} {s n : Nat} (hs : s < 6) (h : v s = none) : zhv v < zhv (zvu v s (some n)) := by
  unfold zhv
  refine zfl_lt (a := s) _ (fun x _ hx => ?_) (List.mem_range.mpr hs) (by rw [h]; rfl) (by rw [zvu_same]; rfl)
  by_cases e : x = s
  · subst e; rw [zvu_same]; rfl
  · rw [zvu_ne _ _ e]; exact hx
theorem zhv_up2 {v : Nat → Option Nat} {s n : Nat} : zhv v ≤ zhv (zvu v s (some n)) := by
  unfold zhv
  refine zfl_le _ (fun x _ hx => ?_)
  by_cases e : x = s
  · subst e; rw [zvu_same]; rfl
  · rw [zvu_ne _ _ e]; exact hx
/-- the bound of norms found so far -/
def zbg (v : Nat → Option Nat) : Prop := zbd v (zg (zhv v))
theorem zbg_bd {v : Nat → Option Nat} (h : zbg v) : zbd v 364 := fun s hs n hn => Nat.le_trans (h s hs n hn) (Nat.le_trans (zg_mono _ (zhv_le v) 6 (Nat.le_refl _) (zhv_le v)) (by decide))
theorem zbg_up {S v : Nat → Option Nat} (hV : zV S) (h : zbg v) {s n a : Nat} (hs : s < 6) (ha : a < 3) (h1 : zby S v s (some a) = some n) (h2 : ole (some n) (v s)) : zbg (zvu v s (some n)) := by
  intro t ht m hm
  have hle := zhv_up2 (v := v) (s := s) (n := n)
  have hgm := zg_mono _ (zhv_le v) _ (zhv_le _) hle
  by_cases e : t = s
  · subst e
    rw [zvu_same] at hm
    cases hm
    cases hv : v t with
    | some q =>
      obtain ⟨x, hx, hl⟩ := h2 q hv
      cases hx
      have := h t ht q hv
      omega
    | none =>
      have hlt := zhv_up (n := n) ht hv
      have hb := zby_le hV h ht (fun a ha2 => by cases ha2; exact ha) h1
      have h6 := zhv_le (zvu v t (some n))
      have hk := zg_ok (zhv v) (by omega)
      have hk2 := zg_mono (zhv v + 1) (by omega) _ h6 hlt
      omega
  · rw [zvu_ne _ _ e] at hm
    have := h t ht m hm
    omega

def zit (S : Nat → Option Nat) : Nat → (Nat → Option Nat)
  | 0 => fun _ => none
  | n + 1 => zvu (zit S n) (n % 6) (zmin S (zit S n) (n % 6))
theorem zvu_none {v : Nat → Option Nat} {s : Nat} (h : v s = none) : zvu v s none = v := by
  funext t
  by_cases e : t = s
  · subst e; rw [zvu_same, h]
  · rw [zvu_ne _ _ e]
theorem zit_ok {S : Nat → Option Nat} (hV : zV S) : ∀ n, zdn S (zit S n) ∧ zbg (zit S n)
  | 0 => ⟨fun s _ => ole_none _, fun s _ n h => by cases h⟩
  | n + 1 => by
    obtain ⟨h1, h2⟩ := zit_ok hV n
    have hs : n % 6 < 6 := Nat.mod_lt _ (by decide)
    rw [zit]
    refine ⟨zdn_up hV h1 hs (ole_rf _) (h1 _ hs), ?_⟩
    cases hm : zmin S (zit S n) (n % 6) with
    | none =>
      have h3 := h1 _ hs
      rw [hm] at h3
      have h4 : zit S n (n % 6) = none := by
        cases hz : zit S n (n % 6) with
        | none => rfl
        | some q => obtain ⟨x, hx, -⟩ := h3 q hz; cases hx
      rw [zvu_none h4]
      exact h2
    | some m =>
      obtain ⟨a, ha, hb⟩ := zmin_ex hm
      exact zbg_up hV h2 hs ha hb (by rw [← hm]; exact h1 _ hs)
theorem zit_dn {S : Nat → Option Nat} (hV : zV S) (n t : Nat) : ole (zit S (n + 1) t) (zit S n t) := zdn_low ((zit_ok hV n).1 _ (Nat.mod_lt _ (by decide))) t
theorem zit_dn2 {S : Nat → Option Nat} (hV : zV S) (n t : Nat) : ∀ m, ole (zit S (n + m) t) (zit S n t)
  | 0 => ole_rf _
  | m + 1 => ole_tr (zit_dn hV (n + m) t) (zit_dn2 hV n t m)
def zvl (o : Option Nat) : Nat := match o with
  | none => 365
  | some a => a
def zmu (v : Nat → Option Nat) : Nat := zvl (v 0) + zvl (v 1) + zvl (v 2) + zvl (v 3) + zvl (v 4) + zvl (v 5)
theorem zvl_le {a b : Option Nat} (h : ole a b) (ha : ∀ x, a = some x → x ≤ 364) : zvl a ≤ zvl b := by
  cases b with
  | none =>
    cases a with
    | none => exact Nat.le_refl _
    | some x => have := ha x rfl; show x ≤ 365; omega
  | some y =>
    obtain ⟨x, rfl, hl⟩ := h y rfl
    exact hl
theorem zvl_eq {a b : Option Nat} (h : zvl a = zvl b) (ha : ∀ x, a = some x → x ≤ 364) (hb : ∀ x, b = some x → x ≤ 364) : a = b := by
  cases a with
  | none =>
    cases b with
    | none => rfl
    | some y => have := hb y rfl; have h : 365 = y := h; omega
  | some x =>
    cases b with
    | none => have := ha x rfl; have h : x = 365 := h; omega
    | some y => have h : x = y := h; rw [h]
theorem zmu_le {v w : Nat → Option Nat} (h : ∀ s, s < 6 → ole (w s) (v s)) (hw : zbd w 364) : zmu w ≤ zmu v := by
  have f : ∀ s, s < 6 → zvl (w s) ≤ zvl (v s) := fun s hs => zvl_le (h s hs) (hw s hs)
  have f0 := f 0 (by decide); have f1 := f 1 (by decide); have f2 := f 2 (by decide); have f3 := f 3 (by decide); have f4 := f 4 (by decide); have f5 := f 5 (by decide)
  unfold zmu
  omega
theorem zmu_eq {v w : Nat → Option Nat} (h : ∀ s, s < 6 → ole (w s) (v s)) (hw : zbd w 364) (hv : zbd v 364) (e : zmu w = zmu v) : ∀ s, s < 6 → w s = v s := by
  have f : ∀ s, s < 6 → zvl (w s) ≤ zvl (v s) := fun s hs => zvl_le (h s hs) (hw s hs)
  have f0 := f 0 (by decide); have f1 := f 1 (by decide); have f2 := f 2 (by decide); have f3 := f 3 (by decide); have f4 := f 4 (by decide); have f5 := f 5 (by decide)
  unfold zmu at e
  intro s hs
  refine zvl_eq ?_ (hw s hs) (hv s hs)
  match s, hs with
  | 0, _ => omega
  | 1, _ => omega
  | 2, _ => omega
  | 3, _ => omega
  | 4, _ => omega
  | 5, _ => omega
theorem zit_stop {S : Nat → Option Nat} (hV : zV S) : ∀ (b n : Nat), zmu (zit S n) ≤ b → ∃ n0, ∀ m, n0 ≤ m → ∀ s, s < 6 → zit S m s = zit S n0 s := by
  intro b
  induction b with
  | zero =>
    intro n hn
    refine ⟨n, fun m hm s hs => ?_⟩
    have hle : ∀ t, t < 6 → ole (zit S m t) (zit S n t) := fun t _ => by have := zit_dn2 hV n t (m - n); rw [show n + (m - n) = m by omega] at this; exact this
    have h1 := zmu_le hle (zbg_bd (zit_ok hV m).2)
    exact zmu_eq hle (zbg_bd (zit_ok hV m).2) (zbg_bd (zit_ok hV n).2) (by omega) s hs
  | succ b ih =>
    intro n hn
    by_cases hc : ∀ m, n ≤ m → zmu (zit S m) = zmu (zit S n)
    · refine ⟨n, fun m hm s hs => ?_⟩
      have hle : ∀ t, t < 6 → ole (zit S m t) (zit S n t) := fun t _ => by have := zit_dn2 hV n t (m - n); rw [show n + (m - n) = m by omega] at this; exact this
      exact zmu_eq hle (zbg_bd (zit_ok hV m).2) (zbg_bd (zit_ok hV n).2) (hc m hm) s hs
    · obtain ⟨m, hm⟩ := Classical.not_forall.mp hc
      obtain ⟨hm1, hm2⟩ := Classical.not_imp.mp hm
      have hle : ∀ t, t < 6 → ole (zit S m t) (zit S n t) := fun t _ => by have := zit_dn2 hV n t (m - n); rw [show n + (m - n) = m by omega] at this; exact this
      have h1 := zmu_le hle (zbg_bd (zit_ok hV m).2)
      exact ih m (by omega)
theorem zfix_ex {S : Nat → Option Nat} (hV : zV S) : ∃ N, zfix S N ∧ zbd N 364 := by
  obtain ⟨n0, h⟩ := zit_stop hV _ 0 (Nat.le_refl _)
  refine ⟨zit S n0, fun s hs => ?_, zbg_bd (zit_ok hV n0).2⟩
  have h1 := h (6 * n0 + s + 1) (by omega) s hs
  rw [zit, show (6 * n0 + s) % 6 = s by omega, zvu_same] at h1
  rw [← h1]
  exact zmin_congr hV hs (fun x hx => h (6 * n0 + s) (by omega) x hx)
def zolt (a b : Option Nat) : Bool := match a, b with
  | some x, some y => decide (x < y)
  | _, _ => false
def zrk (N : Nat → Option Nat) (t : Nat) : Nat := ((List.range 6).filter (fun u => zolt (N u) (N t))).length
theorem zrk_lt {N : Nat → Option Nat} {x s a b : Nat} (hx : x < 6) (h1 : N x = some a) (h2 : N s = some b) (h : a < b) : zrk N x < zrk N s := by
  unfold zrk
  refine zfl_lt (a := x) _ (fun u _ hu => ?_) (List.mem_range.mpr hx) (by rw [h1]; exact decide_eq_false (by omega)) (by rw [h1, h2]; exact decide_eq_true h)
  rw [h1] at hu
  rw [h2]
  cases hN : N u with
  | none => rw [hN] at hu; cases hu
  | some c =>
    rw [hN] at hu
    have hu : decide (c < a) = true := hu
    rw [decide_eq_true_iff] at hu
    exact decide_eq_true (by omega)
theorem zrk_le {N : Nat → Option Nat} {s a : Nat} (hs : s < 6) (h : N s = some a) : zrk N s ≤ 5 := by
  have h1 : zrk N s < ((List.range 6).filter (fun _ => true)).length := zfl_lt (a := s) _ (fun _ _ _ => rfl) (List.mem_range.mpr hs) (by rw [h]; exact decide_eq_false (by omega)) rfl
  have h2 : ((List.range 6).filter (fun _ => true)).length ≤ (List.range 6).length := List.length_filter_le _ _
  rw [List.length_range] at h2
  omega
theorem zit_ge {S N : Nat → Option Nat} (hV : zV S) (hN : zfix S N) : ∀ n t, t < 6 → ole (N t) (zit S n t)
  | 0, t, _ => ole_none _
  | n + 1, t, ht => by
    rw [zit]
    by_cases e : t = n % 6
    · rw [e, zvu_same, hN _ (Nat.mod_lt _ (by decide))]
      exact zmin_mono hV (Nat.mod_lt _ (by decide)) (fun x hx => zit_ge hV hN n x hx)
    · rw [zvu_ne _ _ e]; exact zit_ge hV hN n t ht
theorem zit_hit {S N : Nat → Option Nat} (hV : zV S) (hN : zfix S N) : ∀ n t a, t < 6 → N t = some a → zrk N t * 6 + t < n → zit S n t = N t
  | 0, t, a, _, _, h => absurd h (by omega)
  | n + 1, t, a, ht, ha, h => by
    rw [zit]
    by_cases e : t = n % 6
    · rw [← e, zvu_same]
      have hge := zmin_mono hV ht (fun x hx => zit_ge hV hN n x hx)
      rw [← hN t ht] at hge
      refine ole_as ?_ hge
      rw [ha]
      intro y hy
      cases hy
      have hm := hN t ht
      rw [ha] at hm
      obtain ⟨b, hb, hby⟩ := zmin_ex hm.symm
      obtain ⟨r, q, hr, hq, hyq⟩ := zby_some hby
      have hz := hV.1 _ (by omega) r hr
      have hq2 : znorm (zit S n) (zr r) = some q := by
        rw [znorm_congr (v := N) (fun x hx => ?_)]
        · exact hq
        · obtain ⟨c, hc, hl⟩ := znorm_mem hq x hx
          have hx6 := zr_lt hz x hx
          have hrk := zrk_lt hx6 hc ha (by omega)
          exact zit_hit hV hN n x c hx6 hc (by omega)
      obtain ⟨k, hk, hl2⟩ := zmin_ub hb _ (zby_of hr hq2)
      exact ⟨k, hk, by omega⟩
    · rw [zvu_ne _ _ e]
      exact zit_hit hV hN n t a ht ha (by omega)
/-- after six rounds the norms stand -/
theorem zit_fix {S : Nat → Option Nat} (hV : zV S) : zfix S (zit S 36) := by
  obtain ⟨N, hN, -⟩ := zfix_ex hV
  have he : ∀ t, t < 6 → zit S 36 t = N t := fun t ht => by
    cases hn : N t with
    | none =>
      have h := zit_ge hV hN 36 t ht
      rw [hn] at h
      cases hz : zit S 36 t with
      | none => rfl
      | some y => obtain ⟨x, hx, -⟩ := h y hz; cases hx
    | some a =>
      have := zrk_le ht hn
      rw [zit_hit hV hN 36 t a ht hn (by omega), hn]
  intro s hs
  rw [he s hs, hN s hs]
  exact (zmin_congr hV hs he).symm
theorem zit_bd {S : Nat → Option Nat} (hV : zV S) (n : Nat) : zbd (zit S n) 364 := zbg_bd (zit_ok hV n).2
