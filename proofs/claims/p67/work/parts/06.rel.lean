/-! THE ABSTRACT MACHINE, 3: what a state of it stands for -/
/-- stacks -/
def Rs (sp : Nat → Nat) (ρ ad : List Nat) : List AV → List Value → Prop
  | [], [] => True
  | v :: r, V :: R => Rp sp ρ ad v V ∧ Rs sp ρ ad r R
  | _, _ => False
/-- locals -/
def Rl (sp : Nat → Nat) (ρ ad : List Nat) : AL → List (Nat × Value) → Prop
  | [], [] => True
  | v :: r, V :: R => (v.1 = V.1 ∧ Rp sp ρ ad v.2 V.2) ∧ Rl sp ρ ad r R
  | _, _ => False
def Er (sp : Nat → Nat) (dA : Nat → ClassId) (ρ ad : List Nat) (c : AC) (E : va_E) : Prop :=
  (c.1 < 100 ∧ ∃ VS : List Value, E = .inr (c.1, VS) ∧ VS.length = c.2.1 ∧ ∀ (j : Nat) (v : AV), ax_el c.2.2 j = some v → ∃ V, VS[j]? = some V ∧ Rp sp ρ ad v V) ∨
  ((c.1 = 100 ∨ c.1 = 102) ∧ ∃ f : Nat → Int32, E = .inl (dA c.1, c.2.1, .inl f) ∧ ∀ (j : Nat) (v : AV), ax_el c.2.2 j = some v → j < c.2.1 ∧ Rp sp ρ ad v (.int (f j))) ∨
  (c.1 = 101 ∧ ∃ f : Nat → Int64, E = .inl (dA c.1, c.2.1, .inr (.inl f)) ∧ ∀ (j : Nat) (v : AV), ax_el c.2.2 j = some v → j < c.2.1 ∧ Rp sp ρ ad v (.long (f j))) ∨
  ((103 ≤ c.1 ∧ c.1 ≤ 105) ∧ ∃ f : Nat → Option Nat, E = .inl (dA c.1, c.2.1, .inr (.inr (.inr (.inr f)))) ∧ ∀ (j : Nat) (v : AV), ax_el c.2.2 j = some v → j < c.2.1 ∧ Rp sp ρ ad v (va_rf (f j)))
def Hr (sp : Nat → Nat) (dA : Nat → ClassId) (ρ ad : List Nat) (h : AH) (ws : va_W) : Prop := h.1 = ws.length ∧ ad = ws.map (fun q => q.1) ∧ ∀ (k : Nat) (c : AC), ax_hn h k = some c → ∃ q, ws[k]? = some q ∧ Er sp dA ρ ad c q.2
theorem Rs.mono {sp : Nat → Nat} {ρ ρ' ad ad' : List Nat} (h1 : Sb ρ ρ') (h2 : Sb ad ad') : ∀ {st : List AV} {ST : List Value}, Rs sp ρ ad st ST → Rs sp ρ' ad' st ST
  | [], [], _ => trivial
  | _ :: _, _ :: _, h => ⟨h.1.mono h1 h2, Rs.mono h1 h2 h.2⟩
theorem Rl.mono {sp : Nat → Nat} {ρ ρ' ad ad' : List Nat} (h1 : Sb ρ ρ') (h2 : Sb ad ad') : ∀ {lv : AL} {LV : List (Nat × Value)}, Rl sp ρ ad lv LV → Rl sp ρ' ad' lv LV
  | [], [], _ => trivial
  | _ :: _, _ :: _, h => ⟨⟨h.1.1, h.1.2.mono h1 h2⟩, Rl.mono h1 h2 h.2⟩
theorem Er.mono {sp : Nat → Nat} {dA : Nat → ClassId} {ρ ρ' ad ad' : List Nat} (h1 : Sb ρ ρ') (h2 : Sb ad ad') {c : AC} {E : va_E} (h : Er sp dA ρ ad c E) : Er sp dA ρ' ad' c E := by
  rcases h with ⟨a, VS, b, d, e⟩ | ⟨a, f, b, e⟩ | ⟨a, f, b, e⟩ | ⟨a, f, b, e⟩
  · exact Or.inl ⟨a, VS, b, d, fun j v hv => by obtain ⟨V, q1, q2⟩ := e j v hv; exact ⟨V, q1, q2.mono h1 h2⟩⟩
  · exact Or.inr (Or.inl ⟨a, f, b, fun j v hv => ⟨(e j v hv).1, (e j v hv).2.mono h1 h2⟩⟩)
  · exact Or.inr (Or.inr (Or.inl ⟨a, f, b, fun j v hv => ⟨(e j v hv).1, (e j v hv).2.mono h1 h2⟩⟩))
  · exact Or.inr (Or.inr (Or.inr ⟨a, f, b, fun j v hv => ⟨(e j v hv).1, (e j v hv).2.mono h1 h2⟩⟩))
theorem Hr.monoρ {sp : Nat → Nat} {dA : Nat → ClassId} {ρ ρ' ad : List Nat} (h1 : Sb ρ ρ') {h : AH} {ws : va_W} (hh : Hr sp dA ρ ad h ws) : Hr sp dA ρ' ad h ws :=
  ⟨hh.1, hh.2.1, fun k c hk => by obtain ⟨q, e1, e2⟩ := hh.2.2 k c hk; exact ⟨q, e1, e2.mono h1 (Sb.rf ad)⟩⟩
theorem Rs.cons {sp : Nat → Nat} {ρ ad : List Nat} {v : AV} {r : List AV} {ST : List Value} (h : Rs sp ρ ad (v :: r) ST) : ∃ V R, ST = V :: R ∧ Rp sp ρ ad v V ∧ Rs sp ρ ad r R := by
  cases ST with
  | nil => exact h.elim
  | cons V R => exact ⟨V, R, rfl, h.1, h.2⟩
theorem Rs.nil {sp : Nat → Nat} {ρ ad : List Nat} {ST : List Value} (h : Rs sp ρ ad [] ST) : ST = [] := by
  cases ST with
  | nil => rfl
  | cons V R => exact h.elim
theorem Rs.app {sp : Nat → Nat} {ρ ad : List Nat} : ∀ {a b : List AV} {A B : List Value}, Rs sp ρ ad a A → Rs sp ρ ad b B → Rs sp ρ ad (a ++ b) (A ++ B)
  | [], _, [], _, _, h => h
  | _ :: _, _, _ :: _, _, h1, h2 => ⟨h1.1, Rs.app h1.2 h2⟩
theorem Rp.tI {sp : Nat → Nat} {ρ ad : List Nat} {v : AV} {V : Value} (h : Rp sp ρ ad v V) (ht : ax_tI v = true) : ∃ x : Int32, V = .int x := by
  obtain ⟨t, n⟩ := v
  unfold ax_tI at ht
  match t, h with
  | 0, h => exact ⟨_, h⟩
  | 4, ⟨z, _, e⟩ => exact ⟨_, e⟩
  | 1, _ => cases ht
  | 2, _ => cases ht
  | 3, _ => cases ht
  | 5, _ => cases ht
  | 6, _ => cases ht
  | 7, _ => cases ht
theorem Rp.tL {sp : Nat → Nat} {ρ ad : List Nat} {v : AV} {V : Value} (h : Rp sp ρ ad v V) (ht : ax_tL v = true) : ∃ x : Int64, V = .long x := by
  obtain ⟨t, n⟩ := v
  unfold ax_tL at ht
  match t, h with
  | 1, h => exact ⟨_, h⟩
  | 5, ⟨z, _, e⟩ => exact ⟨_, e⟩
  | 0, _ => cases ht
  | 2, _ => cases ht
  | 3, _ => cases ht
  | 4, _ => cases ht
  | 6, _ => cases ht
  | 7, _ => cases ht
theorem Rp.tR {sp : Nat → Nat} {ρ ad : List Nat} {v : AV} {V : Value} (h : Rp sp ρ ad v V) (ht : ax_tR v = true) : ∃ a : Nat, V = .ref a := by
  obtain ⟨t, n⟩ := v
  unfold ax_tR at ht
  match t, h with
  | 2, ⟨a, _, e⟩ => exact ⟨a, e⟩
  | 6, h => exact ⟨_, h⟩
  | 0, _ => cases ht
  | 1, _ => cases ht
  | 3, _ => cases ht
  | 4, _ => cases ht
  | 5, _ => cases ht
  | 7, _ => cases ht
theorem Rp.cat {sp : Nat → Nat} {ρ ad : List Nat} {v : AV} {V : Value} (h : Rp sp ρ ad v V) : V.category = if ax_c2 v = true then 2 else 1 := by
  obtain ⟨t, n⟩ := v
  unfold ax_c2
  match t, h with
  | 0, h => cases h; rfl
  | 1, h => cases h; rfl
  | 2, ⟨a, _, e⟩ => cases e; rfl
  | 3, h => cases h; rfl
  | 4, ⟨z, _, e⟩ => cases e; rfl
  | 5, ⟨z, _, e⟩ => cases e; rfl
  | 6, h => cases h; rfl
  | 7, h => exact h
theorem Rp.cat1 {sp : Nat → Nat} {ρ ad : List Nat} {v : AV} {V : Value} (h : Rp sp ρ ad v V) (hc : ax_c2 v = false) : V.category = 1 := by rw [h.cat, hc]; rfl
theorem Rp.cat2 {sp : Nat → Nat} {ρ ad : List Nat} {v : AV} {V : Value} (h : Rp sp ρ ad v V) (hc : ax_c2 v = true) : V.category = 2 := by rw [h.cat, hc]; rfl
/-- a local that is found -/
theorem ax_lk_has {sp : Nat → Nat} {ρ ad : List Nat} {i : Nat} {v : AV} : ∀ {lv : AL} {LV : List (Nat × Value)}, Rl sp ρ ad lv LV → ax_lk lv i = some v → ∃ V, (i, V) ∈ LV ∧ Rp sp ρ ad v V
  | [], [], _, hk => by cases hk
  | q :: r, V :: R, h, hk => by
    have hk : (bif Nat.beq q.1 i then some q.2 else ax_lk r i) = some v := hk
    cases hb : Nat.beq q.1 i with
    | true =>
      rw [hb] at hk
      cases hk
      have e : q.1 = i := Nat.eq_of_beq_eq_true hb
      exact ⟨V.2, by rw [← e, h.1.1]; exact List.mem_cons_self, h.1.2⟩
    | false =>
      rw [hb] at hk
      obtain ⟨V', m1, m2⟩ := ax_lk_has h.2 hk
      exact ⟨V', List.mem_cons_of_mem _ m1, m2⟩
theorem ax_flt_eq {β : Type} (keep : Nat × AV → Bool) : ∀ (lv : AL) (k : AL → β), ax_flt keep lv k = k (lv.filter keep)
  | [], _ => rfl
  | q :: r, k => by
    have e : ax_flt keep (q :: r) k = ax_flt keep r (fun t => bif keep q then k (q :: t) else k t) := rfl
    rw [e, ax_flt_eq keep r, List.filter_cons]
    cases keep q <;> rfl
theorem nbeq (a b : Nat) : Nat.beq a b = (a == b) := by rw [Bool.eq_iff_iff, beq_iff_eq, Nat.beq_eq]
theorem Rl.flt1 {sp : Nat → Nat} {ρ ad : List Nat} {i : Nat} : ∀ {lv : AL} {LV : List (Nat × Value)}, Rl sp ρ ad lv LV → Rl sp ρ ad (lv.filter (ax_k1 i)) (LV.filter (fun q => !(q.1 == i) && !(q.1 + 1 == i && q.2.category == 2)))
  | [], [], _ => trivial
  | q :: r, V :: R, h => by
    have e : ax_k1 i q = (!(V.1 == i) && !(V.1 + 1 == i && V.2.category == 2)) := by
      unfold ax_k1
      rw [h.1.2.cat, ← h.1.1, nbeq, nbeq]
      cases ax_c2 q.2 <;> rfl
    rw [List.filter_cons, List.filter_cons, e]
    cases (!(V.1 == i) && !(V.1 + 1 == i && V.2.category == 2))
    · exact Rl.flt1 h.2
    · exact ⟨h.1, Rl.flt1 h.2⟩
theorem Rl.flt2 {sp : Nat → Nat} {ρ ad : List Nat} {i : Nat} : ∀ {lv : AL} {LV : List (Nat × Value)}, Rl sp ρ ad lv LV → Rl sp ρ ad (lv.filter (ax_k2 i)) (LV.filter (fun q => !(q.1 == i) && (!(q.1 == i + 1) && !(q.1 + 1 == i && q.2.category == 2))))
  | [], [], _ => trivial
  | q :: r, V :: R, h => by
    have e : ax_k2 i q = (!(V.1 == i) && (!(V.1 == i + 1) && !(V.1 + 1 == i && V.2.category == 2))) := by
      unfold ax_k2
      rw [h.1.2.cat, ← h.1.1, nbeq, nbeq, nbeq]
      cases ax_c2 q.2 <;> rfl
    rw [List.filter_cons, List.filter_cons, e]
    cases (!(V.1 == i) && (!(V.1 == i + 1) && !(V.1 + 1 == i && V.2.category == 2)))
    · exact Rl.flt2 h.2
    · exact ⟨h.1, Rl.flt2 h.2⟩
theorem Rl.locs {sp : Nat → Nat} {ρ ad : List Nat} : ∀ {as : List AV} {VS : List Value} (i : Nat), Rs sp ρ ad as VS → Rl sp ρ ad (ax_locs i as) (lv_args i VS)
  | [], [], _, _ => trivial
  | v :: r, V :: R, i, h => by
    refine ⟨⟨rfl, h.1⟩, ?_⟩
    have e : (if V.category = 2 then i + 2 else i + 1) = (bif ax_c2 v then i + 2 else i + 1) := by
      rw [h.1.cat]
      cases ax_c2 v <;> rfl
    show Rl sp ρ ad (ax_locs (bif ax_c2 v then i + 2 else i + 1) r) (lv_args (if V.category = 2 then i + 2 else i + 1) R)
    rw [e]
    exact Rl.locs _ h.2
theorem Rs.wt {sp : Nat → Nat} {ρ ad : List Nat} : ∀ {as : List AV} {VS : List Value}, Rs sp ρ ad as VS → (VS.map fun v => v.category).sum = ax_wt as
  | [], [], _ => rfl
  | v :: r, V :: R, h => by
    have e : V.category = (bif ax_c2 v then 2 else 1) := by
      rw [h.1.cat]
      cases ax_c2 v <;> rfl
    show (V.category :: R.map fun v => v.category).sum = (bif ax_c2 v then 2 else 1) + ax_wt r
    rw [List.sum_cons, Rs.wt h.2, e]
theorem lg_len : ∀ (VS : List Value), (lg_sl VS).length = (VS.map fun v => v.category).sum
  | [] => rfl
  | V :: R => by
    have hc := lv_cat V
    have e : lg_sl (V :: R) = (if V.category = 2 then [Slot.val V, Slot.second] else [Slot.val V]) ++ lg_sl R := rfl
    rw [e, List.length_append, lg_len R, List.map_cons, List.sum_cons]
    rcases hc with h | h
    · rw [h]; rfl
    · rw [h]; rfl
/-- numbers of ints -/
theorem ax_nv_ok {sp : Nat → Nat} {ρ ad : List Nat} {σ : AS} (hS : St ρ σ) {v : AV} {V : Value} (h : Rp sp ρ ad v V) : Rp sp ρ ad (ax_nv σ v) V := by
  unfold ax_nv
  cases hb : Nat.beq v.1 4 with
  | false => exact h
  | true =>
    obtain ⟨t, k⟩ := v
    have ht : t = 4 := Nat.eq_of_beq_eq_true hb
    subst ht
    rw [ax_nth_eq]
    obtain ⟨z, hz, e⟩ := h
    obtain ⟨q, hq, h1, h2⟩ := hS.2 k z hz
    show Rp sp ρ ad (match σ[k]? with | some q => bif Nat.beq q.1 q.2 then (0, (q.1 + 9223372036854775808) % 4294967296) else (4, k) | none => (4, k)) V
    rw [hq]
    show Rp sp ρ ad (bif Nat.beq q.1 q.2 then (0, (q.1 + 9223372036854775808) % 4294967296) else (4, k)) V
    cases hb2 : Nat.beq q.1 q.2 with
    | false => exact ⟨z, hz, e⟩
    | true =>
      have e2 : q.1 = q.2 := Nat.eq_of_beq_eq_true hb2
      show V = .int (nI ((q.1 + 9223372036854775808) % 4294967296))
      rw [nI_mod, e, show z = q.1 by omega]
theorem zI_nI {n : Nat} (h : n < 4294967296) : zI (nI n) = ax_bi n := by
  have h1 := zI_cast (nI n)
  have h2 := nI_b h
  omega
theorem zI_z {z : Nat} (h1 : 9223372034707292160 ≤ z) (h2 : z ≤ 9223372039002259455) : zI (nI (z + 9223372036854775808)) = z := by
  have h3 := zI_cast (nI (z + 9223372036854775808))
  have h4 := nI_z h1 h2
  omega
theorem zL_lN {n : Nat} (h : n < 18446744073709551616) : zL (lN n) = ax_bl n := by
  have h1 := zL_cast (lN n)
  have h2 := lN_b h
  omega
theorem zL_z {z : Nat} (h2 : z ≤ 18446744073709551615) : zL (lN (z + 9223372036854775808)) = z := by
  have h3 := zL_cast (lN (z + 9223372036854775808))
  have h4 := lN_z h2
  omega
/-- the range of an int; for an unknown: its kept value is that int's -/
theorem ax_rI_ok {sp : Nat → Nat} {ρ ad : List Nat} {σ : AS} (hS : St ρ σ) {v : AV} {V : Value} (h : Rp sp ρ ad v V) {q : Nat × Nat} (hq : ax_rI σ v = some q) : ∃ x : Int32, V = .int x ∧ q.1 ≤ zI x ∧ zI x ≤ q.2 ∧ (v.1 = 4 → ρ[v.2]? = some (zI x)) := by
  unfold ax_rI at hq
  cases hb : Nat.beq v.1 0 with
  | true =>
    rw [hb] at hq
    obtain ⟨h1, h2⟩ := gd_s hq
    obtain ⟨t, n⟩ := v
    have ht : t = 0 := Nat.eq_of_beq_eq_true hb
    subst ht
    cases h2
    have hn : n < 4294967296 := Nat.le_of_ble_eq_true h1
    have e := zI_nI hn
    exact ⟨nI n, h, by rw [e]; exact Nat.le_refl _, by rw [e]; exact Nat.le_refl _, fun q => by cases q⟩
  | false =>
    rw [hb] at hq
    obtain ⟨h1, h2⟩ := gd_s (b := Nat.beq v.1 4) hq
    obtain ⟨t, k⟩ := v
    have ht : t = 4 := Nat.eq_of_beq_eq_true h1
    subst ht
    obtain ⟨q', hq', h3⟩ := ob_s h2
    obtain ⟨h4, h5⟩ := gd_s h3
    cases h5
    rw [Bool.and_eq_true] at h4
    have b1 := Nat.le_of_ble_eq_true h4.1
    have b2 := Nat.le_of_ble_eq_true h4.2
    obtain ⟨z, hz, e⟩ := h
    rw [ax_nth_eq] at hq'
    obtain ⟨q2, e1, e2, e3⟩ := hS.2 k z hz
    cases hq'.symm.trans e1
    have ez := zI_z (z := z) (by omega) (by omega)
    exact ⟨_, e, by rw [ez]; exact e2, by rw [ez]; exact e3, fun _ => by rw [ez]; exact hz⟩
theorem ax_rL_ok {sp : Nat → Nat} {ρ ad : List Nat} {σ : AS} (hS : St ρ σ) {v : AV} {V : Value} (h : Rp sp ρ ad v V) {q : Nat × Nat} (hq : ax_rL σ v = some q) : ∃ x : Int64, V = .long x ∧ q.1 ≤ zL x ∧ zL x ≤ q.2 ∧ (v.1 = 5 → ρ[v.2]? = some (zL x)) := by
  unfold ax_rL at hq
  cases hb : Nat.beq v.1 1 with
  | true =>
    rw [hb] at hq
    obtain ⟨h1, h2⟩ := gd_s hq
    obtain ⟨t, n⟩ := v
    have ht : t = 1 := Nat.eq_of_beq_eq_true hb
    subst ht
    cases h2
    have hn : n < 18446744073709551616 := Nat.le_of_ble_eq_true h1
    have e := zL_lN hn
    exact ⟨lN n, h, by rw [e]; exact Nat.le_refl _, by rw [e]; exact Nat.le_refl _, fun q => by cases q⟩
  | false =>
    rw [hb] at hq
    obtain ⟨h1, h2⟩ := gd_s (b := Nat.beq v.1 5) hq
    obtain ⟨t, k⟩ := v
    have ht : t = 5 := Nat.eq_of_beq_eq_true h1
    subst ht
    obtain ⟨q', hq', h3⟩ := ob_s h2
    obtain ⟨h4, h5⟩ := gd_s h3
    cases h5
    have b2 := Nat.le_of_ble_eq_true h4
    obtain ⟨z, hz, e⟩ := h
    rw [ax_nth_eq] at hq'
    obtain ⟨q2, e1, e2, e3⟩ := hS.2 k z hz
    cases hq'.symm.trans e1
    have ez := zL_z (z := z) (by omega)
    exact ⟨_, e, by rw [ez]; exact e2, by rw [ez]; exact e3, fun _ => by rw [ez]; exact hz⟩
