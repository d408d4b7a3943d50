/-! LINEAR FORMS over the unknowns -/
theorem bb_and' {a b : Bool} (h : (a && b) = true) : a = true ∧ b = true := by cases a <;> cases b <;> first | exact ⟨rfl, rfl⟩ | cases h
def zv (z : Nat) : Int := (z : Int) - 9223372036854775808
def Lt (ρ : List Nat) : List (Nat × Int) → Int → Prop
  | [], x => x = 0
  | q :: r, x => ∃ (z : Nat) (y : Int), ρ[q.1]? = some z ∧ Lt ρ r y ∧ x = q.2 * zv z + y
def Lv (ρ : List Nat) (f : LF) (x : Int) : Prop := ∃ y, Lt ρ f.2 y ∧ x = f.1 + y
theorem Lt.mono {ρ ρ' : List Nat} (h : Sb ρ ρ') : ∀ {l : List (Nat × Int)} {x : Int}, Lt ρ l x → Lt ρ' l x
  | [], _, e => e
  | _ :: _, _, ⟨z, y, a, b, c⟩ => ⟨z, y, h _ _ a, Lt.mono h b, c⟩
theorem Lv.mono {ρ ρ' : List Nat} (h : Sb ρ ρ') {f : LF} {x : Int} (q : Lv ρ f x) : Lv ρ' f x := by
  obtain ⟨y, a, b⟩ := q
  exact ⟨y, a.mono h, b⟩
theorem Lt.fn {ρ : List Nat} : ∀ {l : List (Nat × Int)} {x y : Int}, Lt ρ l x → Lt ρ l y → x = y
  | [], _, _, a, b => by have a : _ = 0 := a; have b : _ = 0 := b; rw [a, b]
  | _ :: _, _, _, ⟨z, u, a1, a2, a3⟩, ⟨z', u', b1, b2, b3⟩ => by
    rw [a1] at b1
    cases b1
    rw [a3, b3, Lt.fn a2 b2]
theorem Lv.fn {ρ : List Nat} {f : LF} {x y : Int} (a : Lv ρ f x) (b : Lv ρ f y) : x = y := by
  obtain ⟨u, a1, a2⟩ := a
  obtain ⟨v, b1, b2⟩ := b
  rw [a2, b2, a1.fn b1]
/-- a whole number, made plain -/
noncomputable def i_fc {β : Type} (i : Int) (k : Int → β) : β := Int.rec (motive := fun _ => β) (fun n => ax_fc n (fun m => k (Int.ofNat m))) (fun n => ax_fc n (fun m => k (Int.negSucc m))) i
theorem i_fc_eq {β : Type} (i : Int) (k : Int → β) : i_fc i k = k i := by
  cases i with
  | ofNat n => exact ax_fc_eq n (fun m => k (Int.ofNat m))
  | negSucc n => exact ax_fc_eq n (fun m => k (Int.negSucc m))
noncomputable def i_z (i : Int) : Bool := Int.rec (motive := fun _ => Bool) (fun n => Nat.beq n 0) (fun _ => false) i
noncomputable def i_nn (i : Int) : Bool := Int.rec (motive := fun _ => Bool) (fun _ => true) (fun _ => false) i
theorem i_z_ok {i : Int} (h : i_z i = true) : i = 0 := by
  cases i with
  | ofNat n =>
    have : n = 0 := Nat.eq_of_beq_eq_true h
    subst this
    rfl
  | negSucc n => cases h
theorem i_nn_ok {i : Int} (h : i_nn i = true) : 0 ≤ i := by
  cases i with
  | ofNat n => exact Int.natCast_nonneg n
  | negSucc n => cases h
theorem i_nn_no {i : Int} (h : i_nn i = false) : i < 0 := by
  cases i with
  | ofNat n => cases h
  | negSucc n => exact Int.negSucc_lt_zero n
noncomputable def lf_ins {β : Type} (k : Nat) (a : Int) (l : List (Nat × Int)) : (List (Nat × Int) → β) → β := List.rec (motive := fun _ => (List (Nat × Int) → β) → β) (fun kk => bif i_z a then kk [] else kk [(k, a)]) (fun q t ih kk => bif Nat.beq q.1 k then i_fc (q.2 + a) (fun b => bif i_z b then kk t else kk ((k, b) :: t)) else bif Nat.blt k q.1 then kk ((k, a) :: q :: t) else ih (fun r => kk (q :: r))) l
theorem lf_ins_ok {β : Type} (k : Nat) (a : Int) : ∀ (l : List (Nat × Int)) (kk : List (Nat × Int) → β), ∃ r, lf_ins k a l kk = kk r ∧ ∀ (ρ : List Nat) (x : Int) (z : Nat), Lt ρ l x → ρ[k]? = some z → Lt ρ r (a * zv z + x)
  | [], kk => by
    show ∃ r, (bif i_z a then kk [] else kk [(k, a)]) = kk r ∧ _
    cases h : i_z a with
    | true => exact ⟨[], rfl, fun ρ x z hx hz => by have hx : x = 0 := hx; show _ = (0 : Int); rw [i_z_ok h, hx]; omega⟩
    | false => exact ⟨[(k, a)], rfl, fun ρ x z hx hz => ⟨z, 0, hz, rfl, by have hx : x = 0 := hx; rw [hx]⟩⟩
  | q :: t, kk => by
    show ∃ r, (bif Nat.beq q.1 k then i_fc (q.2 + a) (fun b => bif i_z b then kk t else kk ((k, b) :: t)) else bif Nat.blt k q.1 then kk ((k, a) :: q :: t) else lf_ins k a t (fun r => kk (q :: r))) = kk r ∧ _
    cases h : Nat.beq q.1 k with
    | true =>
      have e : q.1 = k := Nat.eq_of_beq_eq_true h
      show ∃ r, i_fc (q.2 + a) (fun b => bif i_z b then kk t else kk ((k, b) :: t)) = kk r ∧ _
      rw [i_fc_eq]
      have KK : ∀ (ρ : List Nat) (x : Int) (z : Nat), Lt ρ (q :: t) x → ρ[k]? = some z → ∃ y, Lt ρ t y ∧ a * zv z + x = (q.2 + a) * zv z + y := fun ρ x z hx hz => by
        obtain ⟨z', y, a1, a2, a3⟩ := hx
        rw [e, hz] at a1
        cases a1
        exact ⟨y, a2, by rw [a3, Int.add_mul]; omega⟩
      cases h2 : i_z (q.2 + a) with
      | true => exact ⟨t, rfl, fun ρ x z hx hz => by
          obtain ⟨y, k1, k2⟩ := KK ρ x z hx hz
          rw [k2, i_z_ok h2, Int.zero_mul, Int.zero_add]
          exact k1⟩
      | false => exact ⟨(k, q.2 + a) :: t, rfl, fun ρ x z hx hz => by
          obtain ⟨y, k1, k2⟩ := KK ρ x z hx hz
          exact ⟨z, y, hz, k1, k2⟩⟩
    | false =>
      show ∃ r, (bif Nat.blt k q.1 then kk ((k, a) :: q :: t) else lf_ins k a t (fun r => kk (q :: r))) = kk r ∧ _
      cases h2 : Nat.blt k q.1 with
      | true => exact ⟨(k, a) :: q :: t, rfl, fun ρ x z hx hz => ⟨z, x, hz, hx, rfl⟩⟩
      | false =>
        obtain ⟨r, e1, e2⟩ := lf_ins_ok k a t (fun r => kk (q :: r))
        exact ⟨q :: r, e1, fun ρ x z hx hz => by
          obtain ⟨z', y, a1, a2, a3⟩ := hx
          exact ⟨z', _, a1, e2 ρ y z a2 hz, by rw [a3]; omega⟩⟩
/-- c times the terms l, and m -/
noncomputable def lf_acc {β : Type} (c : Int) (l : List (Nat × Int)) : List (Nat × Int) → (List (Nat × Int) → β) → β := List.rec (motive := fun _ => List (Nat × Int) → (List (Nat × Int) → β) → β) (fun m kk => kk m) (fun q _ ih m kk => i_fc (c * q.2) (fun a => lf_ins q.1 a m (fun m' => ih m' kk))) l
theorem lf_acc_ok {β : Type} (c : Int) : ∀ (l m : List (Nat × Int)) (kk : List (Nat × Int) → β), ∃ r, lf_acc c l m kk = kk r ∧ ∀ (ρ : List Nat) (x y : Int), Lt ρ l x → Lt ρ m y → Lt ρ r (c * x + y)
  | [], m, kk => ⟨m, rfl, fun ρ x y hx hy => by have hx : x = 0 := hx; rw [hx, Int.mul_zero, Int.zero_add]; exact hy⟩
  | q :: t, m, kk => by
    show ∃ r, i_fc (c * q.2) (fun a => lf_ins q.1 a m (fun m' => lf_acc c t m' kk)) = kk r ∧ _
    rw [i_fc_eq]
    obtain ⟨m', e1, e2⟩ := lf_ins_ok q.1 (c * q.2) m (fun m' => lf_acc c t m' kk)
    obtain ⟨r, e3, e4⟩ := lf_acc_ok c t m' kk
    refine ⟨r, e1.trans e3, fun ρ x y hx hy => ?_⟩
    obtain ⟨z, u, a1, a2, a3⟩ := hx
    have := e4 ρ u _ a2 (e2 ρ y z hy a1)
    rw [a3, Int.mul_add, ← Int.mul_assoc]
    rw [show c * q.2 * zv z + c * u + y = c * u + (c * q.2 * zv z + y) by omega]
    exact this
/-- c f + d g -/
noncomputable def lf_cmb {β : Type} (c : Int) (f : LF) (d : Int) (g : LF) (kk : LF → β) : β := lf_acc c f.2 [] (fun m => lf_acc d g.2 m (fun r => i_fc (c * f.1 + d * g.1) (fun n => kk (n, r))))
theorem lf_cmb_ok {β : Type} (c : Int) (f : LF) (d : Int) (g : LF) (kk : LF → β) : ∃ r, lf_cmb c f d g kk = kk r ∧ ∀ (ρ : List Nat) (x y : Int), Lv ρ f x → Lv ρ g y → Lv ρ r (c * x + d * y) := by
  unfold lf_cmb
  obtain ⟨m, e1, e2⟩ := lf_acc_ok c f.2 [] (fun m => lf_acc d g.2 m (fun r => i_fc (c * f.1 + d * g.1) (fun n => kk (n, r))))
  obtain ⟨r, e3, e4⟩ := lf_acc_ok d g.2 m (fun r => i_fc (c * f.1 + d * g.1) (fun n => kk (n, r)))
  rw [i_fc_eq] at e3
  refine ⟨(c * f.1 + d * g.1, r), e1.trans e3, fun ρ x y hx hy => ?_⟩
  obtain ⟨u, a1, a2⟩ := hx
  obtain ⟨v, b1, b2⟩ := hy
  refine ⟨_, e4 ρ v _ b1 (e2 ρ u 0 a1 rfl), ?_⟩
  rw [a2, b2, Int.mul_add, Int.mul_add]
  omega
/-- the least that a form can be -/
noncomputable def lf_lot (σ : AS) (l : List (Nat × Int)) : Option Int := List.rec (motive := fun _ => Option Int) (some 0) (fun q _ ih => ob ih (fun s => ob (ax_nth σ q.1) (fun r => some (bif i_nn q.2 then q.2 * zv r.1 + s else q.2 * zv r.2 + s)))) l
theorem lf_lot_ok {ρ : List Nat} {σ : AS} (hS : St ρ σ) : ∀ {l : List (Nat × Int)} {n x : Int}, lf_lot σ l = some n → Lt ρ l x → n ≤ x
  | [], n, x, h, hx => by
    have h : some (0 : Int) = some n := h
    cases h
    have hx : x = 0 := hx
    omega
  | q :: t, n, x, h, hx => by
    have h : ob (lf_lot σ t) (fun s => ob (ax_nth σ q.1) (fun r => some (bif i_nn q.2 then q.2 * zv r.1 + s else q.2 * zv r.2 + s))) = some n := h
    obtain ⟨s, e1, h1⟩ := ob_s h
    obtain ⟨r, e2, h2⟩ := ob_s h1
    obtain ⟨z, y, a1, a2, a3⟩ := hx
    have i1 := lf_lot_ok hS e1 a2
    obtain ⟨r', b1, b2, b3⟩ := hS.2 _ z a1
    rw [ax_nth_eq, b1] at e2
    cases e2
    have h3 := Option.some.inj h2
    cases hn : i_nn q.2 with
    | true =>
      rw [hn] at h3
      have h3 : q.2 * zv r.1 + s = n := h3
      have hm := Int.mul_le_mul_of_nonneg_left (show zv r.1 ≤ zv z by unfold zv; omega) (i_nn_ok hn)
      omega
    | false =>
      rw [hn] at h3
      have h3 : q.2 * zv r.2 + s = n := h3
      have hm := Int.mul_le_mul_of_nonpos_left (Int.le_of_lt (i_nn_no hn)) (show zv z ≤ zv r.2 by unfold zv; omega)
      omega
noncomputable def lf_nn (σ : AS) (f : LF) : Bool := match lf_lot σ f.2 with
  | some n => i_nn (f.1 + n)
  | none => false
theorem lf_nn_ok {ρ : List Nat} {σ : AS} (hS : St ρ σ) {f : LF} {x : Int} (h : lf_nn σ f = true) (hx : Lv ρ f x) : 0 ≤ x := by
  unfold lf_nn at h
  cases e : lf_lot σ f.2 with
  | none => rw [e] at h; cases h
  | some n =>
    rw [e] at h
    obtain ⟨y, a, b⟩ := hx
    have h1 := lf_lot_ok hS e a
    have h2 := i_nn_ok (i := f.1 + n) h
    omega
/-- a form is shown to be 0 or more: by the ranges, by a fact, by two -/
def Fk (ρ : List Nat) (fc : List LF) : Prop := ∀ f ∈ fc, ∃ x, Lv ρ f x ∧ 0 ≤ x
noncomputable def lf_p1 (σ : AS) (fc : List LF) (f : LF) : Bool := lf_nn σ f || fc.any (fun g => lf_cmb 1 f (-1) g (lf_nn σ))
noncomputable def lf_pv (σ : AS) (fc : List LF) (f : LF) : Bool := lf_p1 σ fc f || fc.any (fun g => lf_cmb 1 f (-1) g (lf_p1 σ fc))
theorem lf_p1_ok {ρ : List Nat} {σ : AS} (hS : St ρ σ) {fc : List LF} (hF : Fk ρ fc) {f : LF} {x : Int} (h : lf_p1 σ fc f = true) (hx : Lv ρ f x) : 0 ≤ x := by
  rcases (Bool.or_eq_true _ _).mp h with h1 | h1
  · exact lf_nn_ok hS h1 hx
  · obtain ⟨g, hg, h2⟩ := List.any_eq_true.mp h1
    obtain ⟨y, hy, y0⟩ := hF g hg
    obtain ⟨r, e1, e2⟩ := lf_cmb_ok 1 f (-1) g (lf_nn σ)
    rw [e1] at h2
    have := lf_nn_ok hS h2 (e2 ρ x y hx hy)
    omega
theorem lf_pv_ok {ρ : List Nat} {σ : AS} (hS : St ρ σ) {fc : List LF} (hF : Fk ρ fc) {f : LF} {x : Int} (h : lf_pv σ fc f = true) (hx : Lv ρ f x) : 0 ≤ x := by
  rcases (Bool.or_eq_true _ _).mp h with h1 | h1
  · exact lf_p1_ok hS hF h1 hx
  · obtain ⟨g, hg, h2⟩ := List.any_eq_true.mp h1
    obtain ⟨y, hy, y0⟩ := hF g hg
    obtain ⟨r, e1, e2⟩ := lf_cmb_ok 1 f (-1) g (lf_p1 σ fc)
    rw [e1] at h2
    have := lf_p1_ok hS hF h2 (e2 ρ x y hx hy)
    omega
/-- forms that are the same -/
noncomputable def i_eq (a b : Int) : Bool := i_z (a - b)
theorem i_eq_ok {a b : Int} (h : i_eq a b = true) : a = b := by
  have := i_z_ok h
  omega
noncomputable def lt_eq (l : List (Nat × Int)) : List (Nat × Int) → Bool := List.rec (motive := fun _ => List (Nat × Int) → Bool) (fun m => List.rec (motive := fun _ => Bool) true (fun _ _ _ => false) m) (fun q _ ih m => List.rec (motive := fun _ => Bool) false (fun q' t' _ => Nat.beq q.1 q'.1 && (i_eq q.2 q'.2 && ih t')) m) l
theorem lt_eq_ok : ∀ {l m : List (Nat × Int)}, lt_eq l m = true → l = m
  | [], [], _ => rfl
  | [], _ :: _, h => by cases h
  | _ :: _, [], h => by cases h
  | q :: t, q' :: t', h => by
    have h : (Nat.beq q.1 q'.1 && (i_eq q.2 q'.2 && lt_eq t t')) = true := h
    have a := bb_and' h
    have b := bb_and' a.2
    obtain ⟨q1, q2⟩ := q
    obtain ⟨r1, r2⟩ := q'
    have e1 : q1 = r1 := Nat.eq_of_beq_eq_true a.1
    have e2 : q2 = r2 := i_eq_ok b.1
    have e3 : t = t' := lt_eq_ok b.2
    subst e1
    subst e2
    subst e3
    rfl
noncomputable def lf_eq (f g : LF) : Bool := i_eq f.1 g.1 && lt_eq f.2 g.2
theorem lf_eq_ok {f g : LF} (h : lf_eq f g = true) : f = g := by
  have a := bb_and' h
  obtain ⟨f1, f2⟩ := f
  obtain ⟨g1, g2⟩ := g
  have e1 : f1 = g1 := i_eq_ok a.1
  have e2 : f2 = g2 := lt_eq_ok a.2
  subst e1
  subst e2
  rfl
