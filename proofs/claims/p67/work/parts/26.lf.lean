/-! LINEAR FORMS over unknowns: a number and terms, by the unknowns' numbers; ranges of the unknowns -/
abbrev LF : Type := Int × List (Nat × Int)
abbrev SG : Type := List (Int × Int)
def Lt (ρ : List Int) : List (Nat × Int) → Int → Prop
  | [], x => x = 0
  | q :: r, x => ∃ (z y : Int), ρ[q.1]? = some z ∧ Lt ρ r y ∧ x = q.2 * z + y
def Lv (ρ : List Int) (f : LF) (x : Int) : Prop := ∃ y, Lt ρ f.2 y ∧ x = f.1 + y
theorem Lt.mono {ρ ρ' : List Int} (h : Sb ρ ρ') : ∀ {l : List (Nat × Int)} {x : Int}, Lt ρ l x → Lt ρ' l x
  | [], _, e => e
  | _ :: _, _, ⟨z, y, a, b, c⟩ => ⟨z, y, h _ _ a, Lt.mono h b, c⟩
theorem Lv.mono {ρ ρ' : List Int} (h : Sb ρ ρ') {f : LF} {x : Int} (q : Lv ρ f x) : Lv ρ' f x := by
  obtain ⟨y, a, b⟩ := q
  exact ⟨y, a.mono h, b⟩
theorem Lt.fn {ρ : List Int} : ∀ {l : List (Nat × Int)} {x y : Int}, Lt ρ l x → Lt ρ l y → x = y
  | [], x, y, a, b => by have a : x = 0 := a; have b : y = 0 := b; rw [a, b]
  | _ :: _, _, _, ⟨z, u, a1, a2, a3⟩, ⟨z', u', b1, b2, b3⟩ => by
    rw [a1] at b1
    cases b1
    rw [a3, b3, Lt.fn a2 b2]
theorem Lv.fn {ρ : List Int} {f : LF} {x y : Int} (a : Lv ρ f x) (b : Lv ρ f y) : x = y := by
  obtain ⟨u, a1, a2⟩ := a
  obtain ⟨v, b1, b2⟩ := b
  rw [a2, b2, a1.fn b1]
theorem Lv.c (ρ : List Int) (n : Int) : Lv ρ (n, []) n := ⟨0, rfl, by omega⟩
theorem Lv.v {ρ : List Int} {k : Nat} {z : Int} (h : ρ[k]? = some z) : Lv ρ (0, [(k, 1)]) z := ⟨z, ⟨z, 0, h, rfl, by omega⟩, by omega⟩
theorem Lv.cn {ρ : List Int} {n x : Int} (h : Lv ρ (n, []) x) : x = n := h.fn (Lv.c ρ n)
/-- a whole number, made plain -/
noncomputable def i_fc {β : Type} (i : Int) (k : Int → β) : β := Int.rec (motive := fun _ => β) (fun n => ax_fc n (fun m => k (Int.ofNat m))) (fun n => ax_fc n (fun m => k (Int.negSucc m))) i
theorem i_fc_eq {β : Type} (i : Int) (k : Int → β) : i_fc i k = k i := by
  cases i with
  | ofNat n => exact ax_fc_eq n (fun m => k (Int.ofNat m))
  | negSucc n => exact ax_fc_eq n (fun m => k (Int.negSucc m))
noncomputable def i_z (i : Int) : Bool := Int.rec (motive := fun _ => Bool) (fun n => Nat.beq n 0) (fun _ => false) i
noncomputable def i_nn (i : Int) : Bool := Int.rec (motive := fun _ => Bool) (fun _ => true) (fun _ => false) i
theorem i_z_ok {i : Int} (h : i_z i = true) : i = 0 := by
  cases i with
  | ofNat n =>
    have : n = 0 := Nat.eq_of_beq_eq_true h
    subst this
    rfl
  | negSucc n => cases h
theorem i_z_no {i : Int} (h : i_z i = false) : i ≠ 0 := fun e => by
  subst e
  cases h
theorem i_nn_ok {i : Int} (h : i_nn i = true) : 0 ≤ i := by
  cases i with
  | ofNat n => exact Int.natCast_nonneg n
  | negSucc n => cases h
theorem i_nn_no {i : Int} (h : i_nn i = false) : i < 0 := by
  cases i with
  | ofNat n => cases h
  | negSucc n => exact Int.negSucc_lt_zero n
noncomputable def i_le (a b : Int) : Bool := i_nn (b - a)
theorem i_le_ok {a b : Int} (h : i_le a b = true) : a ≤ b := by have := i_nn_ok h; omega
theorem i_le_no {a b : Int} (h : i_le a b = false) : b < a := by have := i_nn_no h; omega
noncomputable def i_eq (a b : Int) : Bool := i_z (a - b)
theorem i_eq_ok {a b : Int} (h : i_eq a b = true) : a = b := by have := i_z_ok h; omega
theorem i_eq_no {a b : Int} (h : i_eq a b = false) : a ≠ b := by have := i_z_no h; omega
noncomputable def i_min (a b : Int) : Int := bif i_le a b then a else b
noncomputable def i_max (a b : Int) : Int := bif i_le a b then b else a
theorem i_min_ok (a b : Int) : i_min a b ≤ a ∧ i_min a b ≤ b ∧ (i_min a b = a ∨ i_min a b = b) := by
  unfold i_min
  cases h : i_le a b with
  | true => have := i_le_ok h; exact ⟨Int.le_refl a, this, Or.inl rfl⟩
  | false => have := i_le_no h; exact ⟨Int.le_of_lt this, Int.le_refl b, Or.inr rfl⟩
theorem i_max_ok (a b : Int) : a ≤ i_max a b ∧ b ≤ i_max a b ∧ (i_max a b = a ∨ i_max a b = b) := by
  unfold i_max
  cases h : i_le a b with
  | true => have := i_le_ok h; exact ⟨this, Int.le_refl b, Or.inr rfl⟩
  | false => have := i_le_no h; exact ⟨Int.le_refl a, Int.le_of_lt this, Or.inl rfl⟩
noncomputable def lf_ins {β : Type} (k : Nat) (a : Int) (l : List (Nat × Int)) : (List (Nat × Int) → β) → β := List.rec (motive := fun _ => (List (Nat × Int) → β) → β) (fun kk => bif i_z a then kk [] else kk [(k, a)]) (fun q t ih kk => bif Nat.beq q.1 k then i_fc (q.2 + a) (fun b => bif i_z b then kk t else kk ((k, b) :: t)) else bif Nat.blt k q.1 then kk ((k, a) :: q :: t) else ih (fun r => kk (q :: r))) l
theorem lf_ins_ok {β : Type} (k : Nat) (a : Int) : ∀ (l : List (Nat × Int)) (kk : List (Nat × Int) → β), ∃ r, lf_ins k a l kk = kk r ∧ ∀ (ρ : List Int) (x z : Int), Lt ρ l x → ρ[k]? = some z → Lt ρ r (a * z + x)
  | [], kk => by
    show ∃ r, (bif i_z a then kk [] else kk [(k, a)]) = kk r ∧ _
    cases h : i_z a with
    | true => exact ⟨[], rfl, fun ρ x z hx hz => by have hx : x = 0 := hx; show _ = (0 : Int); rw [i_z_ok h, hx]; omega⟩
    | false => exact ⟨[(k, a)], rfl, fun ρ x z hx hz => ⟨z, 0, hz, rfl, by have hx : x = 0 := hx; rw [hx]⟩⟩
  | q :: t, kk => by
    show ∃ r, (bif Nat.beq q.1 k then i_fc (q.2 + a) (fun b => bif i_z b then kk t else kk ((k, b) :: t)) else bif Nat.blt k q.1 then kk ((k, a) :: q :: t) else lf_ins k a t (fun r => kk (q :: r))) = kk r ∧ _
    cases h : Nat.beq q.1 k with
    | true =>
      have e : q.1 = k := Nat.eq_of_beq_eq_true h
      show ∃ r, i_fc (q.2 + a) (fun b => bif i_z b then kk t else kk ((k, b) :: t)) = kk r ∧ _
      rw [i_fc_eq]
      have KK : ∀ (ρ : List Int) (x z : Int), Lt ρ (q :: t) x → ρ[k]? = some z → ∃ y, Lt ρ t y ∧ a * z + x = (q.2 + a) * z + y := fun ρ x z hx hz => by
        obtain ⟨z', y, a1, a2, a3⟩ := hx
        rw [e, hz] at a1
        cases a1
        exact ⟨y, a2, by rw [a3, Int.add_mul]; omega⟩
      cases h2 : i_z (q.2 + a) with
      | true => exact ⟨t, rfl, fun ρ x z hx hz => by
          obtain ⟨y, k1, k2⟩ := KK ρ x z hx hz
          rw [k2, i_z_ok h2, Int.zero_mul, Int.zero_add]
          exact k1⟩
      | false => exact ⟨(k, q.2 + a) :: t, rfl, fun ρ x z hx hz => by
          obtain ⟨y, k1, k2⟩ := KK ρ x z hx hz
          exact ⟨z, y, hz, k1, k2⟩⟩
    | false =>
      show ∃ r, (bif Nat.blt k q.1 then kk ((k, a) :: q :: t) else lf_ins k a t (fun r => kk (q :: r))) = kk r ∧ _
      cases h2 : Nat.blt k q.1 with
      | true => exact ⟨(k, a) :: q :: t, rfl, fun ρ x z hx hz => ⟨z, x, hz, hx, rfl⟩⟩
      | false =>
        obtain ⟨r, e1, e2⟩ := lf_ins_ok k a t (fun r => kk (q :: r))
        exact ⟨q :: r, e1, fun ρ x z hx hz => by
          obtain ⟨z', y, a1, a2, a3⟩ := hx
          exact ⟨z', _, a1, e2 ρ y z a2 hz, by rw [a3]; omega⟩⟩
/-- c times the terms l, and m -/
noncomputable def lf_acc {β : Type} (c : Int) (l : List (Nat × Int)) : List (Nat × Int) → (List (Nat × Int) → β) → β := List.rec (motive := fun _ => List (Nat × Int) → (List (Nat × Int) → β) → β) (fun m kk => kk m) (fun q _ ih m kk => i_fc (c * q.2) (fun a => lf_ins q.1 a m (fun m' => ih m' kk))) l
theorem lf_acc_ok {β : Type} (c : Int) : ∀ (l m : List (Nat × Int)) (kk : List (Nat × Int) → β), ∃ r, lf_acc c l m kk = kk r ∧ ∀ (ρ : List Int) (x y : Int), Lt ρ l x → Lt ρ m y → Lt ρ r (c * x + y)
  | [], m, kk => ⟨m, rfl, fun ρ x y hx hy => by have hx : x = 0 := hx; rw [hx, Int.mul_zero, Int.zero_add]; exact hy⟩
  | q :: t, m, kk => by
    show ∃ r, i_fc (c * q.2) (fun a => lf_ins q.1 a m (fun m' => lf_acc c t m' kk)) = kk r ∧ _
    rw [i_fc_eq]
    obtain ⟨m', e1, e2⟩ := lf_ins_ok q.1 (c * q.2) m (fun m' => lf_acc c t m' kk)
    obtain ⟨r, e3, e4⟩ := lf_acc_ok c t m' kk
    refine ⟨r, e1.trans e3, fun ρ x y hx hy => ?_⟩
    obtain ⟨z, u, a1, a2, a3⟩ := hx
    have := e4 ρ u _ a2 (e2 ρ y z hy a1)
    rw [a3, Int.mul_add, ← Int.mul_assoc]
    rw [show c * q.2 * z + c * u + y = c * u + (c * q.2 * z + y) by omega]
    exact this
/-- c f + g -/
noncomputable def lf_add {β : Type} (c : Int) (f g : LF) (kk : LF → β) : β := lf_acc c f.2 g.2 (fun r => i_fc (c * f.1 + g.1) (fun n => kk (n, r)))
theorem lf_add_ok {β : Type} (c : Int) (f g : LF) (kk : LF → β) : ∃ r, lf_add c f g kk = kk r ∧ ∀ (ρ : List Int) (x y : Int), Lv ρ f x → Lv ρ g y → Lv ρ r (c * x + y) := by
  unfold lf_add
  obtain ⟨r, e3, e4⟩ := lf_acc_ok c f.2 g.2 (fun r => i_fc (c * f.1 + g.1) (fun n => kk (n, r)))
  rw [i_fc_eq] at e3
  refine ⟨(c * f.1 + g.1, r), e3, fun ρ x y hx hy => ?_⟩
  obtain ⟨u, a1, a2⟩ := hx
  obtain ⟨v, b1, b2⟩ := hy
  refine ⟨_, e4 ρ u v a1 b1, ?_⟩
  rw [a2, b2, Int.mul_add]
  show _ = c * f.1 + g.1 + _
  omega
/-- c f + n -/
noncomputable def lf_sc {β : Type} (c : Int) (f : LF) (n : Int) (kk : LF → β) : β := lf_add c f (n, []) kk
theorem lf_sc_ok {β : Type} (c : Int) (f : LF) (n : Int) (kk : LF → β) : ∃ r, lf_sc c f n kk = kk r ∧ ∀ (ρ : List Int) (x : Int), Lv ρ f x → Lv ρ r (c * x + n) := by
  obtain ⟨r, e1, e2⟩ := lf_add_ok c f (n, []) kk
  exact ⟨r, e1, fun ρ x hx => e2 ρ x n hx (Lv.c ρ n)⟩
/-! ranges -/
def Sr (ρ : List Int) (σ : SG) : Prop := ρ.length = σ.length ∧ ∀ (k : Nat) (z : Int), ρ[k]? = some z → ∃ q, σ[k]? = some q ∧ q.1 ≤ z ∧ z ≤ q.2
theorem Sr.app {ρ : List Int} {σ : SG} (h : Sr ρ σ) {z lo hi : Int} (h1 : lo ≤ z) (h2 : z ≤ hi) : Sr (ρ ++ [z]) (σ ++ [(lo, hi)]) := by
  refine ⟨by simp [h.1], fun k y hy => ?_⟩
  by_cases hk : k < ρ.length
  · rw [List.getElem?_append_left hk] at hy
    obtain ⟨q, e1, e2⟩ := h.2 k y hy
    exact ⟨q, by rw [List.getElem?_append_left (by rw [← h.1]; exact hk)]; exact e1, e2⟩
  · rw [List.getElem?_append_right (by omega)] at hy
    have hz : k - ρ.length < 1 := (List.getElem?_eq_some_iff.mp hy).1
    have hk0 : k = ρ.length := by omega
    subst hk0
    simp at hy
    subst hy
    exact ⟨(lo, hi), by rw [h.1]; simp, h1, h2⟩
theorem Sr.cut {ρ : List Int} {σ : SG} (h : Sr ρ σ) {k : Nat} {lo hi : Int} (hz : ∀ z, ρ[k]? = some z → lo ≤ z ∧ z ≤ hi) : Sr ρ (σ.set k (lo, hi)) := by
  refine ⟨by simp [h.1], fun j y hy => ?_⟩
  obtain ⟨q, e1, e2⟩ := h.2 j y hy
  by_cases hj : j = k
  · subst hj
    have hl : j < σ.length := (List.getElem?_eq_some_iff.mp e1).1
    exact ⟨(lo, hi), by rw [List.getElem?_set_self hl], hz y hy⟩
  · exact ⟨q, by rw [List.getElem?_set_ne (fun q => hj q.symm)]; exact e1, e2⟩
noncomputable def s_at (σ : SG) (k : Nat) : Int × Int := match ax_nth σ k with
  | some q => q
  | none => (0, 0)
theorem s_at_ok {ρ : List Int} {σ : SG} (h : Sr ρ σ) {k : Nat} {z : Int} (hz : ρ[k]? = some z) : (s_at σ k).1 ≤ z ∧ z ≤ (s_at σ k).2 := by
  obtain ⟨q, e1, e2⟩ := h.2 k z hz
  unfold s_at
  rw [ax_nth_eq, e1]
  exact e2
/-- the least, the most that a form can be -/
noncomputable def lf_lot (σ : SG) (l : List (Nat × Int)) : Int := List.rec (motive := fun _ => Int) 0 (fun q _ ih => bif i_nn q.2 then q.2 * (s_at σ q.1).1 + ih else q.2 * (s_at σ q.1).2 + ih) l
noncomputable def lf_hit (σ : SG) (l : List (Nat × Int)) : Int := List.rec (motive := fun _ => Int) 0 (fun q _ ih => bif i_nn q.2 then q.2 * (s_at σ q.1).2 + ih else q.2 * (s_at σ q.1).1 + ih) l
theorem lf_t_ok {ρ : List Int} {σ : SG} (hS : Sr ρ σ) : ∀ {l : List (Nat × Int)} {x : Int}, Lt ρ l x → lf_lot σ l ≤ x ∧ x ≤ lf_hit σ l
  | [], x, hx => by have hx : x = 0 := hx; subst hx; exact ⟨Int.le_refl 0, Int.le_refl 0⟩
  | q :: t, x, hx => by
    obtain ⟨z, y, a1, a2, a3⟩ := hx
    have i1 := lf_t_ok hS a2
    have i2 := s_at_ok hS a1
    have e1 : lf_lot σ (q :: t) = bif i_nn q.2 then q.2 * (s_at σ q.1).1 + lf_lot σ t else q.2 * (s_at σ q.1).2 + lf_lot σ t := rfl
    have e2 : lf_hit σ (q :: t) = bif i_nn q.2 then q.2 * (s_at σ q.1).2 + lf_hit σ t else q.2 * (s_at σ q.1).1 + lf_hit σ t := rfl
    rw [e1, e2]
    cases hn : i_nn q.2 with
    | true =>
      have m1 := Int.mul_le_mul_of_nonneg_left i2.1 (i_nn_ok hn)
      have m2 := Int.mul_le_mul_of_nonneg_left i2.2 (i_nn_ok hn)
      simp only [cond_true]
      omega
    | false =>
      have m1 := Int.mul_le_mul_of_nonpos_left (Int.le_of_lt (i_nn_no hn)) i2.1
      have m2 := Int.mul_le_mul_of_nonpos_left (Int.le_of_lt (i_nn_no hn)) i2.2
      simp only [cond_false]
      omega
noncomputable def lf_lo (σ : SG) (f : LF) : Int := f.1 + lf_lot σ f.2
noncomputable def lf_hi (σ : SG) (f : LF) : Int := f.1 + lf_hit σ f.2
theorem lf_b_ok {ρ : List Int} {σ : SG} (hS : Sr ρ σ) {f : LF} {x : Int} (h : Lv ρ f x) : lf_lo σ f ≤ x ∧ x ≤ lf_hi σ f := by
  obtain ⟨y, a, b⟩ := h
  have := lf_t_ok hS a
  unfold lf_lo lf_hi
  omega
/-! facts: forms that are 0 or more, forms that aren't 0 -/
abbrev NS : Type := SG × List LF × List LF
def Nk (ρ : List Int) (N : NS) : Prop := Sr ρ N.1 ∧ (∀ f ∈ N.2.1, ∃ x, Lv ρ f x ∧ 0 ≤ x) ∧ (∀ f ∈ N.2.2, ∃ x, Lv ρ f x ∧ x ≠ 0)
/-- the number of an unknown in a form -/
noncomputable def lf_co (k : Nat) (l : List (Nat × Int)) : Int := List.rec (motive := fun _ => Int) 0 (fun q _ ih => bif Nat.beq q.1 k then q.2 else ih) l
/-- how often a fact g may be taken from f -/
noncomputable def lf_mu (f g : LF) : Int := List.rec (motive := fun _ => Int) 1 (fun q _ _ => bif i_nn (lf_co q.1 f.2 / q.2 - 1) then lf_co q.1 f.2 / q.2 else 1) g.2
noncomputable def lf_p0 (σ : SG) (f : LF) : Bool := i_nn (lf_lo σ f)
noncomputable def lf_p1 (σ : SG) (fc : List LF) (f : LF) : Bool := lf_p0 σ f || List.rec (motive := fun _ => Bool) false (fun g _ ih => i_fc (lf_mu f g) (fun m => bif i_nn m then lf_add (-m) g f (lf_p0 σ) else false) || ih) fc
noncomputable def lf_p2 (σ : SG) (fc : List LF) (f : LF) : Bool := lf_p1 σ fc f || List.rec (motive := fun _ => Bool) false (fun g _ ih => i_fc (lf_mu f g) (fun m => bif i_nn m then lf_add (-m) g f (lf_p1 σ fc) else false) || ih) fc
noncomputable def pv1 (N : NS) (f : LF) : Bool := lf_p1 N.1 N.2.1 f
noncomputable def pv2 (N : NS) (f : LF) : Bool := lf_p2 N.1 N.2.1 f
theorem lf_p0_ok {ρ : List Int} {σ : SG} (hS : Sr ρ σ) {f : LF} {x : Int} (h : lf_p0 σ f = true) (hx : Lv ρ f x) : 0 ≤ x := by
  have := lf_b_ok hS hx
  have := i_nn_ok h
  omega
theorem lf_any_ok {ρ : List Int} {f : LF} {x : Int} (hx : Lv ρ f x) {T : LF → Bool} (hT : ∀ f' y, T f' = true → Lv ρ f' y → 0 ≤ y) : ∀ (fc : List LF), (∀ g ∈ fc, ∃ y, Lv ρ g y ∧ 0 ≤ y) → (List.rec (motive := fun _ => Bool) false (fun g _ ih => i_fc (lf_mu f g) (fun m => bif i_nn m then lf_add (-m) g f T else false) || ih) fc : Bool) = true → 0 ≤ x
  | [], _, h => by cases h
  | g :: t, hf, h => by
    rcases (Bool.or_eq_true _ _).mp h with h1 | h1
    · rw [i_fc_eq] at h1
      cases hm : i_nn (lf_mu f g) with
      | false => rw [hm] at h1; cases h1
      | true =>
        rw [hm] at h1
        obtain ⟨r, e1, e2⟩ := lf_add_ok (-(lf_mu f g)) g f T
        have h2 : T r = true := by rw [← e1]; exact h1
        obtain ⟨y, y1, y2⟩ := hf g List.mem_cons_self
        have h3 := hT _ _ h2 (e2 ρ y x y1 hx)
        have h4 := Int.mul_nonneg (i_nn_ok hm) y2
        rw [Int.neg_mul] at h3
        omega
    · exact lf_any_ok hx hT t (fun g hg => hf g (List.mem_cons_of_mem _ hg)) h1
theorem lf_p1_ok {ρ : List Int} {σ : SG} (hS : Sr ρ σ) {fc : List LF} (hF : ∀ g ∈ fc, ∃ y, Lv ρ g y ∧ 0 ≤ y) {f : LF} {x : Int} (h : lf_p1 σ fc f = true) (hx : Lv ρ f x) : 0 ≤ x := by
  rcases (Bool.or_eq_true _ _).mp h with h1 | h1
  · exact lf_p0_ok hS h1 hx
  · exact lf_any_ok hx (fun f' y a b => lf_p0_ok hS a b) fc hF h1
theorem pv1_ok {ρ : List Int} {N : NS} (hN : Nk ρ N) {f : LF} {x : Int} (h : pv1 N f = true) (hx : Lv ρ f x) : 0 ≤ x := lf_p1_ok hN.1 hN.2.1 h hx
theorem pv2_ok {ρ : List Int} {N : NS} (hN : Nk ρ N) {f : LF} {x : Int} (h : pv2 N f = true) (hx : Lv ρ f x) : 0 ≤ x := by
  rcases (Bool.or_eq_true _ _).mp h with h1 | h1
  · exact lf_p1_ok hN.1 hN.2.1 h1 hx
  · exact lf_any_ok hx (fun f' y a b => lf_p1_ok hN.1 hN.2.1 a b) N.2.1 hN.2.1 h1
/-- forms that are the same -/
noncomputable def lt_eq (l : List (Nat × Int)) : List (Nat × Int) → Bool := List.rec (motive := fun _ => List (Nat × Int) → Bool) (fun m => List.rec (motive := fun _ => Bool) true (fun _ _ _ => false) m) (fun q _ ih m => List.rec (motive := fun _ => Bool) false (fun q' t' _ => Nat.beq q.1 q'.1 && (i_eq q.2 q'.2 && ih t')) m) l
theorem lt_eq_ok : ∀ {l m : List (Nat × Int)}, lt_eq l m = true → l = m
  | [], [], _ => rfl
  | [], _ :: _, h => by cases h
  | _ :: _, [], h => by cases h
  | q :: t, q' :: t', h => by
    have h : (Nat.beq q.1 q'.1 && (i_eq q.2 q'.2 && lt_eq t t')) = true := h
    have a := bb_and h
    have b := bb_and a.2
    obtain ⟨q1, q2⟩ := q
    obtain ⟨r1, r2⟩ := q'
    have e1 : q1 = r1 := Nat.eq_of_beq_eq_true a.1
    have e2 : q2 = r2 := i_eq_ok b.1
    have e3 : t = t' := lt_eq_ok b.2
    subst e1
    subst e2
    subst e3
    rfl
noncomputable def lf_eq (f g : LF) : Bool := i_eq f.1 g.1 && lt_eq f.2 g.2
theorem lf_eq_ok {f g : LF} (h : lf_eq f g = true) : f = g := by
  have a := bb_and h
  obtain ⟨f1, f2⟩ := f
  obtain ⟨g1, g2⟩ := g
  have e1 : f1 = g1 := i_eq_ok a.1
  have e2 : f2 = g2 := lt_eq_ok a.2
  subst e1
  subst e2
  rfl
/-- unknowns that can be one number alone are that number -/
noncomputable def lf_fd {β : Type} (σ : SG) (l : List (Nat × Int)) : Int → (LF → β) → β := List.rec (motive := fun _ => Int → (LF → β) → β) (fun n kk => i_fc n (fun m => kk (m, []))) (fun q _ ih n kk => bif i_eq (s_at σ q.1).1 (s_at σ q.1).2 then ih (n + q.2 * (s_at σ q.1).1) kk else ih n (fun r => kk (r.1, q :: r.2))) l
theorem lf_fd_ok {β : Type} {ρ : List Int} {σ : SG} (hS : Sr ρ σ) : ∀ (l : List (Nat × Int)) (n : Int) (kk : LF → β), ∃ r, lf_fd σ l n kk = kk r ∧ ∀ x, Lt ρ l x → Lv ρ r (n + x)
  | [], n, kk => ⟨(n, []), i_fc_eq n (fun m => kk (m, [])), fun x hx => by have hx : x = 0 := hx; subst hx; exact ⟨0, rfl, by show n + 0 = n + 0; rfl⟩⟩
  | q :: t, n, kk => by
    show ∃ r, (bif i_eq (s_at σ q.1).1 (s_at σ q.1).2 then lf_fd σ t (n + q.2 * (s_at σ q.1).1) kk else lf_fd σ t n (fun r => kk (r.1, q :: r.2))) = kk r ∧ _
    cases h : i_eq (s_at σ q.1).1 (s_at σ q.1).2 with
    | true =>
      obtain ⟨r, e1, e2⟩ := lf_fd_ok hS t (n + q.2 * (s_at σ q.1).1) kk
      refine ⟨r, e1, fun x hx => ?_⟩
      obtain ⟨z, y, a1, a2, a3⟩ := hx
      have b := s_at_ok hS a1
      have c := i_eq_ok h
      have hz : z = (s_at σ q.1).1 := by omega
      have := e2 y a2
      rw [a3, hz, ← Int.add_assoc]
      exact this
    | false =>
      obtain ⟨r, e1, e2⟩ := lf_fd_ok hS t n (fun r => kk (r.1, q :: r.2))
      refine ⟨(r.1, q :: r.2), e1, fun x hx => ?_⟩
      obtain ⟨z, y, a1, a2, a3⟩ := hx
      obtain ⟨u, b1, b2⟩ := e2 y a2
      exact ⟨q.2 * z + u, ⟨z, u, a1, b1, rfl⟩, by show n + x = r.1 + _; omega⟩
noncomputable def lf_nv {β : Type} (σ : SG) (f : LF) (kk : LF → β) : β := lf_fd σ f.2 f.1 kk
theorem lf_nv_ok {β : Type} {ρ : List Int} {σ : SG} (hS : Sr ρ σ) (f : LF) (kk : LF → β) : ∃ r, lf_nv σ f kk = kk r ∧ ∀ x, Lv ρ f x → Lv ρ r x := by
  obtain ⟨r, e1, e2⟩ := lf_fd_ok hS f.2 f.1 kk
  exact ⟨r, e1, fun x hx => by obtain ⟨y, a, b⟩ := hx; rw [b]; exact e2 y a⟩
/-- a form is taken to be 0 or more: the ranges of its unknowns, a fact -/
noncomputable def s_nar {β : Type} (σ0 : SG) (hi : Int) (l : List (Nat × Int)) : SG → (SG → Option β) → Option β := List.rec (motive := fun _ => SG → (SG → Option β) → Option β) (fun σ kk => kk σ) (fun q _ ih σ kk =>
    bif i_eq q.2 1 then i_fc (i_max (s_at σ0 q.1).1 ((s_at σ0 q.1).2 - hi)) (fun a => ax_set σ q.1 (a, (s_at σ0 q.1).2) (fun σ' => ih σ' kk))
    else bif i_eq q.2 (-1) then i_fc (i_min (s_at σ0 q.1).2 ((s_at σ0 q.1).1 + hi)) (fun b => ax_set σ q.1 ((s_at σ0 q.1).1, b) (fun σ' => ih σ' kk))
    else ih σ kk) l
theorem lf_one {ρ : List Int} {σ : SG} (hS : Sr ρ σ) : ∀ {l : List (Nat × Int)} {x z : Int} {q : Nat × Int}, Lt ρ l x → q ∈ l → ρ[q.1]? = some z → (q.2 = 1 → x + (s_at σ q.1).2 ≤ lf_hit σ l + z) ∧ (q.2 = -1 → x + z ≤ lf_hit σ l + (s_at σ q.1).1)
  | [], _, _, _, _, hq, _ => by cases hq
  | p :: t, x, z, q, hx, hq, hz => by
    obtain ⟨z', y, a1, a2, a3⟩ := hx
    have e2 : lf_hit σ (p :: t) = bif i_nn p.2 then p.2 * (s_at σ p.1).2 + lf_hit σ t else p.2 * (s_at σ p.1).1 + lf_hit σ t := rfl
    have i1 := lf_t_ok hS a2
    have i2 := s_at_ok hS a1
    rcases List.mem_cons.mp hq with rfl | hq
    · rw [hz] at a1
      cases a1
      refine ⟨fun h1 => ?_, fun h1 => ?_⟩
      · rw [h1] at a3
        rw [e2, h1]
        simp only [show i_nn 1 = true from rfl, cond_true]
        omega
      · rw [h1] at a3
        rw [e2, h1]
        simp only [show i_nn (-1) = false from rfl, cond_false]
        omega
    · have ih := lf_one hS a2 hq hz
      have hb : p.2 * z' ≤ lf_hit σ (p :: t) - lf_hit σ t := by
        rw [e2]
        cases hn : i_nn p.2 with
        | true =>
          have m2 := Int.mul_le_mul_of_nonneg_left i2.2 (i_nn_ok hn)
          simp only [cond_true]
          omega
        | false =>
          have m1 := Int.mul_le_mul_of_nonpos_left (Int.le_of_lt (i_nn_no hn)) i2.1
          simp only [cond_false]
          omega
      exact ⟨fun h1 => by have := ih.1 h1; omega, fun h1 => by have := ih.2 h1; omega⟩
theorem s_nar_ok {β : Type} {ρ : List Int} {f : List (Nat × Int)} {n x : Int} (hx : Lt ρ f x) (h0 : 0 ≤ n + x) {σ0 : SG} (hS0 : Sr ρ σ0) : ∀ (l : List (Nat × Int)) (σ : SG), Sr ρ σ → (∀ q ∈ l, q ∈ f) → ∀ (kk : SG → Option β) (r : β), s_nar σ0 (n + lf_hit σ0 f) l σ kk = some r → ∃ σ', kk σ' = some r ∧ Sr ρ σ'
  | [], σ, hS, _, kk, r, h => ⟨σ, h, hS⟩
  | q :: t, σ, hS, hq, kk, r, h => by
    have h : (bif i_eq q.2 1 then i_fc (i_max (s_at σ0 q.1).1 ((s_at σ0 q.1).2 - (n + lf_hit σ0 f))) (fun a => ax_set σ q.1 (a, (s_at σ0 q.1).2) (fun σ' => s_nar σ0 (n + lf_hit σ0 f) t σ' kk))
      else bif i_eq q.2 (-1) then i_fc (i_min (s_at σ0 q.1).2 ((s_at σ0 q.1).1 + (n + lf_hit σ0 f))) (fun b => ax_set σ q.1 ((s_at σ0 q.1).1, b) (fun σ' => s_nar σ0 (n + lf_hit σ0 f) t σ' kk))
      else s_nar σ0 (n + lf_hit σ0 f) t σ kk) = some r := h
    have hq' : ∀ p ∈ t, p ∈ f := fun p hp => hq p (List.mem_cons_of_mem _ hp)
    cases h1 : i_eq q.2 1 with
    | true =>
      rw [h1] at h
      have h : i_fc (i_max (s_at σ0 q.1).1 ((s_at σ0 q.1).2 - (n + lf_hit σ0 f))) (fun a => ax_set σ q.1 (a, (s_at σ0 q.1).2) (fun σ' => s_nar σ0 (n + lf_hit σ0 f) t σ' kk)) = some r := h
      rw [i_fc_eq, ax_set_eq] at h
      refine s_nar_ok hx h0 hS0 t _ (hS.cut (fun z hz => ?_)) hq' kk r h
      have b := s_at_ok hS0 hz
      have c := (lf_one hS0 hx (hq q List.mem_cons_self) hz).1 (i_eq_ok h1)
      have m := i_max_ok (s_at σ0 q.1).1 ((s_at σ0 q.1).2 - (n + lf_hit σ0 f))
      omega
    | false =>
      rw [h1] at h
      have h : (bif i_eq q.2 (-1) then i_fc (i_min (s_at σ0 q.1).2 ((s_at σ0 q.1).1 + (n + lf_hit σ0 f))) (fun b => ax_set σ q.1 ((s_at σ0 q.1).1, b) (fun σ' => s_nar σ0 (n + lf_hit σ0 f) t σ' kk))
        else s_nar σ0 (n + lf_hit σ0 f) t σ kk) = some r := h
      cases h2 : i_eq q.2 (-1) with
      | true =>
        rw [h2] at h
        have h : i_fc (i_min (s_at σ0 q.1).2 ((s_at σ0 q.1).1 + (n + lf_hit σ0 f))) (fun b => ax_set σ q.1 ((s_at σ0 q.1).1, b) (fun σ' => s_nar σ0 (n + lf_hit σ0 f) t σ' kk)) = some r := h
        rw [i_fc_eq, ax_set_eq] at h
        refine s_nar_ok hx h0 hS0 t _ (hS.cut (fun z hz => ?_)) hq' kk r h
        have b := s_at_ok hS0 hz
        have c := (lf_one hS0 hx (hq q List.mem_cons_self) hz).2 (i_eq_ok h2)
        have m := i_min_ok (s_at σ0 q.1).2 ((s_at σ0 q.1).1 + (n + lf_hit σ0 f))
        omega
      | false =>
        rw [h2] at h
        exact s_nar_ok hx h0 hS0 t σ hS hq' kk r h
def lf_two (l : List (Nat × Int)) : Bool := match l with
  | _ :: _ :: _ => true
  | _ => false
noncomputable def asm {β : Type} (N : NS) (f : LF) (pr : Option β) (kk : NS → Option β) : Option β :=
  i_fc (f.1 + lf_hit N.1 f.2) (fun hi => bif i_nn hi then s_nar N.1 hi f.2 N.1 (fun σ' => kk (σ', (bif lf_two f.2 then f :: N.2.1 else N.2.1), N.2.2)) else pr)
theorem asm_ok {β : Type} {ρ : List Int} {N : NS} (hN : Nk ρ N) {f : LF} {x : Int} (hf : Lv ρ f x) (h0 : 0 ≤ x) {pr : Option β} {kk : NS → Option β} {r : β} (h : asm N f pr kk = some r) : ∃ N', kk N' = some r ∧ Nk ρ N' := by
  unfold asm at h
  rw [i_fc_eq] at h
  obtain ⟨y, a, b⟩ := id hf
  cases hn : i_nn (f.1 + lf_hit N.1 f.2) with
  | false =>
    exfalso
    have := (lf_t_ok hN.1 a).2
    have := i_nn_no hn
    omega
  | true =>
    rw [hn] at h
    obtain ⟨σ', e1, e2⟩ := s_nar_ok a (by omega) hN.1 f.2 N.1 hN.1 (fun _ h => h) _ r h
    refine ⟨_, e1, e2, ?_, hN.2.2⟩
    show ∀ g ∈ (bif lf_two f.2 then f :: N.2.1 else N.2.1), _
    cases lf_two f.2 with
    | false => exact hN.2.1
    | true =>
      intro g hg
      rcases List.mem_cons.mp hg with rfl | hg
      · exact ⟨x, hf, h0⟩
      · exact hN.2.1 g hg
theorem Lv.dec {ρ : List Int} {f : LF} {x : Int} (n : Int) (h : Lv ρ f x) : Lv ρ (f.1 - n, f.2) (x - n) := by
  obtain ⟨y, a, b⟩ := h
  exact ⟨y, a, by show x - n = f.1 - n + y; omega⟩
/-- a form is taken not to be 0 -/
noncomputable def asn {β : Type} (N : NS) (f : LF) (pr : Option β) (kk : NS → Option β) : Option β := match f.2 with
  | [] => bif i_z f.1 then pr else kk N
  | [q] => i_fc (bif i_eq q.2 1 then -f.1 else f.1) (fun v => bif i_eq q.2 1 || i_eq q.2 (-1) then
      (bif i_eq v (s_at N.1 q.1).1 then (bif i_eq v (s_at N.1 q.1).2 then pr else i_fc (v + 1) (fun a => ax_set N.1 q.1 (a, (s_at N.1 q.1).2) (fun σ' => kk (σ', N.2.1, N.2.2))))
       else bif i_eq v (s_at N.1 q.1).2 then i_fc (v - 1) (fun b => ax_set N.1 q.1 ((s_at N.1 q.1).1, b) (fun σ' => kk (σ', N.2.1, N.2.2)))
       else kk (N.1, N.2.1, f :: N.2.2)) else kk (N.1, N.2.1, f :: N.2.2))
  | _ => bif i_nn (lf_lo N.1 f) then asm N (f.1 - 1, f.2) pr kk else kk (N.1, N.2.1, f :: N.2.2)
theorem asn_ok {β : Type} {ρ : List Int} {N : NS} (hN : Nk ρ N) {f : LF} {x : Int} (hf : Lv ρ f x) (h0 : x ≠ 0) {pr : Option β} {kk : NS → Option β} {r : β} (h : asn N f pr kk = some r) : ∃ N', kk N' = some r ∧ Nk ρ N' := by
  have PUSH : Nk ρ (N.1, N.2.1, f :: N.2.2) := ⟨hN.1, hN.2.1, fun g hg => by
    rcases List.mem_cons.mp hg with rfl | hg
    · exact ⟨x, hf, h0⟩
    · exact hN.2.2 g hg⟩
  obtain ⟨n, l⟩ := f
  obtain ⟨y, a, b⟩ := id hf
  unfold asn at h
  match l, h, a with
  | [], h, a =>
    have a : y = 0 := a
    dsimp only at h b
    cases hz : i_z n with
    | true => exfalso; have := i_z_ok hz; omega
    | false => rw [hz] at h; exact ⟨N, h, hN⟩
  | [q], h, a =>
    dsimp only at h b
    rw [i_fc_eq] at h
    obtain ⟨z, u, a1, a2, a3⟩ := a
    have a2 : u = 0 := a2
    have hs := s_at_ok hN.1 a1
    cases hc : (i_eq q.2 1 || i_eq q.2 (-1)) with
    | false => rw [hc] at h; exact ⟨_, h, PUSH⟩
    | true =>
      rw [hc] at h
      have hv : z ≠ (bif i_eq q.2 1 then -n else n) := by
        cases h1 : i_eq q.2 1 with
        | true =>
          have e := i_eq_ok h1
          rw [e] at a3
          show z ≠ -n
          omega
        | false =>
          rw [h1] at hc
          have e := i_eq_ok (a := q.2) (b := -1) hc
          rw [e] at a3
          show z ≠ n
          omega
      generalize (bif i_eq q.2 1 then -n else n) = v at h hv
      simp only [cond_true] at h
      cases h2 : i_eq v (s_at N.1 q.1).1 with
      | true =>
        have e2 := i_eq_ok h2
        rw [h2] at h
        simp only [cond_true] at h
        cases h3 : i_eq v (s_at N.1 q.1).2 with
        | true => exfalso; have := i_eq_ok h3; omega
        | false =>
          rw [h3] at h
          simp only [cond_false] at h
          rw [i_fc_eq, ax_set_eq] at h
          exact ⟨_, h, hN.1.cut (fun z' hz' => by rw [a1] at hz'; cases hz'; omega), hN.2.1, hN.2.2⟩
      | false =>
        rw [h2] at h
        simp only [cond_false] at h
        cases h3 : i_eq v (s_at N.1 q.1).2 with
        | true =>
          have e3 := i_eq_ok h3
          rw [h3] at h
          simp only [cond_true] at h
          rw [i_fc_eq, ax_set_eq] at h
          exact ⟨_, h, hN.1.cut (fun z' hz' => by rw [a1] at hz'; cases hz'; omega), hN.2.1, hN.2.2⟩
        | false =>
          rw [h3] at h
          exact ⟨_, h, PUSH⟩
  | q1 :: q2 :: t, h, a =>
    have h : (bif i_nn (lf_lo N.1 (n, q1 :: q2 :: t)) then asm N (n - 1, q1 :: q2 :: t) pr kk else kk (N.1, N.2.1, (n, q1 :: q2 :: t) :: N.2.2)) = some r := h
    cases hz : i_nn (lf_lo N.1 (n, q1 :: q2 :: t)) with
    | false => rw [hz] at h; exact ⟨_, h, PUSH⟩
    | true =>
      rw [hz] at h
      have b1 := lf_b_ok hN.1 hf
      have b2 := i_nn_ok hz
      exact asm_ok hN (hf.dec 1) (by omega) h
/-- a new unknown -/
noncomputable def nwv {β : Type} (N : NS) (lo hi : Int) (kk : NS → LF → β) : β := i_fc lo (fun lo => i_fc hi (fun hi => ax_fc N.1.length (fun n => kk (N.1 ++ [(lo, hi)], N.2.1, N.2.2) (0, [(n, 1)]))))
theorem nwv_ok {β : Type} {ρ : List Int} {N : NS} (hN : Nk ρ N) {lo hi : Int} (kk : NS → LF → β) {z : Int} (h1 : lo ≤ z) (h2 : z ≤ hi) : ∃ N' f, nwv N lo hi kk = kk N' f ∧ Sb ρ (ρ ++ [z]) ∧ Nk (ρ ++ [z]) N' ∧ Lv (ρ ++ [z]) f z := by
  unfold nwv
  rw [i_fc_eq, i_fc_eq, ax_fc_eq]
  refine ⟨_, _, rfl, Sb.app _ _, ⟨hN.1.app h1 h2, fun g hg => ?_, fun g hg => ?_⟩, Lv.v ?_⟩
  · obtain ⟨x, a, b⟩ := hN.2.1 g hg
    exact ⟨x, a.mono (Sb.app _ _), b⟩
  · obtain ⟨x, a, b⟩ := hN.2.2 g hg
    exact ⟨x, a.mono (Sb.app _ _), b⟩
  · rw [← hN.1.1]
    simp
