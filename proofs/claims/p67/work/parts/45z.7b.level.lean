/-! LEVELS of the search by lengths -/
section LVS
variable {n f : Nat} {dr : Nat → Nat → Prop} {cl : Nat → Prop}
theorem lvS_le : ∀ k t : Nat, lvS n dr cl f k t ≤ k ∨ lvS n dr cl f k t = 1000000
  | 0, t => by
    show (if t = f then (0 : Int) else 1000000) ≤ ((0 : Nat) : Int) ∨ (if t = f then (0 : Int) else 1000000) = 1000000
    by_cases c : t = f
    · rw [if_pos c]; omega
    · rw [if_neg c]; omega
  | k + 1, t => by
    have i := lvS_le k t
    by_cases c : lvS n dr cl f k t = 1000000 ∧ t < n ∧ ¬ cl t ∧ ∃ a, a < n ∧ lvS n dr cl f k a = (k : Int) ∧ dr a t
    · have e : lvS n dr cl f (k + 1) t = ((k + 1 : Nat) : Int) := cif_p c
      rw [e]; omega
    · have e : lvS n dr cl f (k + 1) t = lvS n dr cl f k t := cif_n c
      rw [e]; omega
theorem lvS_0 : ∀ k t : Nat, 0 ≤ lvS n dr cl f k t
  | 0, t => by
    show 0 ≤ (if t = f then (0 : Int) else 1000000)
    split <;> omega
  | k + 1, t => by
    have i := lvS_0 k t
    by_cases c : lvS n dr cl f k t = 1000000 ∧ t < n ∧ ¬ cl t ∧ ∃ a, a < n ∧ lvS n dr cl f k a = (k : Int) ∧ dr a t
    · have e : lvS n dr cl f (k + 1) t = ((k + 1 : Nat) : Int) := cif_p c
      rw [e]; omega
    · have e : lvS n dr cl f (k + 1) t = lvS n dr cl f k t := cif_n c
      rw [e]; exact i
/-- a level found stays -/
theorem lvS_st {k t : Nat} (h : lvS n dr cl f k t ≠ 1000000) : ∀ j : Nat, lvS n dr cl f (k + j) t = lvS n dr cl f k t
  | 0 => rfl
  | j + 1 => by
    have i := lvS_st h j
    have e : lvS n dr cl f (k + j + 1) t = lvS n dr cl f (k + j) t := cif_n (fun z => h (i.symm.trans z.1))
    exact e.trans i
/-- how many are found -/
noncomputable def ctS (n : Nat) (g : Nat → Int) : Nat → Nat
  | 0 => 0
  | m + 1 => ctS n g m + (if g m ≠ 1000000 then 1 else 0)
theorem ctS_le {g : Nat → Int} : ∀ m : Nat, ctS n g m ≤ m
  | 0 => Nat.le_refl _
  | m + 1 => by
    have i := ctS_le (g := g) m
    show ctS n g m + (if g m ≠ 1000000 then 1 else 0) ≤ m + 1
    split <;> omega
theorem ctS_mo {g g' : Nat → Int} (e : ∀ t : Nat, g t ≠ 1000000 → g' t ≠ 1000000) : ∀ m : Nat, ctS n g m ≤ ctS n g' m
  | 0 => Nat.le_refl _
  | m + 1 => by
    have i := ctS_mo e m
    show ctS n g m + (if g m ≠ 1000000 then 1 else 0) ≤ ctS n g' m + (if g' m ≠ 1000000 then 1 else 0)
    by_cases c : g m ≠ 1000000
    · rw [if_pos c, if_pos (e m c)]; omega
    · rw [if_neg c]; omega
theorem ctS_lt {g g' : Nat → Int} {t : Nat} (e : ∀ t : Nat, g t ≠ 1000000 → g' t ≠ 1000000) (h1 : g t = 1000000) (h2 : g' t ≠ 1000000) : ∀ m : Nat, t < m → ctS n g m + 1 ≤ ctS n g' m
  | 0, ht => by omega
  | m + 1, ht => by
    show ctS n g m + (if g m ≠ 1000000 then 1 else 0) + 1 ≤ ctS n g' m + (if g' m ≠ 1000000 then 1 else 0)
    by_cases z : t = m
    · rw [z] at h1 h2
      rw [if_neg (fun q => q h1), if_pos h2]
      have := ctS_mo (n := n) e m
      omega
    · have i := ctS_lt e h1 h2 m (by omega)
      by_cases c : g m ≠ 1000000
      · rw [if_pos c, if_pos (e m c)]; omega
      · rw [if_neg c]; omega
/-- a level that is there needs so many -/
theorem lvS_ct (hf : f < n) : ∀ k : Nat, k < 999999 → (∃ t, t < n ∧ lvS n dr cl f k t = (k : Int)) → k + 1 ≤ ctS n (fun t => lvS n dr cl f k t) n
  | 0, _, _ => by
    have z : ∀ m : Nat, f < m → 1 ≤ ctS n (fun t => lvS n dr cl f 0 t) m := fun m => by
      induction m with
      | zero => intro q; omega
      | succ m i =>
        intro q
        show 1 ≤ ctS n _ m + (if lvS n dr cl f 0 m ≠ 1000000 then 1 else 0)
        by_cases c : f = m
        · rw [if_pos (by rw [← c]; show (if f = f then (0 : Int) else 1000000) ≠ 1000000; rw [if_pos rfl]; omega)]; omega
        · have := i (by omega); omega
    exact z n hf
  | k + 1, hk, ⟨t, ht, e⟩ => by
    have C : lvS n dr cl f k t = 1000000 ∧ t < n ∧ ¬ cl t ∧ ∃ a, a < n ∧ lvS n dr cl f k a = (k : Int) ∧ dr a t := Classical.byContradiction (fun c => by
      have e2 : lvS n dr cl f (k + 1) t = lvS n dr cl f k t := cif_n c
      have := lvS_le (n := n) (dr := dr) (cl := cl) (f := f) k t
      by_cases q : lvS n dr cl f k t = 1000000
      · rw [e2, q] at e
        omega
      · omega)
    obtain ⟨c1, -, -, a, ha, c2, -⟩ := C
    have i := lvS_ct hf k (by omega) ⟨a, ha, c2⟩
    have l := ctS_lt (n := n) (g := fun t => lvS n dr cl f k t) (g' := fun t => lvS n dr cl f (k + 1) t) (t := t) (fun x hx => by have s := lvS_st hx 1; show lvS n dr cl f (k + 1) x ≠ 1000000; rw [s]; exact hx) c1 (by show lvS n dr cl f (k + 1) t ≠ 1000000; rw [e]; have i2 := lvS_le (n := n) (dr := dr) (cl := cl) (f := f) k t; omega) n ht
    omega
end LVS
/-! what the search of the class finds -/
section LV
variable {h : PH} {r d f : Nat}
/-- the edge and what was seen are those of the search by lengths -/
theorem es_lv (hn : 0 ≤ h r 0 ∧ h r 0 ≤ 7) (hf : (f : Int) < h r 0) : ∀ k : Nat, k ≤ 8 → ∀ t : Nat, (t : Int) < h r 0 → (bB (esC h r d (f : Int) k).1 t = true ↔ lvS (h r 0).toNat (fun i j => bB (h d i) j = true) (fun j => bB (h r 1) j = true) f k t = (k : Int)) ∧ (bB (esC h r d (f : Int) k).2 t = true ↔ lvS (h r 0).toNat (fun i j => bB (h d i) j = true) (fun j => bB (h r 1) j = true) f k t ≠ 1000000)
  | 0, _, t, ht => by
    have e : bB (zshl 1 (f : Int)) t = decide (t = f) := bB_one (by omega) (by omega)
    show (bB (zshl 1 (f : Int)) t = true ↔ (if t = f then (0 : Int) else 1000000) = ((0 : Nat) : Int)) ∧ (bB (zshl 1 (f : Int)) t = true ↔ (if t = f then (0 : Int) else 1000000) ≠ 1000000)
    rw [e]
    by_cases c : t = f
    · rw [if_pos c]; simp [c]
    · rw [if_neg c]; simp [c]
  | k + 1, hk, t, ht => by
    have I := es_lv hn hf k (by omega)
    obtain ⟨i1, i2⟩ := I t ht
    have A : bB (zand (zand (arC h d (esC h r d (f : Int) k).1 (h r 0).toNat) (zxor (esC h r d (f : Int) k).2 (-1))) (zxor (h r 1) (-1))) t = true ↔ (lvS (h r 0).toNat (fun i j => bB (h d i) j = true) (fun j => bB (h r 1) j = true) f k t = 1000000 ∧ t < (h r 0).toNat ∧ ¬ bB (h r 1) t = true ∧ ∃ a, a < (h r 0).toNat ∧ lvS (h r 0).toNat (fun i j => bB (h d i) j = true) (fun j => bB (h r 1) j = true) f k a = (k : Int) ∧ bB (h d a) t = true) := by
      rw [bB_and, bB_and, bB_not (by omega), bB_not (by omega), Bool.and_eq_true, Bool.and_eq_true, arC_b (by omega) (by omega)]
      constructor
      · rintro ⟨⟨⟨a, x, y, z⟩, u⟩, w⟩
        refine ⟨Classical.byContradiction (fun q => ?_), by omega, fun q => ?_, a, x, (I a (by omega)).1.mp y, z⟩
        · rw [i2.mpr q] at u; cases u
        · rw [q] at w; cases w
      · rintro ⟨u, -, w, a, x, y, z⟩
        refine ⟨⟨⟨a, x, (I a (by omega)).1.mpr y, z⟩, ?_⟩, ?_⟩
        · cases q : bB (esC h r d (f : Int) k).2 t with
          | false => rfl
          | true => exact absurd u (i2.mp q)
        · cases q : bB (h r 1) t with
          | false => rfl
          | true => exact absurd q w
    have lt : lvS (h r 0).toNat (fun i j => bB (h d i) j = true) (fun j => bB (h r 1) j = true) f k t ≤ k ∨ lvS (h r 0).toNat (fun i j => bB (h d i) j = true) (fun j => bB (h r 1) j = true) f k t = 1000000 := lvS_le k t
    refine ⟨A.trans ?_, ?_⟩
    · constructor
      · intro q; exact cif_p q
      · intro q
        by_cases c : (lvS (h r 0).toNat (fun i j => bB (h d i) j = true) (fun j => bB (h r 1) j = true) f k t = 1000000 ∧ t < (h r 0).toNat ∧ ¬ bB (h r 1) t = true ∧ ∃ a, a < (h r 0).toNat ∧ lvS (h r 0).toNat (fun i j => bB (h d i) j = true) (fun j => bB (h r 1) j = true) f k a = (k : Int) ∧ bB (h d a) t = true)
        · exact c
        · have e := (cif_n (y := lvS (h r 0).toNat (fun i j => bB (h d i) j = true) (fun j => bB (h r 1) j = true) f k t) (x := ((k + 1 : Nat) : Int)) c).symm.trans q
          omega
    · show bB (zor (esC h r d (f : Int) k).2 _) t = true ↔ _
      rw [bB_or, Bool.or_eq_true, i2, A]
      by_cases c : (lvS (h r 0).toNat (fun i j => bB (h d i) j = true) (fun j => bB (h r 1) j = true) f k t = 1000000 ∧ t < (h r 0).toNat ∧ ¬ bB (h r 1) t = true ∧ ∃ a, a < (h r 0).toNat ∧ lvS (h r 0).toNat (fun i j => bB (h d i) j = true) (fun j => bB (h r 1) j = true) f k a = (k : Int) ∧ bB (h d a) t = true)
      · have e : lvS (h r 0).toNat (fun i j => bB (h d i) j = true) (fun j => bB (h r 1) j = true) f (k + 1) t = ((k + 1 : Nat) : Int) := cif_p c
        rw [e]
        exact ⟨fun _ => by omega, fun _ => Or.inr c⟩
      · have e : lvS (h r 0).toNat (fun i j => bB (h d i) j = true) (fun j => bB (h r 1) j = true) f (k + 1) t = lvS (h r 0).toNat (fun i j => bB (h d i) j = true) (fun j => bB (h r 1) j = true) f k t := cif_n c
        rw [e]
        exact ⟨fun z => z.elim (fun q => q) (fun q => absurd q c), fun q => Or.inl q⟩
end LV
