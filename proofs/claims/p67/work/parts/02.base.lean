/-! THE ABSTRACT MACHINE, 1: data. A value is a pair of a tag and a number: (0, n) an int, (1, n) a long, (2, k) the cell k, (3, _) null, (4, k) the int unknown k, (5, k) the long unknown k, (6, i) an old cell. -/
abbrev AV : Type := Nat × Nat
abbrev AC : Type := Nat × Nat × List (List AV)
abbrev AH : Type := Nat × List (List AC)
abbrev AS : Type := List (Nat × Nat)
abbrev AL : Type := List (Nat × AV)
abbrev ME : Type := Nat × Nat × Nat × List Nat × Instr
abbrev MR : Type := MethodName × ByteArray × Nat × Option FieldType × Room × Nat × List ME
abbrev AO : Type := AS × AH × Nat × Nat × Nat × Nat × AL × List AV
abbrev RS : Type := Option (List AO)
noncomputable def ax_fc {β : Type} (n : Nat) (k : Nat → β) : β := Nat.rec (motive := fun _ => β) (k 0) (fun m _ => k (Nat.succ m)) n
theorem ax_fc_eq {β : Type} (n : Nat) (k : Nat → β) : ax_fc n k = k n := by cases n <;> rfl
noncomputable def ax_nth {α : Type} (l : List α) : Nat → Option α := List.rec (motive := fun _ => Nat → Option α) (fun _ => none) (fun x _ ih n => Nat.rec (motive := fun _ => Option α) (some x) (fun m _ => ih m) n) l
theorem ax_nth_eq {α : Type} (l : List α) (n : Nat) : ax_nth l n = l[n]? := by
  induction l generalizing n with
  | nil => rfl
  | cons x t ih =>
    cases n with
    | zero => rfl
    | succ m => exact (ih m).trans (by simp)
noncomputable def ax_set {α β : Type} (l : List α) : Nat → α → (List α → β) → β := List.rec (motive := fun _ => Nat → α → (List α → β) → β) (fun _ _ k => k []) (fun x t ih n v k => Nat.rec (motive := fun _ => β) (k (v :: t)) (fun m _ => ih m v (fun t' => k (x :: t'))) n) l
theorem ax_set_eq {α β : Type} (l : List α) (n : Nat) (v : α) (k : List α → β) : ax_set l n v k = k (l.set n v) := by
  induction l generalizing n k with
  | nil => rfl
  | cons x t ih =>
    cases n with
    | zero => rfl
    | succ m => exact (ih m (fun t' => k (x :: t'))).trans (by simp)
/-- what stands at place j of rows of 64 -/
noncomputable def ax_el (cs : List (List AV)) (j : Nat) : Option AV := match ax_nth cs (j / 64) with
  | some ch => ax_nth ch (j % 64)
  | none => none
def ax_stv (cs : List (List AV)) (j : Nat) (v : AV) : List (List AV) := match cs[j / 64]? with
  | some ch => cs.set (j / 64) (ch.set (j % 64) v)
  | none => cs
noncomputable def ax_st {β : Type} (cs : List (List AV)) (j : Nat) (v : AV) (k : List (List AV) → β) : β := match ax_nth cs (j / 64) with
  | some ch => ax_set ch (j % 64) v (fun ch' => ax_set cs (j / 64) ch' k)
  | none => k cs
theorem ax_st_eq {β : Type} (cs : List (List AV)) (j : Nat) (v : AV) (k : List (List AV) → β) : ax_st cs j v k = k (ax_stv cs j v) := by
  unfold ax_st ax_stv
  rw [ax_nth_eq]
  cases cs[j / 64]? with
  | none => rfl
  | some ch => exact (ax_set_eq _ _ _ _).trans (ax_set_eq _ _ _ _)
theorem ax_el_stv {cs : List (List AV)} {j i : Nat} {v w : AV} (h : ax_el (ax_stv cs j v) i = some w) : (i = j ∧ w = v) ∨ (i ≠ j ∧ ax_el cs i = some w) := by
  unfold ax_el at h ⊢
  rw [ax_nth_eq] at h ⊢
  unfold ax_stv at h
  cases hc : cs[j / 64]? with
  | none =>
    rw [hc] at h
    by_cases hij : i = j
    · subst hij
      simp [hc] at h
    · exact Or.inr ⟨hij, h⟩
  | some ch =>
    rw [hc] at h
    dsimp only at h
    by_cases hq : i / 64 = j / 64
    · rw [hq] at h ⊢
      rw [hc]
      have hl : j / 64 < cs.length := (List.getElem?_eq_some_iff.mp hc).1
      rw [List.getElem?_set_self hl] at h
      dsimp only at h ⊢
      rw [ax_nth_eq] at h ⊢
      by_cases hr : i % 64 = j % 64
      · have hij : i = j := by omega
        rw [hr] at h
        rw [List.getElem?_set] at h
        simp only [if_true] at h
        split at h
        · exact Or.inl ⟨hij, (Option.some.inj h).symm⟩
        · cases h
      · rw [List.getElem?_set_ne (fun q => hr q.symm)] at h
        exact Or.inr ⟨fun q => hr (by rw [q]), h⟩
    · rw [List.getElem?_set_ne (fun q => hq q.symm)] at h
      exact Or.inr ⟨fun q => hq (by rw [q]), h⟩
theorem ax_el_nil {j : Nat} {w : AV} (h : ax_el [] j = some w) : False := by
  unfold ax_el at h
  rw [ax_nth_eq] at h
  simp at h
/-- rows of one value -/
def ax_rep (n : Nat) (v : AV) : List (List AV) := List.replicate (n / 64) (List.replicate 64 v) ++ [List.replicate (n % 64) v]
theorem ax_el_rep {n j : Nat} {v w : AV} (h : ax_el (ax_rep n v) j = some w) : w = v := by
  unfold ax_el at h
  rw [ax_nth_eq] at h
  unfold ax_rep at h
  cases hc : (List.replicate (n / 64) (List.replicate 64 v) ++ [List.replicate (n % 64) v])[j / 64]? with
  | none => rw [hc] at h; cases h
  | some ch =>
    rw [hc] at h
    dsimp only at h
    rw [ax_nth_eq] at h
    have hm := List.mem_of_getElem? hc
    have hw := List.mem_of_getElem? h
    rcases List.mem_append.mp hm with q | q
    · rw [List.eq_of_mem_replicate q] at hw
      exact List.eq_of_mem_replicate hw
    · rw [List.mem_singleton.mp q] at hw
      exact List.eq_of_mem_replicate hw
/-! 2: numbers. An unknown's value is kept with 2^63 added. -/
def zI (r : Int32) : Nat := (r.toInt + 9223372036854775808).toNat
def zL (r : Int64) : Nat := (r.toInt + 9223372036854775808).toNat
theorem i32_rng (r : Int32) : -2147483648 ≤ r.toInt ∧ r.toInt < 2147483648 := ⟨by have := Int32.le_toInt r; omega, by have := Int32.toInt_lt r; omega⟩
theorem i64_rng (r : Int64) : -9223372036854775808 ≤ r.toInt ∧ r.toInt < 9223372036854775808 := ⟨by have := Int64.le_toInt r; omega, by have := Int64.toInt_lt r; omega⟩
theorem nI_toInt_bmod (n : Nat) : (nI n).toInt = (n : Int).bmod 4294967296 := by
  unfold nI
  rw [Int32.toInt_ofNat']
theorem lN_toInt_bmod (n : Nat) : (lN n).toInt = (n : Int).bmod 18446744073709551616 := by
  unfold lN
  rw [Int64.toInt_ofNat']
theorem zI_cast (r : Int32) : (zI r : Int) = r.toInt + 9223372036854775808 := by
  have := i32_rng r
  unfold zI
  omega
theorem zL_cast (r : Int64) : (zL r : Int) = r.toInt + 9223372036854775808 := by
  have := i64_rng r
  unfold zL
  omega
theorem zI_back (r : Int32) : nI (zI r + 9223372036854775808) = r := by
  apply Int32.toInt_inj.mp
  rw [nI_toInt_bmod]
  have h1 := zI_cast r
  have h2 := i32_rng r
  rw [Int.bmod_def]
  omega
theorem zL_back (r : Int64) : lN (zL r + 9223372036854775808) = r := by
  apply Int64.toInt_inj.mp
  rw [lN_toInt_bmod]
  have h1 := zL_cast r
  have h2 := i64_rng r
  rw [Int.bmod_def]
  omega
theorem zI_rng (r : Int32) : 9223372034707292160 ≤ zI r ∧ zI r ≤ 9223372039002259455 := by
  have h1 := zI_cast r
  have h2 := i32_rng r
  omega
theorem zL_rng (r : Int64) : zL r ≤ 18446744073709551615 := by
  have h1 := zL_cast r
  have h2 := i64_rng r
  omega
/-- an unknown int's number, by its kept value -/
theorem nI_z {z : Nat} (h1 : 9223372034707292160 ≤ z) (h2 : z ≤ 9223372039002259455) : (nI (z + 9223372036854775808)).toInt = (z : Int) - 9223372036854775808 := by
  rw [nI_toInt_bmod, Int.bmod_def]
  omega
theorem lN_z {z : Nat} (h2 : z ≤ 18446744073709551615) : (lN (z + 9223372036854775808)).toInt = (z : Int) - 9223372036854775808 := by
  rw [lN_toInt_bmod, Int.bmod_def]
  omega
def ax_bi (n : Nat) : Nat := if n < 2147483648 then n + 9223372036854775808 else n + 9223372036854775808 - 4294967296
def ax_bl (n : Nat) : Nat := if n < 9223372036854775808 then n + 9223372036854775808 else n - 9223372036854775808
theorem nI_b {n : Nat} (h : n < 4294967296) : (nI n).toInt = (ax_bi n : Int) - 9223372036854775808 := by
  rw [nI_toInt_bmod, Int.bmod_def]
  unfold ax_bi
  by_cases hn : n < 2147483648
  · rw [if_pos hn]; omega
  · rw [if_neg hn]; omega
theorem lN_b {n : Nat} (h : n < 18446744073709551616) : (lN n).toInt = (ax_bl n : Int) - 9223372036854775808 := by
  rw [lN_toInt_bmod, Int.bmod_def]
  unfold ax_bl
  by_cases hn : n < 9223372036854775808
  · rw [if_pos hn]; omega
  · rw [if_neg hn]; omega
theorem nI_mod (n : Nat) : nI (n % 4294967296) = nI n := by
  apply Int32.toInt_inj.mp
  rw [nI_toInt_bmod, nI_toInt_bmod, Int.bmod_def, Int.bmod_def]
  omega
theorem lN_mod (n : Nat) : lN (n % 18446744073709551616) = lN n := by
  apply Int64.toInt_inj.mp
  rw [lN_toInt_bmod, lN_toInt_bmod, Int.bmod_def, Int.bmod_def]
  omega
/-! 3: what the abstract stands for -/
def Sb {α : Type} (l l' : List α) : Prop := ∀ (k : Nat) (x : α), l[k]? = some x → l'[k]? = some x
theorem Sb.rf {α : Type} (l : List α) : Sb l l := fun _ _ h => h
theorem Sb.tr {α : Type} {a b c : List α} (h1 : Sb a b) (h2 : Sb b c) : Sb a c := fun k x h => h2 k x (h1 k x h)
theorem Sb.app {α : Type} (l r : List α) : Sb l (l ++ r) := fun k x h => by
  rw [List.getElem?_append_left ((List.getElem?_eq_some_iff.mp h).1)]
  exact h
def Rp (sp : Nat → Nat) (ρ ad : List Nat) (v : AV) (V : Value) : Prop := match v with
  | (0, n) => V = .int (nI n)
  | (1, n) => V = .long (lN n)
  | (2, k) => ∃ a, ad[k]? = some a ∧ V = .ref a
  | (3, _) => V = .null
  | (4, k) => ∃ z, ρ[k]? = some z ∧ V = .int (nI (z + 9223372036854775808))
  | (5, k) => ∃ z, ρ[k]? = some z ∧ V = .long (lN (z + 9223372036854775808))
  | (6, i) => V = .ref (sp i)
  | (7, _) => V.category = 1
  | _ => False
theorem Rp.mono {sp : Nat → Nat} {ρ ρ' ad ad' : List Nat} (h1 : Sb ρ ρ') (h2 : Sb ad ad') {v : AV} {V : Value} (h : Rp sp ρ ad v V) : Rp sp ρ' ad' v V := by
  obtain ⟨t, n⟩ := v
  match t, h with
  | 0, h => exact h
  | 1, h => exact h
  | 2, ⟨a, ha, e⟩ => exact ⟨a, h2 _ _ ha, e⟩
  | 3, h => exact h
  | 4, ⟨z, hz, e⟩ => exact ⟨z, h1 _ _ hz, e⟩
  | 5, ⟨z, hz, e⟩ => exact ⟨z, h1 _ _ hz, e⟩
  | 6, h => exact h
  | 7, h => exact h
def St (ρ : List Nat) (σ : AS) : Prop := ρ.length = σ.length ∧ ∀ (k z : Nat), ρ[k]? = some z → ∃ q, σ[k]? = some q ∧ q.1 ≤ z ∧ z ≤ q.2
theorem St.app {ρ : List Nat} {σ : AS} (h : St ρ σ) {z lo hi : Nat} (h1 : lo ≤ z) (h2 : z ≤ hi) : St (ρ ++ [z]) (σ ++ [(lo, hi)]) := by
  refine ⟨by simp [h.1], fun k y hy => ?_⟩
  by_cases hk : k < ρ.length
  · rw [List.getElem?_append_left hk] at hy
    obtain ⟨q, e1, e2⟩ := h.2 k y hy
    exact ⟨q, by rw [List.getElem?_append_left (by rw [← h.1]; exact hk)]; exact e1, e2⟩
  · rw [List.getElem?_append_right (by omega)] at hy
    have hz : k - ρ.length < 1 := (List.getElem?_eq_some_iff.mp hy).1
    have hk0 : k = ρ.length := by omega
    subst hk0
    simp at hy
    subst hy
    exact ⟨(lo, hi), by rw [h.1]; simp, h1, h2⟩
theorem St.cut {ρ : List Nat} {σ : AS} (h : St ρ σ) {k lo hi : Nat} (hz : ∀ z, ρ[k]? = some z → lo ≤ z ∧ z ≤ hi) : St ρ (σ.set k (lo, hi)) := by
  refine ⟨by simp [h.1], fun j y hy => ?_⟩
  obtain ⟨q, e1, e2⟩ := h.2 j y hy
  by_cases hj : j = k
  · subst hj
    have hl : j < σ.length := (List.getElem?_eq_some_iff.mp e1).1
    exact ⟨(lo, hi), by rw [List.getElem?_set_self hl], hz y hy⟩
  · exact ⟨q, by rw [List.getElem?_set_ne (fun q => hj q.symm)]; exact e1, e2⟩
