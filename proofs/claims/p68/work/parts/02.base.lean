section
/-! 02.base -/
/-! THE ABSTRACT MACHINE, 1: data. A value is a pair of a tag and a number: (0, n) an int, (1, n) a long, (2, k) the cell k, (3, _) null, (4, k) the int unknown k, (5, k) the long unknown k, (6, i) an old cell. -/
abbrev AV : Type := Nat × Nat
abbrev AC : Type := Nat × Nat × List (List AV)
abbrev AH : Type := Nat × List (List AC)
abbrev AS : Type := List (Nat × Nat)
abbrev AL : Type := List (Nat × AV)
abbrev ME : Type := Nat × Nat × Nat × List Nat × Instr
abbrev MR : Type := MethodName × ByteArray × Nat × Option FieldType × Room × Nat × List ME
abbrev AO : Type := AS × AH × Nat × Nat × Nat × Nat × AL × List AV
abbrev RS : Type := Option (List AO)
noncomputable def ax_fc {β : Type} (n : Nat) (k : Nat → β) : β := Nat.rec (motive := fun _ => β) (k 0) (fun m _ => k (Nat.succ m)) n
theorem ax_fc_eq {β : Type} (n : Nat) (k : Nat → β) : ax_fc n k = k n := by cases n <;> rfl
noncomputable def ax_nth {α : Type} (l : List α) : Nat → Option α := List.rec (motive := fun _ => Nat → Option α) (fun _ => none) (fun x _ ih n => Nat.rec (motive := fun _ => Option α) (some x) (fun m _ => ih m) n) l
theorem ax_nth_eq {α : Type} (l : List α) (n : Nat) : ax_nth l n = l[n]? := by
  induction l generalizing n with
  | nil => rfl
  | cons x t ih =>
    cases n with
    | zero => rfl
    | succ m => exact (ih m).trans (by simp)
noncomputable def ax_set {α β : Type} (l : List α) : Nat → α → (List α → β) → β := List.rec (motive := fun _ => Nat → α → (List α → β) → β) (fun _ _ k => k []) (fun x t ih n v k => Nat.rec (motive := fun _ => β) (k (v :: t)) (fun m _ => ih m v (fun t' => k (x :: t'))) n) l
theorem ax_set_eq {α β : Type} (l : List α) (n : Nat) (v : α) (k : List α → β) : ax_set l n v k = k (l.set n v) := by
  induction l generalizing n k with
  | nil => rfl
  | cons x t ih =>
    cases n with
    | zero => rfl
    | succ m => exact (ih m (fun t' => k (x :: t'))).trans (by simp)
/-- what stands at place j of rows of 64 -/
noncomputable def ax_el (cs : List (List AV)) (j : Nat) : Option AV := match ax_nth cs (j / 64) with
  | some ch => ax_nth ch (j % 64)
  | none => none
def ax_stv (cs : List (List AV)) (j : Nat) (v : AV) : List (List AV) := match cs[j / 64]? with
  | some ch => cs.set (j / 64) (ch.set (j % 64) v)
  | none => cs
noncomputable def ax_st {β : Type} (cs : List (List AV)) (j : Nat) (v : AV) (k : List (List AV) → β) : β := match ax_nth cs (j / 64) with
  | some ch => ax_set ch (j % 64) v (fun ch' => ax_set cs (j / 64) ch' k)
  | none => k cs
theorem ax_st_eq {β : Type} (cs : List (List AV)) (j : Nat) (v : AV) (k : List (List AV) → β) : ax_st cs j v k = k (ax_stv cs j v) := by
  unfold ax_st ax_stv
  rw [ax_nth_eq]
  cases cs[j / 64]? with
  | none => rfl
  | some ch => exact (ax_set_eq _ _ _ _).trans (ax_set_eq _ _ _ _)
theorem ax_el_stv {cs : List (List AV)} {j i : Nat} {v w : AV} (h : ax_el (ax_stv cs j v) i = some w) : (i = j ∧ w = v) ∨ (i ≠ j ∧ ax_el cs i = some w) := by
  unfold ax_el at h ⊢
  rw [ax_nth_eq] at h ⊢
  unfold ax_stv at h
  cases hc : cs[j / 64]? with
  | none =>
    rw [hc] at h
    by_cases hij : i = j
    · subst hij
      simp [hc] at h
    · exact Or.inr ⟨hij, h⟩
  | some ch =>
    rw [hc] at h
    dsimp only at h
    by_cases hq : i / 64 = j / 64
    · rw [hq] at h ⊢
      rw [hc]
      have hl : j / 64 < cs.length := (List.getElem?_eq_some_iff.mp hc).1
      rw [List.getElem?_set_self hl] at h
      dsimp only at h ⊢
      rw [ax_nth_eq] at h ⊢
      by_cases hr : i % 64 = j % 64
      · have hij : i = j := by omega
        rw [hr] at h
        rw [List.getElem?_set] at h
        simp only [if_true] at h
        split at h
        · exact Or.inl ⟨hij, (Option.some.inj h).symm⟩
        · cases h
      · rw [List.getElem?_set_ne (fun q => hr q.symm)] at h
        exact Or.inr ⟨fun q => hr (by rw [q]), h⟩
    · rw [List.getElem?_set_ne (fun q => hq q.symm)] at h
      exact Or.inr ⟨fun q => hq (by rw [q]), h⟩
theorem ax_el_nil {j : Nat} {w : AV} (h : ax_el [] j = some w) : False := by
  unfold ax_el at h
  rw [ax_nth_eq] at h
  simp at h
/-- rows of one value -/
def ax_rep (n : Nat) (v : AV) : List (List AV) := List.replicate (n / 64) (List.replicate 64 v) ++ [List.replicate (n % 64) v]
theorem ax_el_rep {n j : Nat} {v w : AV} (h : ax_el (ax_rep n v) j = some w) : w = v := by
  unfold ax_el at h
  rw [ax_nth_eq] at h
  unfold ax_rep at h
  cases hc : (List.replicate (n / 64) (List.replicate 64 v) ++ [List.replicate (n % 64) v])[j / 64]? with
  | none => rw [hc] at h; cases h
  | some ch =>
    rw [hc] at h
    dsimp only at h
    rw [ax_nth_eq] at h
    have hm := List.mem_of_getElem? hc
    have hw := List.mem_of_getElem? h
    rcases List.mem_append.mp hm with q | q
    · rw [List.eq_of_mem_replicate q] at hw
      exact List.eq_of_mem_replicate hw
    · rw [List.mem_singleton.mp q] at hw
      exact List.eq_of_mem_replicate hw
/-! 2: numbers. An unknown's value is kept with 2^63 added. -/
def zI (r : Int32) : Nat := (r.toInt + 9223372036854775808).toNat
def zL (r : Int64) : Nat := (r.toInt + 9223372036854775808).toNat
theorem i32_rng (r : Int32) : -2147483648 ≤ r.toInt ∧ r.toInt < 2147483648 := ⟨by have := Int32.le_toInt r; omega, by have := Int32.toInt_lt r; omega⟩
theorem i64_rng (r : Int64) : -9223372036854775808 ≤ r.toInt ∧ r.toInt < 9223372036854775808 := ⟨by have := Int64.le_toInt r; omega, by have := Int64.toInt_lt r; omega⟩
theorem nI_toInt_bmod (n : Nat) : (nI n).toInt = (n : Int).bmod 4294967296 := by
  unfold nI
  rw [Int32.toInt_ofNat']
theorem lN_toInt_bmod (n : Nat) : (lN n).toInt = (n : Int).bmod 18446744073709551616 := by
  unfold lN
  rw [Int64.toInt_ofNat']
theorem zI_cast (r : Int32) : (zI r : Int) = r.toInt + 9223372036854775808 := by
  have := i32_rng r
  unfold zI
  omega
theorem zL_cast (r : Int64) : (zL r : Int) = r.toInt + 9223372036854775808 := by
  have := i64_rng r
  unfold zL
  omega
theorem zI_back (r : Int32) : nI (zI r + 9223372036854775808) = r := by
  apply Int32.toInt_inj.mp
  rw [nI_toInt_bmod]
  have h1 := zI_cast r
  have h2 := i32_rng r
  rw [Int.bmod_def]
  omega
theorem zL_back (r : Int64) : lN (zL r + 9223372036854775808) = r := by
  apply Int64.toInt_inj.mp
  rw [lN_toInt_bmod]
  have h1 := zL_cast r
  have h2 := i64_rng r
  rw [Int.bmod_def]
  omega
theorem zI_rng (r : Int32) : 9223372034707292160 ≤ zI r ∧ zI r ≤ 9223372039002259455 := by
  have h1 := zI_cast r
  have h2 := i32_rng r
  omega
theorem zL_rng (r : Int64) : zL r ≤ 18446744073709551615 := by
  have h1 := zL_cast r
  have h2 := i64_rng r
  omega
/-- an unknown int's number, by its kept value -/
theorem nI_z {z : Nat} (h1 : 9223372034707292160 ≤ z) (h2 : z ≤ 9223372039002259455) : (nI (z + 9223372036854775808)).toInt = (z : Int) - 9223372036854775808 := by
  rw [nI_toInt_bmod, Int.bmod_def]
  omega
theorem lN_z {z : Nat} (h2 : z ≤ 18446744073709551615) : (lN (z + 9223372036854775808)).toInt = (z : Int) - 9223372036854775808 := by
  rw [lN_toInt_bmod, Int.bmod_def]
  omega
def ax_bi (n : Nat) : Nat := if n < 2147483648 then n + 9223372036854775808 else n + 9223372036854775808 - 4294967296
def ax_bl (n : Nat) : Nat := if n < 9223372036854775808 then n + 9223372036854775808 else n - 9223372036854775808
theorem nI_b {n : Nat} (h : n < 4294967296) : (nI n).toInt = (ax_bi n : Int) - 9223372036854775808 := by
  rw [nI_toInt_bmod, Int.bmod_def]
  unfold ax_bi
  by_cases hn : n < 2147483648
  · rw [if_pos hn]; omega
  · rw [if_neg hn]; omega
theorem lN_b {n : Nat} (h : n < 18446744073709551616) : (lN n).toInt = (ax_bl n : Int) - 9223372036854775808 := by
  rw [lN_toInt_bmod, Int.bmod_def]
  unfold ax_bl
  by_cases hn : n < 9223372036854775808
  · rw [if_pos hn]; omega
  · rw [if_neg hn]; omega
theorem nI_mod (n : Nat) : nI (n % 4294967296) = nI n := by
  apply Int32.toInt_inj.mp
  rw [nI_toInt_bmod, nI_toInt_bmod, Int.bmod_def, Int.bmod_def]
  omega
theorem lN_mod (n : Nat) : lN (n % 18446744073709551616) = lN n := by
  apply Int64.toInt_inj.mp
  rw [lN_toInt_bmod, lN_toInt_bmod, Int.bmod_def, Int.bmod_def]
  omega
/-! 3: what the abstract stands for -/
def Sb {α : Type} (l l' : List α) : Prop := ∀ (k : Nat) (x : α), l[k]? = some x → l'[k]? = some x
theorem Sb.rf {α : Type} (l : List α) : Sb l l := fun _ _ h => h
theorem Sb.tr {α : Type} {a b c : List α} (h1 : Sb a b) (h2 : Sb b c) : Sb a c := fun k x h => h2 k x (h1 k x h)
theorem Sb.app {α : Type} (l r : List α) : Sb l (l ++ r) := fun k x h => by
  rw [List.getElem?_append_left ((List.getElem?_eq_some_iff.mp h).1)]
  exact h
def Rp (sp : Nat → Nat) (ρ ad : List Nat) (v : AV) (V : Value) : Prop := match v with
  | (0, n) => V = .int (nI n)
  | (1, n) => V = .long (lN n)
  | (2, k) => ∃ a, ad[k]? = some a ∧ V = .ref a
  | (3, _) => V = .null
  | (4, k) => ∃ z, ρ[k]? = some z ∧ V = .int (nI (z + 9223372036854775808))
  | (5, k) => ∃ z, ρ[k]? = some z ∧ V = .long (lN (z + 9223372036854775808))
  | (6, i) => V = .ref (sp i)
  | (7, _) => V.category = 1
  | _ => False
theorem Rp.mono {sp : Nat → Nat} {ρ ρ' ad ad' : List Nat} (h1 : Sb ρ ρ') (h2 : Sb ad ad') {v : AV} {V : Value} (h : Rp sp ρ ad v V) : Rp sp ρ' ad' v V := by
  obtain ⟨t, n⟩ := v
  match t, h with
  | 0, h => exact h
  | 1, h => exact h
  | 2, ⟨a, ha, e⟩ => exact ⟨a, h2 _ _ ha, e⟩
  | 3, h => exact h
  | 4, ⟨z, hz, e⟩ => exact ⟨z, h1 _ _ hz, e⟩
  | 5, ⟨z, hz, e⟩ => exact ⟨z, h1 _ _ hz, e⟩
  | 6, h => exact h
  | 7, h => exact h
def St (ρ : List Nat) (σ : AS) : Prop := ρ.length = σ.length ∧ ∀ (k z : Nat), ρ[k]? = some z → ∃ q, σ[k]? = some q ∧ q.1 ≤ z ∧ z ≤ q.2
theorem St.app {ρ : List Nat} {σ : AS} (h : St ρ σ) {z lo hi : Nat} (h1 : lo ≤ z) (h2 : z ≤ hi) : St (ρ ++ [z]) (σ ++ [(lo, hi)]) := by
  refine ⟨by simp [h.1], fun k y hy => ?_⟩
  by_cases hk : k < ρ.length
  · rw [List.getElem?_append_left hk] at hy
    obtain ⟨q, e1, e2⟩ := h.2 k y hy
    exact ⟨q, by rw [List.getElem?_append_left (by rw [← h.1]; exact hk)]; exact e1, e2⟩
  · rw [List.getElem?_append_right (by omega)] at hy
    have hz : k - ρ.length < 1 := (List.getElem?_eq_some_iff.mp hy).1
    have hk0 : k = ρ.length := by omega
    subst hk0
    simp at hy
    subst hy
    exact ⟨(lo, hi), by rw [h.1]; simp, h1, h2⟩
theorem St.cut {ρ : List Nat} {σ : AS} (h : St ρ σ) {k lo hi : Nat} (hz : ∀ z, ρ[k]? = some z → lo ≤ z ∧ z ≤ hi) : St ρ (σ.set k (lo, hi)) := by
  refine ⟨by simp [h.1], fun j y hy => ?_⟩
  obtain ⟨q, e1, e2⟩ := h.2 j y hy
  by_cases hj : j = k
  · subst hj
    have hl : j < σ.length := (List.getElem?_eq_some_iff.mp e1).1
    exact ⟨(lo, hi), by rw [List.getElem?_set_self hl], hz y hy⟩
  · exact ⟨q, by rw [List.getElem?_set_ne (fun q => hj q.symm)]; exact e1, e2⟩
end
section
/-! 03.exec -/
/-! THE ABSTRACT MACHINE, 2: its steps -/
noncomputable def ob {α β : Type} (o : Option α) (k : α → Option β) : Option β := Option.rec (motive := fun _ => Option β) none k o
noncomputable def lc {α β : Type} (l : List α) (k : α → List α → Option β) : Option β := List.rec (motive := fun _ => Option β) none (fun x t _ => k x t) l
noncomputable def gd {β : Type} (b : Bool) (x : Option β) : Option β := Bool.rec (motive := fun _ => Option β) none x b
theorem ob_s {α β : Type} {o : Option α} {k : α → Option β} {r : β} (h : ob o k = some r) : ∃ x, o = some x ∧ k x = some r := by
  cases o with
  | none => cases h
  | some x => exact ⟨x, rfl, h⟩
theorem lc_s {α β : Type} {l : List α} {k : α → List α → Option β} {r : β} (h : lc l k = some r) : ∃ x t, l = x :: t ∧ k x t = some r := by
  cases l with
  | nil => cases h
  | cons x t => exact ⟨x, t, rfl, h⟩
theorem gd_s {β : Type} {b : Bool} {x : Option β} {r : β} (h : gd b x = some r) : b = true ∧ x = some r := by
  cases b with
  | false => cases h
  | true => exact ⟨rfl, h⟩
noncomputable def ax_lk (lv : AL) (i : Nat) : Option AV := List.rec (motive := fun _ => Option AV) none (fun q _ ih => bif Nat.beq q.1 i then some q.2 else ih) lv
def ax_c2 (v : AV) : Bool := Nat.beq v.1 1 || Nat.beq v.1 5
noncomputable def ax_flt {β : Type} (keep : Nat × AV → Bool) (lv : AL) : (AL → β) → β := List.rec (motive := fun _ => (AL → β) → β) (fun k => k []) (fun q _ ih k => ih (fun t => bif keep q then k (q :: t) else k t)) lv
def ax_k1 (i : Nat) : Nat × AV → Bool := fun q => !(Nat.beq q.1 i) && !(Nat.beq (q.1 + 1) i && ax_c2 q.2)
def ax_k2 (i : Nat) : Nat × AV → Bool := fun q => !(Nat.beq q.1 i) && (!(Nat.beq q.1 (i + 1)) && !(Nat.beq (q.1 + 1) i && ax_c2 q.2))
/-- an int, a long, a cell -/
def ax_tI (v : AV) : Bool := Nat.beq v.1 0 || Nat.beq v.1 4
def ax_tL (v : AV) : Bool := Nat.beq v.1 1 || Nat.beq v.1 5
def ax_tR (v : AV) : Bool := Nat.beq v.1 2 || Nat.beq v.1 6
/-- an unknown that can be one number alone is that number -/
noncomputable def ax_nv (σ : AS) (v : AV) : AV := bif Nat.beq v.1 4 then (match ax_nth σ v.2 with
  | some q => bif Nat.beq q.1 q.2 then (0, (q.1 + 9223372036854775808) % 4294967296) else v
  | none => v) else v
noncomputable def ax_rI (σ : AS) (v : AV) : Option (Nat × Nat) :=
  bif Nat.beq v.1 0 then gd (Nat.blt v.2 4294967296) (some (ax_bi v.2, ax_bi v.2))
  else gd (Nat.beq v.1 4) (ob (ax_nth σ v.2) (fun q => gd (Nat.ble 9223372034707292160 q.1 && Nat.ble q.2 9223372039002259455) (some q)))
noncomputable def ax_rL (σ : AS) (v : AV) : Option (Nat × Nat) :=
  bif Nat.beq v.1 1 then gd (Nat.blt v.2 18446744073709551616) (some (ax_bl v.2, ax_bl v.2))
  else gd (Nat.beq v.1 5) (ob (ax_nth σ v.2) (fun q => gd (Nat.ble q.2 18446744073709551615) (some q)))
def ax_full : Nat × Nat := (9223372034707292160, 9223372039002259455)
def ax_fullL : Nat × Nat := (0, 18446744073709551615)
/-- int operations on numbers: 0 add, 1 sub, 2 mul, 3 and, 4 or, 5 xor, 6 shl, 7 shr, 8 ushr -/
def ax_cop (op x y : Nat) : Nat := match op with
  | 0 => (x + y) % 4294967296
  | 1 => (x + (4294967296 - y)) % 4294967296
  | 2 => (x * y) % 4294967296
  | 3 => Nat.land x y
  | 4 => Nat.lor x y
  | 5 => Nat.xor x y
  | 6 => (x * 2 ^ (y % 32)) % 4294967296
  | 7 => bif Nat.blt x 2147483648 then x / 2 ^ (y % 32) else 4294967295 - (4294967295 - x) / 2 ^ (y % 32)
  | _ => x / 2 ^ (y % 32)
def ax_iv (op : Nat) (a b : Nat × Nat) : Nat × Nat := match op with
  | 0 => bif Nat.ble 18446744071562067968 (a.1 + b.1) && Nat.ble (a.2 + b.2) 18446744075857035263 then (a.1 + b.1 - 9223372036854775808, a.2 + b.2 - 9223372036854775808) else ax_full
  | 1 => bif Nat.ble (9223372034707292160 + b.2) (a.1 + 9223372036854775808) && Nat.ble (a.2 + 9223372036854775808) (9223372039002259455 + b.1) then (a.1 + 9223372036854775808 - b.2, a.2 + 9223372036854775808 - b.1) else ax_full
  | 3 => bif Nat.beq b.1 b.2 && Nat.ble 9223372036854775808 b.1 then (9223372036854775808, b.1) else ax_full
  | _ => ax_full
/-- a new unknown -/
def ax_nw {β : Type} (tag : Nat) (σ : AS) (q : Nat × Nat) (k : AS → AV → Option β) : Option β := k (σ ++ [q]) (tag, σ.length)
noncomputable def ax_ib {β : Type} (op : Nat) (σ : AS) (a b : AV) (k : AS → AV → Option β) : Option β :=
  bif Nat.beq a.1 0 && Nat.beq b.1 0 then gd (Nat.blt a.2 4294967296 && Nat.blt b.2 4294967296) (ax_fc (ax_cop op a.2 b.2) (fun n => k σ (0, n)))
  else ob (ax_rI σ a) (fun ra => ob (ax_rI σ b) (fun rb => ax_nw 4 σ (ax_iv op ra rb) k))
/-- int division (0) and rest (1), by a number above 0 -/
noncomputable def ax_id {β : Type} (op : Nat) (σ : AS) (a b : AV) (k : AS → AV → Option β) : Option β :=
  gd (Nat.beq b.1 0 && (Nat.ble 1 b.2 && Nat.blt b.2 2147483648))
    (bif Nat.beq a.1 0 && Nat.blt a.2 2147483648 then ax_fc (bif Nat.beq op 0 then a.2 / b.2 else a.2 % b.2) (fun n => k σ (0, n))
     else ob (ax_rI σ a) (fun _ => ax_nw 4 σ ax_full k))
/-- long operations on numbers: 0 add, 1 sub, 2 mul, 3 and, 4 or -/
def ax_lop (op x y : Nat) : Nat := match op with
  | 0 => (x + y) % 18446744073709551616
  | 1 => (x + (18446744073709551616 - y)) % 18446744073709551616
  | 2 => (x * y) % 18446744073709551616
  | 3 => Nat.land x y
  | _ => Nat.lor x y
noncomputable def ax_lb {β : Type} (op : Nat) (σ : AS) (a b : AV) (k : AS → AV → Option β) : Option β :=
  bif Nat.beq a.1 1 && Nat.beq b.1 1 then gd (Nat.blt a.2 18446744073709551616 && Nat.blt b.2 18446744073709551616) (ax_fc (ax_lop op a.2 b.2) (fun n => k σ (1, n)))
  else gd (ax_tL a && ax_tL b) (ax_nw 5 σ ax_fullL k)
/-- conversions of an int: 0 i2b, 1 i2s, 2 i2c, 3 ineg -/
def ax_cu (op x : Nat) : Nat := match op with
  | 0 => bif Nat.blt (x % 256) 128 then x % 256 else x % 256 + 4294967040
  | 1 => bif Nat.blt (x % 65536) 32768 then x % 65536 else x % 65536 + 4294901760
  | 2 => x % 65536
  | _ => (4294967296 - x) % 4294967296
def ax_cuv (op : Nat) : Nat × Nat := match op with
  | 0 => (9223372036854775680, 9223372036854775935)
  | 1 => (9223372036854743040, 9223372036854808575)
  | 2 => (9223372036854775808, 9223372036854841343)
  | _ => ax_full
noncomputable def ax_un {β : Type} (op : Nat) (σ : AS) (a : AV) (k : AS → AV → Option β) : Option β :=
  bif Nat.beq a.1 0 then gd (Nat.blt a.2 4294967296) (ax_fc (ax_cu op a.2) (fun n => k σ (0, n)))
  else gd (Nat.beq a.1 4) (ax_nw 4 σ (ax_cuv op) k)
noncomputable def ax_i2l {β : Type} (σ : AS) (a : AV) (k : AS → AV → Option β) : Option β :=
  bif Nat.beq a.1 0 then gd (Nat.blt a.2 4294967296) (ax_fc (bif Nat.blt a.2 2147483648 then a.2 else a.2 + 18446744069414584320) (fun n => k σ (1, n)))
  else gd (Nat.beq a.1 4) (ob (ax_rI σ a) (fun _ => k σ (5, a.2)))
noncomputable def ax_l2i {β : Type} (σ : AS) (a : AV) (k : AS → AV → Option β) : Option β :=
  bif Nat.beq a.1 1 then ax_fc (a.2 % 4294967296) (fun n => k σ (0, n))
  else gd (Nat.beq a.1 5) (ax_nw 4 σ ax_full k)
noncomputable def ax_lsh {β : Type} (σ : AS) (a b : AV) (k : AS → AV → Option β) : Option β := gd (ax_tL a && ax_tI b) (ax_nw 5 σ ax_fullL k)
/-- a comparison of longs that can be decided: less, more, equal -/
noncomputable def ax_lcm {β : Type} (ra rb : Nat × Nat) (kd : Nat → Option β) (ku : Option β) : Option β :=
  bif Nat.blt ra.2 rb.1 then kd 4294967295 else bif Nat.blt rb.2 ra.1 then kd 1 else bif Nat.beq ra.1 ra.2 && (Nat.beq rb.1 rb.2 && Nat.beq ra.1 rb.1) then kd 0 else ku
/-! branches -/
noncomputable def ax_cut (σ : AS) (v : AV) (lo hi : Nat) : AS := bif Nat.beq v.1 4 then ax_set σ v.2 (lo, hi) (fun s => s) else σ
noncomputable def ax_lt (σ : AS) (a b : AV) : Option (Option AS × Option AS) := ob (ax_rI σ a) (fun ra => ob (ax_rI σ b) (fun rb => some (
        (gd (Nat.blt ra.1 rb.2) (some (ax_cut (ax_cut σ a ra.1 (min ra.2 (rb.2 - 1))) b (max rb.1 (ra.1 + 1)) rb.2))),
        (gd (Nat.ble rb.1 ra.2) (some (ax_cut (ax_cut σ a (max ra.1 rb.1) ra.2) b rb.1 (min rb.2 ra.2)))))))
noncomputable def ax_eq (σ : AS) (a b : AV) : Option (Option AS × Option AS) := ob (ax_rI σ a) (fun ra => ob (ax_rI σ b) (fun rb => some (
        (gd (Nat.ble (max ra.1 rb.1) (min ra.2 rb.2)) (some (ax_cut (ax_cut σ a (max ra.1 rb.1) (min ra.2 rb.2)) b (max ra.1 rb.1) (min ra.2 rb.2)))),
        (bif Nat.beq ra.1 ra.2 && (Nat.beq rb.1 rb.2 && Nat.beq ra.1 rb.1) then none
         else some (bif Nat.beq rb.1 rb.2 then ax_cut σ a (bif Nat.beq ra.1 rb.1 then ra.1 + 1 else ra.1) (bif Nat.beq ra.2 rb.1 then ra.2 - 1 else ra.2) else σ)))))
noncomputable def ax_two (x y : RS) : RS := ob x (fun l => ob y (fun l' => some (l ++ l')))
noncomputable def ax_go (o : Option AS) (go : AS → RS) : RS := Option.rec (motive := fun _ => RS) (some []) go o
noncomputable def ax_br (r : Option (Option AS × Option AS)) (gt gf : AS → RS) : RS := ob r (fun q => ax_two (ax_go q.1 gt) (ax_go q.2 gf))
/-- the six conditions: 0 eq, 1 ne, 2 lt, 3 ge, 4 gt, 5 le -/
noncomputable def ax_cnd (c : Nat) (σ : AS) (a b : AV) (gt gf : AS → RS) : RS :=
  bif Nat.ble c 1 then (bif Nat.beq c 0 then ax_br (ax_eq σ a b) gt gf else ax_br (ax_eq σ a b) gf gt)
  else bif Nat.ble c 3 then (bif Nat.beq c 2 then ax_br (ax_lt σ a b) gt gf else ax_br (ax_lt σ a b) gf gt)
  else (bif Nat.beq c 4 then ax_br (ax_lt σ b a) gt gf else ax_br (ax_lt σ b a) gf gt)
noncomputable def ax_sw (go : Nat → AS → RS) (v : AV) (d : Nat) (ks : List Nat) : AS → RS := match ks with
  | k :: t :: r => fun σ => ax_br (ax_eq σ v (0, k)) (go t) (ax_sw go v d r)
  | _ => go d
noncomputable def ax_all (l : List RS) : RS := List.rec (motive := fun _ => RS) (some []) (fun x _ ih => ax_two x ih) l
noncomputable def ax_jmp (tab : List ME) (pc : Nat) : List ME := List.rec (motive := fun _ => List ME) [] (fun e t ih => bif Nat.beq e.1 pc then e :: t else ih) tab
end
section
/-! 04.heap -/
/-! steps on the heap: rows of 16 cells -/
noncomputable def ax_hn (h : AH) (k : Nat) : Option AC := ob (ax_nth h.2 (k / 16)) (fun r => ax_nth r (k % 16))
noncomputable def ax_hs {β : Type} (h : AH) (k : Nat) (c : AC) (kk : AH → Option β) : Option β := ob (ax_nth h.2 (k / 16)) (fun r => ax_set r (k % 16) c (fun r' => ax_set h.2 (k / 16) r' (fun t => kk (h.1, t))))
noncomputable def ax_ha {β : Type} (h : AH) (c : AC) (kk : AH → Option β) : Option β :=
  bif Nat.beq (h.1 % 16) 0 then gd (Nat.beq h.2.length (h.1 / 16)) (ax_fc (h.1 + 1) (fun n => kk (n, h.2 ++ [[c]])))
  else ob (ax_nth h.2 (h.1 / 16)) (fun r => gd (Nat.beq r.length (h.1 % 16)) (ax_set h.2 (h.1 / 16) (r ++ [c]) (fun t => ax_fc (h.1 + 1) (fun n => kk (n, t)))))
/-- the field k of a cell of kind ci; of an old String (kind 200) its bytes (0) and its coder (1) -/
noncomputable def ax_getf {β : Type} (lk : List Nat) (h : AH) (st : List AV) (kk : List AV → Option β) : Option β := lc lk (fun ci lk => lc lk (fun k _ => lc st (fun a r =>
    bif Nat.beq a.1 2 then ob (ax_hn h a.2) (fun c => gd (Nat.beq c.1 ci && Nat.blt ci 100) (ob (ax_el c.2.2 k) (fun v => kk (v :: r))))
    else gd (Nat.beq a.1 6 && (Nat.beq ci 200 && (Nat.beq a.2 1 || Nat.beq a.2 3))) (bif Nat.beq k 0 then kk ((6, a.2 + 1) :: r) else kk ((0, 0) :: r)))))
/-- may v be put into a field of type code tc (0 int, 1 boolean, 2 long, 3 a reference) -/
def ax_fit (tc : Nat) (v : AV) : Bool := match tc with
  | 0 => ax_tI v
  | 1 => Nat.beq v.1 0 && Nat.ble v.2 1
  | 2 => ax_tL v
  | 3 => Nat.beq v.1 2
  | _ => false
noncomputable def ax_putf {β : Type} (lk : List Nat) (h : AH) (st : List AV) (kk : AH → List AV → Option β) : Option β := lc lk (fun ci lk => lc lk (fun k lk => lc lk (fun tc _ => lc st (fun v st => lc st (fun a r =>
    gd (Nat.beq a.1 2 && ax_fit tc v) (ob (ax_hn h a.2) (fun c => gd (Nat.beq c.1 ci && (Nat.blt ci 100 && Nat.blt k c.2.1)) (ax_st c.2.2 k v (fun cs => ax_hs h a.2 (c.1, c.2.1, cs) (fun h' => kk h' r))))))))))
/-- array loads; 103 stands for the three kinds of arrays of references -/
def ax_kd (kd ck : Nat) : Bool := bif Nat.beq kd 103 then Nat.ble 103 ck && Nat.ble ck 105 else Nat.beq ck kd
noncomputable def ax_ald {β : Type} (kd : Nat) (h : AH) (i a : AV) (r : List AV) (kk : List AV → Option β) : Option β :=
  ob (ax_hn h a.2) (fun c => gd (ax_kd kd c.1 && (Nat.blt i.2 c.2.1 && Nat.blt i.2 2147483648)) (ob (ax_el c.2.2 i.2) (fun v => kk (v :: r))))
/-- of the law's script, when it has six ints (0); of the bytes of an old String (2, 4) -/
noncomputable def ax_old {β : Type} (sb : Nat → List Nat) (kd : Nat) (σ : AS) (i a : AV) (r : List AV) (kk : List AV → Option β) : Option β :=
  bif Nat.beq kd 100 then gd (Nat.beq a.2 0 && Nat.blt i.2 6) (ob (ax_nth σ 6) (fun q => gd (Nat.beq q.1 9223372036854775814) (kk ((4, i.2) :: r))))
  else gd (Nat.beq kd 102 && (Nat.beq a.2 2 || Nat.beq a.2 4)) (ob (ax_nth (sb a.2) i.2) (fun n => kk ((0, n) :: r)))
/-- array stores; bytes (102): a number from -128 to 127 alone; references: a cell of the kind that fits -/
noncomputable def ax_sok (σ : AS) (h : AH) (kd ck : Nat) (v : AV) : Bool :=
  bif Nat.beq kd 100 then Nat.beq ck 100 && ax_tI v
  else bif Nat.beq kd 101 then Nat.beq ck 101 && ax_tL v
  else bif Nat.beq kd 102 then Nat.beq ck 102 && (match ax_rI σ v with
    | some q => Nat.ble 9223372036854775680 q.1 && Nat.ble q.2 9223372036854775935
    | none => false)
  else Nat.beq v.1 2 && (match ax_hn h v.2 with
    | some c => (Nat.beq ck 103 && Nat.beq c.1 10) || ((Nat.beq ck 104 && Nat.beq c.1 1) || (Nat.beq ck 105 && Nat.beq c.1 7))
    | none => false)
noncomputable def ax_ast {β : Type} (kd : Nat) (σ : AS) (h : AH) (v i a : AV) (kk : AH → Option β) : Option β :=
  gd (Nat.beq a.1 2) (ob (ax_hn h a.2) (fun c => gd (ax_sok σ h kd c.1 v && (Nat.blt i.2 c.2.1 && Nat.blt i.2 2147483648)) (ax_st c.2.2 i.2 v (fun cs => ax_hs h a.2 (c.1, c.2.1, cs) kk))))
noncomputable def ax_alen {β : Type} (sb : Nat → List Nat) (h : AH) (a : AV) (kk : AV → Option β) : Option β :=
  bif Nat.beq a.1 2 then ob (ax_hn h a.2) (fun c => gd (Nat.ble 100 c.1 && Nat.ble c.1 105) (kk (0, c.2.1)))
  else gd (Nat.beq a.1 6) (bif Nat.beq a.2 0 then kk (4, 6) else gd (Nat.beq a.2 2 || Nat.beq a.2 4) (kk (0, (sb a.2).length)))
noncomputable def ax_new {β : Type} (R : Room) (lk : List Nat) (h : AH) (nc ns : Nat) (kk : AH → Nat → Nat → Option β) : Option β := lc lk (fun ci lk => lc lk (fun n lk =>
    gd (Nat.ble (nc + 1) R.cells && Nat.ble (ns + n) R.slots) (ax_ha h (ci, n, [(lk.drop 6).map (fun t => (t, 0))]) (fun h' => ax_fc (nc + 1) (fun nc' => ax_fc (ns + n) (fun ns' => kk h' nc' ns'))))))
noncomputable def ax_newa {β : Type} (R : Room) (lk : List Nat) (h : AH) (nc ns : Nat) (a : AV) (kk : AH → Nat → Nat → Option β) : Option β := lc lk (fun kd lk => lc lk (fun t _ =>
    gd (Nat.beq a.1 0 && (Nat.ble a.2 65536 && (Nat.ble (nc + 1) R.cells && Nat.ble (ns + a.2) R.slots))) (ax_ha h (kd, a.2, ax_rep a.2 (t, 0)) (fun h' => ax_fc (nc + 1) (fun nc' => ax_fc (ns + a.2) (fun ns' => kk h' nc' ns'))))))
/-! calls -/
def ax_args (n : Nat) (st acc : List AV) : Option (List AV × List AV) := match n with
  | 0 => some (acc, st)
  | m + 1 => match st with
    | v :: r => ax_args m r (v :: acc)
    | [] => none
def ax_locs (i : Nat) (l : List AV) : AL := match l with
  | [] => []
  | v :: r => (i, v) :: ax_locs (bif ax_c2 v then i + 2 else i + 1) r
def ax_wt (l : List AV) : Nat := match l with
  | [] => 0
  | v :: r => (bif ax_c2 v then 2 else 1) + ax_wt r
def ax_hd (as : List AV) : Bool := match as with
  | a :: _ => ax_tR a
  | [] => false
noncomputable def ax_rcv (h : AH) (ci : Nat) (as : List AV) : Bool := match as with
  | a :: _ => bif Nat.beq a.1 2 then (match ax_hn h a.2 with
      | some c => Nat.beq c.1 ci && Nat.blt ci 100
      | none => false) else Nat.beq a.1 6 && (Nat.beq ci 200 && (Nat.beq a.2 1 || Nat.beq a.2 3))
  | [] => false
/-- what may be given back: 22 an int, 23 a long, 24 a cell, 25 nothing -/
def ax_rok (ret : Option FieldType) (op : Nat) (st : List AV) : Bool := match op with
  | 22 => (match st with
    | [v] => (match ret with
      | some .int => ax_tI v
      | some .boolean => Nat.beq v.1 0 && Nat.ble v.2 1
      | some .byte => Nat.beq v.1 0 && Nat.ble v.2 1
      | some .char => Nat.beq v.1 0 && Nat.ble v.2 65535
      | _ => false)
    | _ => false)
  | 23 => (match st with
    | [v] => (match ret with
      | some .long => ax_tL v
      | _ => false)
    | _ => false)
  | 24 => (match st with
    | [v] => (match ret with
      | some (.object _) => Nat.beq v.1 2
      | _ => false)
    | _ => false)
  | 25 => (match st with
    | [] => (match ret with
      | none => true
      | _ => false)
    | _ => false)
  | _ => false
/-- the whole of one array (kinds 100, 101) into another of its length -/
noncomputable def ax_copy {β : Type} (σ : AS) (h : AH) (st : List AV) (kk : AH → List AV → Option β) : Option β := lc st (fun n st => lc st (fun dp st => lc st (fun d st => lc st (fun sp st => lc st (fun s r =>
    gd (Nat.beq d.1 2 && (Nat.beq s.1 2 && (Nat.beq (ax_nv σ n).1 0 && (Nat.beq (ax_nv σ dp).1 0 && (Nat.beq (ax_nv σ sp).1 0 && (Nat.beq (ax_nv σ dp).2 0 && Nat.beq (ax_nv σ sp).2 0)))))) (ob (ax_hn h d.2) (fun cd => ob (ax_hn h s.2) (fun cs => gd (Nat.beq cd.1 cs.1 && ((Nat.beq cs.1 100 || Nat.beq cs.1 101) && (Nat.beq cd.2.1 cs.2.1 && (Nat.beq cs.2.1 (ax_nv σ n).2 && Nat.ble cs.2.1 65536)))) (ax_hs h d.2 (cd.1, cd.2.1, cs.2.2) (fun h' => kk h' r))))))))))
/-- an unknown place: one after another -/
noncomputable def ax_spl (σ : AS) (i : AV) (go : AS → RS) : RS := gd (Nat.beq i.1 4) (ob (ax_nth σ i.2) (fun q => gd (Nat.ble q.2 (q.1 + 20) && Nat.blt q.1 q.2) (ax_all ((List.range (q.2 + 1 - q.1)).map (fun d => ax_set σ i.2 (q.1 + d, q.1 + d) go)))))
/-- an unknown long that is compared: less, equal, more -/
noncomputable def ax_spc (σ : AS) (a : AV) (ra rb : Nat × Nat) (go : AS → RS) : RS := gd (Nat.beq a.1 5 && Nat.beq rb.1 rb.2)
   (ax_two (bif Nat.blt ra.1 rb.1 then ax_set σ a.2 (ra.1, min ra.2 (rb.1 - 1)) go else some []) (ax_two (bif Nat.ble ra.1 rb.1 && Nat.ble rb.1 ra.2 then ax_set σ a.2 (rb.1, rb.1) go else some []) (bif Nat.blt rb.1 ra.2 then ax_set σ a.2 (max ra.1 (rb.1 + 1), ra.2) go else some [])))
abbrev GO : Type := MR → Nat → Nat → List ME → AS → AH → Nat → Nat → AL → List AV → RS
noncomputable def ax_call (mt : Nat → Nat → Option MR) (ih : GO) (M : MR) (lk : List Nat) (σ : AS) (h : AH) (nc ns : Nat) (st : List AV) (go : AO → List AV → Nat → Nat → RS) : RS := lc lk (fun a lk => lc lk (fun b lk => lc lk (fun kc lk => lc lk (fun ci _ => ob (mt a b) (fun C => ob (ax_args C.2.2.2.2.2.1 st []) (fun q =>
    gd (Nat.blt C.2.2.2.2.1.frames M.2.2.2.2.1.frames && (Nat.ble (8 + (C.2.2.1 + 11) + C.2.2.2.2.1.locals) M.2.2.2.2.1.locals && (Nat.ble (ax_wt q.2) 8 && (Nat.ble (nc + C.2.2.2.2.1.cells) M.2.2.2.2.1.cells && (Nat.ble (ns + C.2.2.2.2.1.slots) M.2.2.2.2.1.slots && (Nat.ble (ax_wt q.1) C.2.2.1 && ((Nat.beq kc 2 || (Nat.beq kc 1 && ax_hd q.1)) || (Nat.beq kc 0 && ax_rcv h ci q.1))))))))
      (ob (ih C 999999 0 C.2.2.2.2.2.2 σ h 0 0 (ax_locs 0 q.1) []) (fun outs => gd (outs.all (fun o => Nat.ble o.2.2.2.2.2.1 25)) (ax_all (outs.map (fun o => go o q.2 (nc + C.2.2.2.2.1.cells) (ns + C.2.2.2.2.1.slots))))))))))))
/-- the lesser of two ints -/
noncomputable def ax_mn {β : Type} (σ : AS) (a b : AV) (k : AS → AV → Option β) : Option β := ob (ax_rI σ a) (fun ra => ob (ax_rI σ b) (fun rb => bif Nat.beq ra.1 ra.2 && Nat.beq rb.1 rb.2 then (bif Nat.blt rb.1 ra.1 then k σ b else k σ a) else ax_nw 4 σ (min ra.1 rb.1, min ra.2 rb.2) k))
noncomputable def ax_inv (mt : Nat → Nat → Option MR) (ih : GO) (M : MR) (cut pc : Nat) (tl : List ME) (lk : List Nat) (σ : AS) (h : AH) (nc ns : Nat) (lv : AL) (st : List AV) : RS := lc lk (fun x _ =>
    bif Nat.beq x 900 then lc st (fun a r => gd (Nat.beq a.1 2 && (Nat.ble 1 M.2.2.2.2.1.frames && Nat.ble (ax_wt r + 12) M.2.2.2.2.1.locals)) (ih M cut pc tl σ h nc ns lv r))
    else bif Nat.beq x 901 then gd (Nat.ble 1 M.2.2.2.2.1.frames && (Nat.ble 60 M.2.2.2.2.1.locals && Nat.ble (ax_wt st) 20)) (ax_copy σ h st (fun h' r => ih M cut pc tl σ h' nc ns lv r))
    else bif Nat.beq x 902 then lc st (fun b st => lc st (fun a r => gd (Nat.ble 1 M.2.2.2.2.1.frames && (Nat.ble (ax_wt r + 13) M.2.2.2.2.1.locals && (Nat.ble nc M.2.2.2.2.1.cells && Nat.ble ns M.2.2.2.2.1.slots))) (ax_mn σ (ax_nv σ a) (ax_nv σ b) (fun σ' v => ih M cut pc tl σ' h nc ns lv (v :: r)))))
    else ax_call mt ih M lk σ h nc ns st (fun o rest nc' ns' => ih M cut pc tl o.1 o.2.1 nc' ns' lv (o.2.2.2.2.2.2.2 ++ rest)))
/-! one step, by the number of its operation -/
noncomputable def ax_load (ok : AV → Bool) (ih : GO) (M : MR) (cut pc : Nat) (tl : List ME) (lk : List Nat) (σ : AS) (h : AH) (nc ns : Nat) (lv : AL) (st : List AV) : RS := lc lk (fun i _ => ob (ax_lk lv i) (fun v => gd (ok v) (ih M cut pc tl σ h nc ns lv (v :: st))))
noncomputable def ax_sto (ok : AV → Bool) (kp : Nat → Nat × AV → Bool) (ih : GO) (M : MR) (cut pc : Nat) (tl : List ME) (lk : List Nat) (σ : AS) (h : AH) (nc ns : Nat) (lv : AL) (st : List AV) : RS := lc lk (fun i _ => lc st (fun v r => gd (ok v) (ax_flt (kp i) lv (fun lv' => ih M cut pc tl σ h nc ns ((i, v) :: lv') r))))
/-- 0 a number, 1 iload, 2 lload, 3 aload, 4 istore, 5 lstore, 6 astore, 7 iinc -/
noncomputable def ax_b0 (op : Nat) (ih : GO) (M : MR) (cut pc : Nat) (tl : List ME) (lk : List Nat) (σ : AS) (h : AH) (nc ns : Nat) (lv : AL) (st : List AV) : RS :=
  bif Nat.ble op 3 then (bif Nat.ble op 1 then (bif Nat.beq op 0 then lc lk (fun t lk => lc lk (fun n _ => ih M cut pc tl σ h nc ns lv ((t, n) :: st)))
      else ax_load ax_tI ih M cut pc tl lk σ h nc ns lv st)
    else (bif Nat.beq op 2 then ax_load ax_tL ih M cut pc tl lk σ h nc ns lv st else ax_load ax_tR ih M cut pc tl lk σ h nc ns lv st))
  else (bif Nat.ble op 5 then (bif Nat.beq op 4 then ax_sto ax_tI ax_k1 ih M cut pc tl lk σ h nc ns lv st else ax_sto ax_tL ax_k2 ih M cut pc tl lk σ h nc ns lv st)
    else (bif Nat.beq op 6 then ax_sto ax_tR ax_k1 ih M cut pc tl lk σ h nc ns lv st
      else lc lk (fun i lk => lc lk (fun n _ => ob (ax_lk lv i) (fun v => ax_ib 0 σ (ax_nv σ v) (0, n) (fun σ' w => ax_flt (ax_k1 i) lv (fun lv' => ih M cut pc tl σ' h nc ns ((i, w) :: lv') st)))))))
/-- array loads (10 to 13) and stores (14 to 17) -/
noncomputable def ax_b1a (kd : Nat) (sb : Nat → List Nat) (ih : GO) (M : MR) (cut pc0 pc : Nat) (cd tl : List ME) (σ : AS) (h : AH) (nc ns : Nat) (lv : AL) (st : List AV) : RS := lc st (fun i st' => lc st' (fun a r =>
    bif Nat.beq (ax_nv σ i).1 0 then (bif Nat.beq a.1 2 then ax_ald kd h (ax_nv σ i) a r (fun s' => ih M cut pc tl σ h nc ns lv s') else gd (Nat.beq a.1 6) (ax_old sb kd σ (ax_nv σ i) a r (fun s' => ih M cut pc tl σ h nc ns lv s')))
    else ax_spl σ i (fun σ' => ih M cut pc0 cd σ' h nc ns lv st)))
noncomputable def ax_b1s (kd : Nat) (ih : GO) (M : MR) (cut pc0 pc : Nat) (cd tl : List ME) (σ : AS) (h : AH) (nc ns : Nat) (lv : AL) (st : List AV) : RS := lc st (fun v st' => lc st' (fun i st'' => lc st'' (fun a r =>
    bif Nat.beq (ax_nv σ i).1 0 then ax_ast kd σ h v (ax_nv σ i) a (fun h' => ih M cut pc tl σ h' nc ns lv r)
    else ax_spl σ i (fun σ' => ih M cut pc0 cd σ' h nc ns lv st))))
/-- 8 getfield, 9 putfield, 10 to 17 arrays -/
noncomputable def ax_b1 (op : Nat) (sb : Nat → List Nat) (ih : GO) (M : MR) (cut pc0 pc : Nat) (cd tl : List ME) (lk : List Nat) (σ : AS) (h : AH) (nc ns : Nat) (lv : AL) (st : List AV) : RS :=
  bif Nat.ble op 9 then (bif Nat.beq op 8 then ax_getf lk h st (fun s' => ih M cut pc tl σ h nc ns lv s') else ax_putf lk h st (fun h' r => ih M cut pc tl σ h' nc ns lv r))
  else bif Nat.ble op 13 then ax_b1a (op + 90) sb ih M cut pc0 pc cd tl σ h nc ns lv st
  else ax_b1s (op + 86) ih M cut pc0 pc cd tl σ h nc ns lv st
/-- 18 if_icmp, 19 ifCond, 20 goto, 21 calls, 22 to 25 returns -/
noncomputable def ax_b2 (op : Nat) (mt : Nat → Nat → Option MR) (ih : GO) (M : MR) (cut pc0 pc : Nat) (tl : List ME) (lk : List Nat) (σ : AS) (h : AH) (nc ns : Nat) (lv : AL) (st : List AV) : RS :=
  bif Nat.ble op 19 then lc lk (fun t lk => lc lk (fun c _ =>
      bif Nat.beq op 18 then lc st (fun b st => lc st (fun a r => ax_cnd c σ a b (fun σ' => ih M cut t (ax_jmp M.2.2.2.2.2.2 t) σ' h nc ns lv r) (fun σ' => ih M cut pc tl σ' h nc ns lv r)))
      else lc st (fun a r => ax_cnd c σ a (0, 0) (fun σ' => ih M cut t (ax_jmp M.2.2.2.2.2.2 t) σ' h nc ns lv r) (fun σ' => ih M cut pc tl σ' h nc ns lv r))))
  else bif Nat.ble op 21 then (bif Nat.beq op 20 then lc lk (fun t _ => ih M cut t (ax_jmp M.2.2.2.2.2.2 t) σ h nc ns lv st) else ax_inv mt ih M cut pc tl lk σ h nc ns lv st)
  else gd (ax_rok M.2.2.2.1 op st && (Nat.ble nc M.2.2.2.2.1.cells && Nat.ble ns M.2.2.2.2.1.slots)) (some [(σ, h, nc, ns, pc0, op, lv, st)])
noncomputable def ax_bin (f : AS → AV → AV → (AS → AV → RS) → RS) (ih : GO) (M : MR) (cut pc : Nat) (tl : List ME) (σ : AS) (h : AH) (nc ns : Nat) (lv : AL) (st : List AV) : RS := lc st (fun b st => lc st (fun a r => f σ (ax_nv σ a) (ax_nv σ b) (fun σ' v => ih M cut pc tl σ' h nc ns lv (v :: r))))
noncomputable def ax_one (f : AS → AV → (AS → AV → RS) → RS) (ih : GO) (M : MR) (cut pc : Nat) (tl : List ME) (σ : AS) (h : AH) (nc ns : Nat) (lv : AL) (st : List AV) : RS := lc st (fun a r => f σ (ax_nv σ a) (fun σ' v => ih M cut pc tl σ' h nc ns lv (v :: r)))
/-- 26 to 34 ints by two, 35 idiv, 36 irem, 37 to 41 longs by two, 42 lshl, 43 lcmp -/
noncomputable def ax_b3 (op : Nat) (ih : GO) (M : MR) (cut pc0 pc : Nat) (cd tl : List ME) (σ : AS) (h : AH) (nc ns : Nat) (lv : AL) (st : List AV) : RS :=
  bif Nat.ble op 34 then ax_bin (ax_ib (op - 26)) ih M cut pc tl σ h nc ns lv st
  else bif Nat.ble op 36 then ax_bin (ax_id (op - 35)) ih M cut pc tl σ h nc ns lv st
  else bif Nat.ble op 41 then ax_bin (ax_lb (op - 37)) ih M cut pc tl σ h nc ns lv st
  else bif Nat.beq op 42 then ax_bin ax_lsh ih M cut pc tl σ h nc ns lv st
  else lc st (fun b st' => lc st' (fun a r => ob (ax_rL σ a) (fun ra => ob (ax_rL σ b) (fun rb => ax_lcm ra rb (fun n => ih M cut pc tl σ h nc ns lv ((0, n) :: r)) (ax_spc σ a ra rb (fun σ' => ih M cut pc0 cd σ' h nc ns lv st))))))
/-- 44 to 47 ints by one, 48 i2l, 49 l2i, 50 dup, 51 dup2, 52 pop -/
noncomputable def ax_b4 (op : Nat) (ih : GO) (M : MR) (cut pc : Nat) (tl : List ME) (σ : AS) (h : AH) (nc ns : Nat) (lv : AL) (st : List AV) : RS :=
  bif Nat.ble op 47 then ax_one (ax_un (op - 44)) ih M cut pc tl σ h nc ns lv st
  else bif Nat.beq op 48 then ax_one ax_i2l ih M cut pc tl σ h nc ns lv st
  else bif Nat.beq op 49 then ax_one ax_l2i ih M cut pc tl σ h nc ns lv st
  else lc st (fun a r => bif Nat.beq op 50 then gd (!ax_c2 a) (ih M cut pc tl σ h nc ns lv (a :: a :: r))
    else bif Nat.beq op 51 then (bif ax_c2 a then ih M cut pc tl σ h nc ns lv (a :: a :: r) else lc r (fun b r' => gd (!ax_c2 b) (ih M cut pc tl σ h nc ns lv (a :: b :: a :: b :: r'))))
    else gd (!ax_c2 a) (ih M cut pc tl σ h nc ns lv r))
/-- 53 arraylength, 54 new, 55 newarray, anewarray, 56 getstatic, 57 tableswitch, 58 lookupswitch -/
noncomputable def ax_b5 (op : Nat) (sb : Nat → List Nat) (ih : GO) (M : MR) (cut pc : Nat) (tl : List ME) (lk : List Nat) (σ : AS) (h : AH) (nc ns : Nat) (lv : AL) (st : List AV) : RS :=
  bif Nat.ble op 54 then (bif Nat.beq op 53 then lc st (fun a r => ax_alen sb h a (fun v => ih M cut pc tl σ h nc ns lv (v :: r)))
    else ax_new M.2.2.2.2.1 lk h nc ns (fun h' nc' ns' => ih M cut pc tl σ h' nc' ns' lv ((2, h.1) :: st)))
  else bif Nat.ble op 56 then (bif Nat.beq op 55 then lc st (fun a r => ax_newa M.2.2.2.2.1 lk h nc ns (ax_nv σ a) (fun h' nc' ns' => ih M cut pc tl σ h' nc' ns' lv ((2, h.1) :: r)))
    else lc lk (fun x _ => bif Nat.beq x 0 then ih M cut pc tl σ h nc ns lv ((0, 1) :: st) else ih M cut pc tl σ h nc ns lv ((7, 0) :: st)))
  else lc st (fun v r => lc lk (fun d lk => bif Nat.beq op 57 then lc lk (fun lo lk => lc lk (fun hi ks =>
      ax_br (ax_lt σ v (0, lo)) (fun σ' => ih M cut d (ax_jmp M.2.2.2.2.2.2 d) σ' h nc ns lv r) (fun σ1 => ax_br (ax_lt σ1 (0, hi) v) (fun σ' => ih M cut d (ax_jmp M.2.2.2.2.2.2 d) σ' h nc ns lv r) (ax_sw (fun t σ' => ih M cut t (ax_jmp M.2.2.2.2.2.2 t) σ' h nc ns lv r) v d ks))))
      else lc lk (fun _ _ => ax_sw (fun t σ' => ih M cut t (ax_jmp M.2.2.2.2.2.2 t) σ' h nc ns lv r) v d lk σ)))
noncomputable def ax_bd (sb : Nat → List Nat) (mt : Nat → Nat → Option MR) (ih : GO) : GO := fun M cut pc cd σ h nc ns lv st =>
  bif Nat.ble cut pc then some [(σ, h, nc, ns, pc, 99, lv, st)] else lc cd (fun e tl => gd (Nat.beq e.1 pc)
    (bif Nat.ble e.2.1 17 then (bif Nat.ble e.2.1 7 then ax_b0 e.2.1 ih M cut (e.1 + e.2.2.1) tl e.2.2.2.1 σ h nc ns lv st else ax_b1 e.2.1 sb ih M cut e.1 (e.1 + e.2.2.1) cd tl e.2.2.2.1 σ h nc ns lv st)
     else bif Nat.ble e.2.1 25 then ax_b2 e.2.1 mt ih M cut e.1 (e.1 + e.2.2.1) tl e.2.2.2.1 σ h nc ns lv st
     else bif Nat.ble e.2.1 43 then ax_b3 e.2.1 ih M cut e.1 (e.1 + e.2.2.1) cd tl σ h nc ns lv st
     else bif Nat.ble e.2.1 52 then ax_b4 e.2.1 ih M cut (e.1 + e.2.2.1) tl σ h nc ns lv st
     else gd (Nat.ble e.2.1 58) (ax_b5 e.2.1 sb ih M cut (e.1 + e.2.2.1) tl e.2.2.2.1 σ h nc ns lv st)))
noncomputable def ax_run (sb : Nat → List Nat) (mt : Nat → Nat → Option MR) (n : Nat) : GO := Nat.rec (motive := fun _ => GO) (fun _ _ _ _ _ _ _ _ _ _ => none) (fun _ ih => ax_bd sb mt ih) n
/-- the number of an operation -/
def ax_op (ins : Instr) : Nat := match ins with
  | .iconst _ => 0
  | .bipush _ => 0
  | .sipush _ => 0
  | .lconst _ => 0
  | .ldc _ => 0
  | .ldc_w _ => 0
  | .ldc2_w _ => 0
  | .iload _ => 1
  | .iload_n _ => 1
  | .lload _ => 2
  | .lload_n _ => 2
  | .aload _ => 3
  | .aload_n _ => 3
  | .istore _ => 4
  | .istore_n _ => 4
  | .lstore _ => 5
  | .lstore_n _ => 5
  | .astore _ => 6
  | .astore_n _ => 6
  | .iinc _ _ => 7
  | .getfield _ => 8
  | .putfield _ => 9
  | .iaload => 10
  | .laload => 11
  | .baload => 12
  | .aaload => 13
  | .iastore => 14
  | .lastore => 15
  | .bastore => 16
  | .aastore => 17
  | .if_icmp _ _ => 18
  | .ifCond _ _ => 19
  | .goto _ => 20
  | .invokevirtual _ => 21
  | .invokespecial _ => 21
  | .invokestatic _ => 21
  | .ireturn => 22
  | .lreturn => 23
  | .areturn => 24
  | .return_ => 25
  | .iadd => 26
  | .isub => 27
  | .imul => 28
  | .iand => 29
  | .ior => 30
  | .ixor => 31
  | .ishl => 32
  | .ishr => 33
  | .iushr => 34
  | .idiv => 35
  | .irem => 36
  | .ladd => 37
  | .lsub => 38
  | .lmul => 39
  | .land => 40
  | .lor => 41
  | .lshl => 42
  | .lcmp => 43
  | .i2b => 44
  | .i2s => 45
  | .i2c => 46
  | .ineg => 47
  | .i2l => 48
  | .l2i => 49
  | .dup => 50
  | .dup2 => 51
  | .pop => 52
  | .arraylength => 53
  | .new _ => 54
  | .newarray _ => 55
  | .anewarray _ => 55
  | .getstatic _ => 56
  | .tableswitch _ _ _ _ => 57
  | .lookupswitch _ _ => 58
  | .pop2 => 59
  | .ldiv => 60
  | .lrem => 61
  | _ => 98
end
section
/-! 06.rel -/
/-! THE ABSTRACT MACHINE, 3: what a state of it stands for -/
/-- stacks -/
def Rs (sp : Nat → Nat) (ρ ad : List Nat) : List AV → List Value → Prop
  | [], [] => True
  | v :: r, V :: R => Rp sp ρ ad v V ∧ Rs sp ρ ad r R
  | _, _ => False
/-- locals -/
def Rl (sp : Nat → Nat) (ρ ad : List Nat) : AL → List (Nat × Value) → Prop
  | [], [] => True
  | v :: r, V :: R => (v.1 = V.1 ∧ Rp sp ρ ad v.2 V.2) ∧ Rl sp ρ ad r R
  | _, _ => False
def Er (sp : Nat → Nat) (dA : Nat → ClassId) (ρ ad : List Nat) (c : AC) (E : va_E) : Prop :=
  (c.1 < 100 ∧ ∃ VS : List Value, E = .inr (c.1, VS) ∧ VS.length = c.2.1 ∧ ∀ (j : Nat) (v : AV), ax_el c.2.2 j = some v → ∃ V, VS[j]? = some V ∧ Rp sp ρ ad v V) ∨
  ((c.1 = 100 ∨ c.1 = 102) ∧ ∃ f : Nat → Int32, E = .inl (dA c.1, c.2.1, .inl f) ∧ ∀ (j : Nat) (v : AV), ax_el c.2.2 j = some v → j < c.2.1 ∧ Rp sp ρ ad v (.int (f j))) ∨
  (c.1 = 101 ∧ ∃ f : Nat → Int64, E = .inl (dA c.1, c.2.1, .inr (.inl f)) ∧ ∀ (j : Nat) (v : AV), ax_el c.2.2 j = some v → j < c.2.1 ∧ Rp sp ρ ad v (.long (f j))) ∨
  ((103 ≤ c.1 ∧ c.1 ≤ 105) ∧ ∃ f : Nat → Option Nat, E = .inl (dA c.1, c.2.1, .inr (.inr (.inr (.inr f)))) ∧ ∀ (j : Nat) (v : AV), ax_el c.2.2 j = some v → j < c.2.1 ∧ Rp sp ρ ad v (va_rf (f j)))
def Hr (sp : Nat → Nat) (dA : Nat → ClassId) (ρ ad : List Nat) (h : AH) (ws : va_W) : Prop := h.1 = ws.length ∧ ad = ws.map (fun q => q.1) ∧ ∀ (k : Nat) (c : AC), ax_hn h k = some c → ∃ q, ws[k]? = some q ∧ Er sp dA ρ ad c q.2
theorem Rs.mono {sp : Nat → Nat} {ρ ρ' ad ad' : List Nat} (h1 : Sb ρ ρ') (h2 : Sb ad ad') : ∀ {st : List AV} {ST : List Value}, Rs sp ρ ad st ST → Rs sp ρ' ad' st ST
  | [], [], _ => trivial
  | _ :: _, _ :: _, h => ⟨h.1.mono h1 h2, Rs.mono h1 h2 h.2⟩
theorem Rl.mono {sp : Nat → Nat} {ρ ρ' ad ad' : List Nat} (h1 : Sb ρ ρ') (h2 : Sb ad ad') : ∀ {lv : AL} {LV : List (Nat × Value)}, Rl sp ρ ad lv LV → Rl sp ρ' ad' lv LV
  | [], [], _ => trivial
  | _ :: _, _ :: _, h => ⟨⟨h.1.1, h.1.2.mono h1 h2⟩, Rl.mono h1 h2 h.2⟩
theorem Er.mono {sp : Nat → Nat} {dA : Nat → ClassId} {ρ ρ' ad ad' : List Nat} (h1 : Sb ρ ρ') (h2 : Sb ad ad') {c : AC} {E : va_E} (h : Er sp dA ρ ad c E) : Er sp dA ρ' ad' c E := by
  rcases h with ⟨a, VS, b, d, e⟩ | ⟨a, f, b, e⟩ | ⟨a, f, b, e⟩ | ⟨a, f, b, e⟩
  · exact Or.inl ⟨a, VS, b, d, fun j v hv => by obtain ⟨V, q1, q2⟩ := e j v hv; exact ⟨V, q1, q2.mono h1 h2⟩⟩
  · exact Or.inr (Or.inl ⟨a, f, b, fun j v hv => ⟨(e j v hv).1, (e j v hv).2.mono h1 h2⟩⟩)
  · exact Or.inr (Or.inr (Or.inl ⟨a, f, b, fun j v hv => ⟨(e j v hv).1, (e j v hv).2.mono h1 h2⟩⟩))
  · exact Or.inr (Or.inr (Or.inr ⟨a, f, b, fun j v hv => ⟨(e j v hv).1, (e j v hv).2.mono h1 h2⟩⟩))
theorem Hr.monoρ {sp : Nat → Nat} {dA : Nat → ClassId} {ρ ρ' ad : List Nat} (h1 : Sb ρ ρ') {h : AH} {ws : va_W} (hh : Hr sp dA ρ ad h ws) : Hr sp dA ρ' ad h ws :=
  ⟨hh.1, hh.2.1, fun k c hk => by obtain ⟨q, e1, e2⟩ := hh.2.2 k c hk; exact ⟨q, e1, e2.mono h1 (Sb.rf ad)⟩⟩
theorem Rs.cons {sp : Nat → Nat} {ρ ad : List Nat} {v : AV} {r : List AV} {ST : List Value} (h : Rs sp ρ ad (v :: r) ST) : ∃ V R, ST = V :: R ∧ Rp sp ρ ad v V ∧ Rs sp ρ ad r R := by
  cases ST with
  | nil => exact h.elim
  | cons V R => exact ⟨V, R, rfl, h.1, h.2⟩
theorem Rs.nil {sp : Nat → Nat} {ρ ad : List Nat} {ST : List Value} (h : Rs sp ρ ad [] ST) : ST = [] := by
  cases ST with
  | nil => rfl
  | cons V R => exact h.elim
theorem Rs.app {sp : Nat → Nat} {ρ ad : List Nat} : ∀ {a b : List AV} {A B : List Value}, Rs sp ρ ad a A → Rs sp ρ ad b B → Rs sp ρ ad (a ++ b) (A ++ B)
  | [], _, [], _, _, h => h
  | _ :: _, _, _ :: _, _, h1, h2 => ⟨h1.1, Rs.app h1.2 h2⟩
theorem Rp.tI {sp : Nat → Nat} {ρ ad : List Nat} {v : AV} {V : Value} (h : Rp sp ρ ad v V) (ht : ax_tI v = true) : ∃ x : Int32, V = .int x := by
  obtain ⟨t, n⟩ := v
  unfold ax_tI at ht
  match t, h with
  | 0, h => exact ⟨_, h⟩
  | 4, ⟨z, _, e⟩ => exact ⟨_, e⟩
  | 1, _ => cases ht
  | 2, _ => cases ht
  | 3, _ => cases ht
  | 5, _ => cases ht
  | 6, _ => cases ht
  | 7, _ => cases ht
theorem Rp.tL {sp : Nat → Nat} {ρ ad : List Nat} {v : AV} {V : Value} (h : Rp sp ρ ad v V) (ht : ax_tL v = true) : ∃ x : Int64, V = .long x := by
  obtain ⟨t, n⟩ := v
  unfold ax_tL at ht
  match t, h with
  | 1, h => exact ⟨_, h⟩
  | 5, ⟨z, _, e⟩ => exact ⟨_, e⟩
  | 0, _ => cases ht
  | 2, _ => cases ht
  | 3, _ => cases ht
  | 4, _ => cases ht
  | 6, _ => cases ht
  | 7, _ => cases ht
theorem Rp.tR {sp : Nat → Nat} {ρ ad : List Nat} {v : AV} {V : Value} (h : Rp sp ρ ad v V) (ht : ax_tR v = true) : ∃ a : Nat, V = .ref a := by
  obtain ⟨t, n⟩ := v
  unfold ax_tR at ht
  match t, h with
  | 2, ⟨a, _, e⟩ => exact ⟨a, e⟩
  | 6, h => exact ⟨_, h⟩
  | 0, _ => cases ht
  | 1, _ => cases ht
  | 3, _ => cases ht
  | 4, _ => cases ht
  | 5, _ => cases ht
  | 7, _ => cases ht
theorem Rp.cat {sp : Nat → Nat} {ρ ad : List Nat} {v : AV} {V : Value} (h : Rp sp ρ ad v V) : V.category = if ax_c2 v = true then 2 else 1 := by
  obtain ⟨t, n⟩ := v
  unfold ax_c2
  match t, h with
  | 0, h => cases h; rfl
  | 1, h => cases h; rfl
  | 2, ⟨a, _, e⟩ => cases e; rfl
  | 3, h => cases h; rfl
  | 4, ⟨z, _, e⟩ => cases e; rfl
  | 5, ⟨z, _, e⟩ => cases e; rfl
  | 6, h => cases h; rfl
  | 7, h => exact h
theorem Rp.cat1 {sp : Nat → Nat} {ρ ad : List Nat} {v : AV} {V : Value} (h : Rp sp ρ ad v V) (hc : ax_c2 v = false) : V.category = 1 := by rw [h.cat, hc]; rfl
theorem Rp.cat2 {sp : Nat → Nat} {ρ ad : List Nat} {v : AV} {V : Value} (h : Rp sp ρ ad v V) (hc : ax_c2 v = true) : V.category = 2 := by rw [h.cat, hc]; rfl
/-- a local that is found -/
theorem ax_lk_has {sp : Nat → Nat} {ρ ad : List Nat} {i : Nat} {v : AV} : ∀ {lv : AL} {LV : List (Nat × Value)}, Rl sp ρ ad lv LV → ax_lk lv i = some v → ∃ V, (i, V) ∈ LV ∧ Rp sp ρ ad v V
  | [], [], _, hk => by cases hk
  | q :: r, V :: R, h, hk => by
    have hk : (bif Nat.beq q.1 i then some q.2 else ax_lk r i) = some v := hk
    cases hb : Nat.beq q.1 i with
    | true =>
      rw [hb] at hk
      cases hk
      have e : q.1 = i := Nat.eq_of_beq_eq_true hb
      exact ⟨V.2, by rw [← e, h.1.1]; exact List.mem_cons_self, h.1.2⟩
    | false =>
      rw [hb] at hk
      obtain ⟨V', m1, m2⟩ := ax_lk_has h.2 hk
      exact ⟨V', List.mem_cons_of_mem _ m1, m2⟩
theorem ax_flt_eq {β : Type} (keep : Nat × AV → Bool) : ∀ (lv : AL) (k : AL → β), ax_flt keep lv k = k (lv.filter keep)
  | [], _ => rfl
  | q :: r, k => by
    have e : ax_flt keep (q :: r) k = ax_flt keep r (fun t => bif keep q then k (q :: t) else k t) := rfl
    rw [e, ax_flt_eq keep r, List.filter_cons]
    cases keep q <;> rfl
theorem nbeq (a b : Nat) : Nat.beq a b = (a == b) := by rw [Bool.eq_iff_iff, beq_iff_eq, Nat.beq_eq]
theorem Rl.flt1 {sp : Nat → Nat} {ρ ad : List Nat} {i : Nat} : ∀ {lv : AL} {LV : List (Nat × Value)}, Rl sp ρ ad lv LV → Rl sp ρ ad (lv.filter (ax_k1 i)) (LV.filter (fun q => !(q.1 == i) && !(q.1 + 1 == i && q.2.category == 2)))
  | [], [], _ => trivial
  | q :: r, V :: R, h => by
    have e : ax_k1 i q = (!(V.1 == i) && !(V.1 + 1 == i && V.2.category == 2)) := by
      unfold ax_k1
      rw [h.1.2.cat, ← h.1.1, nbeq, nbeq]
      cases ax_c2 q.2 <;> rfl
    rw [List.filter_cons, List.filter_cons, e]
    cases (!(V.1 == i) && !(V.1 + 1 == i && V.2.category == 2))
    · exact Rl.flt1 h.2
    · exact ⟨h.1, Rl.flt1 h.2⟩
theorem Rl.flt2 {sp : Nat → Nat} {ρ ad : List Nat} {i : Nat} : ∀ {lv : AL} {LV : List (Nat × Value)}, Rl sp ρ ad lv LV → Rl sp ρ ad (lv.filter (ax_k2 i)) (LV.filter (fun q => !(q.1 == i) && (!(q.1 == i + 1) && !(q.1 + 1 == i && q.2.category == 2))))
  | [], [], _ => trivial
  | q :: r, V :: R, h => by
    have e : ax_k2 i q = (!(V.1 == i) && (!(V.1 == i + 1) && !(V.1 + 1 == i && V.2.category == 2))) := by
      unfold ax_k2
      rw [h.1.2.cat, ← h.1.1, nbeq, nbeq, nbeq]
      cases ax_c2 q.2 <;> rfl
    rw [List.filter_cons, List.filter_cons, e]
    cases (!(V.1 == i) && (!(V.1 == i + 1) && !(V.1 + 1 == i && V.2.category == 2)))
    · exact Rl.flt2 h.2
    · exact ⟨h.1, Rl.flt2 h.2⟩
theorem Rl.locs {sp : Nat → Nat} {ρ ad : List Nat} : ∀ {as : List AV} {VS : List Value} (i : Nat), Rs sp ρ ad as VS → Rl sp ρ ad (ax_locs i as) (lv_args i VS)
  | [], [], _, _ => trivial
  | v :: r, V :: R, i, h => by
    refine ⟨⟨rfl, h.1⟩, ?_⟩
    have e : (if V.category = 2 then i + 2 else i + 1) = (bif ax_c2 v then i + 2 else i + 1) := by
      rw [h.1.cat]
      cases ax_c2 v <;> rfl
    show Rl sp ρ ad (ax_locs (bif ax_c2 v then i + 2 else i + 1) r) (lv_args (if V.category = 2 then i + 2 else i + 1) R)
    rw [e]
    exact Rl.locs _ h.2
theorem Rs.wt {sp : Nat → Nat} {ρ ad : List Nat} : ∀ {as : List AV} {VS : List Value}, Rs sp ρ ad as VS → (VS.map fun v => v.category).sum = ax_wt as
  | [], [], _ => rfl
  | v :: r, V :: R, h => by
    have e : V.category = (bif ax_c2 v then 2 else 1) := by
      rw [h.1.cat]
      cases ax_c2 v <;> rfl
    show (V.category :: R.map fun v => v.category).sum = (bif ax_c2 v then 2 else 1) + ax_wt r
    rw [List.sum_cons, Rs.wt h.2, e]
theorem lg_len : ∀ (VS : List Value), (lg_sl VS).length = (VS.map fun v => v.category).sum
  | [] => rfl
  | V :: R => by
    have hc := lv_cat V
    have e : lg_sl (V :: R) = (if V.category = 2 then [Slot.val V, Slot.second] else [Slot.val V]) ++ lg_sl R := rfl
    rw [e, List.length_append, lg_len R, List.map_cons, List.sum_cons]
    rcases hc with h | h
    · rw [h]; rfl
    · rw [h]; rfl
/-- numbers of ints -/
theorem ax_nv_ok {sp : Nat → Nat} {ρ ad : List Nat} {σ : AS} (hS : St ρ σ) {v : AV} {V : Value} (h : Rp sp ρ ad v V) : Rp sp ρ ad (ax_nv σ v) V := by
  unfold ax_nv
  cases hb : Nat.beq v.1 4 with
  | false => exact h
  | true =>
    obtain ⟨t, k⟩ := v
    have ht : t = 4 := Nat.eq_of_beq_eq_true hb
    subst ht
    rw [ax_nth_eq]
    obtain ⟨z, hz, e⟩ := h
    obtain ⟨q, hq, h1, h2⟩ := hS.2 k z hz
    show Rp sp ρ ad (match σ[k]? with | some q => bif Nat.beq q.1 q.2 then (0, (q.1 + 9223372036854775808) % 4294967296) else (4, k) | none => (4, k)) V
    rw [hq]
    show Rp sp ρ ad (bif Nat.beq q.1 q.2 then (0, (q.1 + 9223372036854775808) % 4294967296) else (4, k)) V
    cases hb2 : Nat.beq q.1 q.2 with
    | false => exact ⟨z, hz, e⟩
    | true =>
      have e2 : q.1 = q.2 := Nat.eq_of_beq_eq_true hb2
      show V = .int (nI ((q.1 + 9223372036854775808) % 4294967296))
      rw [nI_mod, e, show z = q.1 by omega]
theorem zI_nI {n : Nat} (h : n < 4294967296) : zI (nI n) = ax_bi n := by
  have h1 := zI_cast (nI n)
  have h2 := nI_b h
  omega
theorem zI_z {z : Nat} (h1 : 9223372034707292160 ≤ z) (h2 : z ≤ 9223372039002259455) : zI (nI (z + 9223372036854775808)) = z := by
  have h3 := zI_cast (nI (z + 9223372036854775808))
  have h4 := nI_z h1 h2
  omega
theorem zL_lN {n : Nat} (h : n < 18446744073709551616) : zL (lN n) = ax_bl n := by
  have h1 := zL_cast (lN n)
  have h2 := lN_b h
  omega
theorem zL_z {z : Nat} (h2 : z ≤ 18446744073709551615) : zL (lN (z + 9223372036854775808)) = z := by
  have h3 := zL_cast (lN (z + 9223372036854775808))
  have h4 := lN_z h2
  omega
/-- the range of an int; for an unknown: its kept value is that int's -/
theorem ax_rI_ok {sp : Nat → Nat} {ρ ad : List Nat} {σ : AS} (hS : St ρ σ) {v : AV} {V : Value} (h : Rp sp ρ ad v V) {q : Nat × Nat} (hq : ax_rI σ v = some q) : ∃ x : Int32, V = .int x ∧ q.1 ≤ zI x ∧ zI x ≤ q.2 ∧ (v.1 = 4 → ρ[v.2]? = some (zI x)) := by
  unfold ax_rI at hq
  cases hb : Nat.beq v.1 0 with
  | true =>
    rw [hb] at hq
    obtain ⟨h1, h2⟩ := gd_s hq
    obtain ⟨t, n⟩ := v
    have ht : t = 0 := Nat.eq_of_beq_eq_true hb
    subst ht
    cases h2
    have hn : n < 4294967296 := Nat.le_of_ble_eq_true h1
    have e := zI_nI hn
    exact ⟨nI n, h, by rw [e]; exact Nat.le_refl _, by rw [e]; exact Nat.le_refl _, fun q => by cases q⟩
  | false =>
    rw [hb] at hq
    obtain ⟨h1, h2⟩ := gd_s (b := Nat.beq v.1 4) hq
    obtain ⟨t, k⟩ := v
    have ht : t = 4 := Nat.eq_of_beq_eq_true h1
    subst ht
    obtain ⟨q', hq', h3⟩ := ob_s h2
    obtain ⟨h4, h5⟩ := gd_s h3
    cases h5
    rw [Bool.and_eq_true] at h4
    have b1 := Nat.le_of_ble_eq_true h4.1
    have b2 := Nat.le_of_ble_eq_true h4.2
    obtain ⟨z, hz, e⟩ := h
    rw [ax_nth_eq] at hq'
    obtain ⟨q2, e1, e2, e3⟩ := hS.2 k z hz
    cases hq'.symm.trans e1
    have ez := zI_z (z := z) (by omega) (by omega)
    exact ⟨_, e, by rw [ez]; exact e2, by rw [ez]; exact e3, fun _ => by rw [ez]; exact hz⟩
theorem ax_rL_ok {sp : Nat → Nat} {ρ ad : List Nat} {σ : AS} (hS : St ρ σ) {v : AV} {V : Value} (h : Rp sp ρ ad v V) {q : Nat × Nat} (hq : ax_rL σ v = some q) : ∃ x : Int64, V = .long x ∧ q.1 ≤ zL x ∧ zL x ≤ q.2 ∧ (v.1 = 5 → ρ[v.2]? = some (zL x)) := by
  unfold ax_rL at hq
  cases hb : Nat.beq v.1 1 with
  | true =>
    rw [hb] at hq
    obtain ⟨h1, h2⟩ := gd_s hq
    obtain ⟨t, n⟩ := v
    have ht : t = 1 := Nat.eq_of_beq_eq_true hb
    subst ht
    cases h2
    have hn : n < 18446744073709551616 := Nat.le_of_ble_eq_true h1
    have e := zL_lN hn
    exact ⟨lN n, h, by rw [e]; exact Nat.le_refl _, by rw [e]; exact Nat.le_refl _, fun q => by cases q⟩
  | false =>
    rw [hb] at hq
    obtain ⟨h1, h2⟩ := gd_s (b := Nat.beq v.1 5) hq
    obtain ⟨t, k⟩ := v
    have ht : t = 5 := Nat.eq_of_beq_eq_true h1
    subst ht
    obtain ⟨q', hq', h3⟩ := ob_s h2
    obtain ⟨h4, h5⟩ := gd_s h3
    cases h5
    have b2 := Nat.le_of_ble_eq_true h4
    obtain ⟨z, hz, e⟩ := h
    rw [ax_nth_eq] at hq'
    obtain ⟨q2, e1, e2, e3⟩ := hS.2 k z hz
    cases hq'.symm.trans e1
    have ez := zL_z (z := z) (by omega)
    exact ⟨_, e, by rw [ez]; exact e2, by rw [ez]; exact e3, fun _ => by rw [ez]; exact hz⟩
end
section
/-! 07.num -/
/-! THE ABSTRACT MACHINE, 4: its numbers are right -/
theorem lt_zI (x y : Int32) : x < y ↔ zI x < zI y := by
  have h1 := zI_cast x
  have h2 := zI_cast y
  rw [Int32.lt_iff_toInt_lt]
  omega
theorem le_zI (x y : Int32) : x ≤ y ↔ zI x ≤ zI y := by
  have h1 := zI_cast x
  have h2 := zI_cast y
  rw [Int32.le_iff_toInt_le]
  omega
theorem eq_zI (x y : Int32) : x = y ↔ zI x = zI y := by
  have h1 := zI_cast x
  have h2 := zI_cast y
  rw [← Int32.toInt_inj]
  omega
theorem bb_le {a b : Nat} (h : Nat.ble a b = true) : a ≤ b := Nat.le_of_ble_eq_true h
theorem bb_lt {a b : Nat} (h : Nat.blt a b = true) : a < b := Nat.le_of_ble_eq_true h
theorem bb_nle {a b : Nat} (h : Nat.ble a b = false) : b < a := Nat.lt_of_not_le (fun q => by rw [Nat.ble_eq_true_of_le q] at h; cases h)
theorem bb_nlt {a b : Nat} (h : Nat.blt a b = false) : b ≤ a := Nat.le_of_lt_succ (bb_nle h)
theorem bb_eq {a b : Nat} (h : Nat.beq a b = true) : a = b := Nat.eq_of_beq_eq_true h
theorem bb_ne {a b : Nat} (h : Nat.beq a b = false) : a ≠ b := Nat.ne_of_beq_eq_false h
theorem bb_and {a b : Bool} (h : (a && b) = true) : a = true ∧ b = true := by rw [Bool.and_eq_true] at h; exact h
theorem ax_cut_ok {sp : Nat → Nat} {ρ ad : List Nat} {σ : AS} (hS : St ρ σ) {v : AV} {x : Int32} (hv : v.1 = 4 → ρ[v.2]? = some (zI x)) {lo hi : Nat} (h1 : lo ≤ zI x) (h2 : zI x ≤ hi) : St ρ (ax_cut σ v lo hi) := by
  unfold ax_cut
  cases hb : Nat.beq v.1 4 with
  | false => exact hS
  | true =>
    show St ρ (ax_set σ v.2 (lo, hi) (fun s => s))
    rw [ax_set_eq]
    refine hS.cut (fun z hz => ?_)
    rw [hv (bb_eq hb)] at hz
    cases hz
    exact ⟨h1, h2⟩
/-- what a test of two ints leaves -/
theorem ax_lt_ok {sp : Nat → Nat} {ρ ad : List Nat} {σ : AS} (hS : St ρ σ) {a b : AV} {A B : Value} (ha : Rp sp ρ ad a A) (hb : Rp sp ρ ad b B) {T F : Option AS} (h : ax_lt σ a b = some (T, F)) :
    ∃ x y : Int32, A = .int x ∧ B = .int y ∧ (x < y → ∃ σ', T = some σ' ∧ St ρ σ') ∧ (¬ x < y → ∃ σ', F = some σ' ∧ St ρ σ') := by
  unfold ax_lt at h
  obtain ⟨ra, ea, h⟩ := ob_s h
  obtain ⟨rb, eb, h⟩ := ob_s h
  obtain ⟨x, hx, x1, x2, x3⟩ := ax_rI_ok hS ha ea
  obtain ⟨y, hy, y1, y2, y3⟩ := ax_rI_ok hS hb eb
  cases h
  refine ⟨x, y, hx, hy, fun q => ?_, fun q => ?_⟩
  · rw [lt_zI] at q
    cases hc : Nat.blt ra.1 rb.2 with
    | false => exact absurd (bb_nlt hc) (by omega)
    | true => exact ⟨_, rfl, ax_cut_ok (sp := sp) (ad := ad) (ax_cut_ok (sp := sp) (ad := ad) hS x3 x1 (by omega)) y3 (by omega) y2⟩
  · rw [lt_zI] at q
    cases hc : Nat.ble rb.1 ra.2 with
    | false => exact absurd (bb_nle hc) (by omega)
    | true => exact ⟨_, rfl, ax_cut_ok (sp := sp) (ad := ad) (ax_cut_ok (sp := sp) (ad := ad) hS x3 (by omega) x2) y3 y1 (by omega)⟩
theorem ax_eq_ok {sp : Nat → Nat} {ρ ad : List Nat} {σ : AS} (hS : St ρ σ) {a b : AV} {A B : Value} (ha : Rp sp ρ ad a A) (hb : Rp sp ρ ad b B) {T F : Option AS} (h : ax_eq σ a b = some (T, F)) :
    ∃ x y : Int32, A = .int x ∧ B = .int y ∧ (x = y → ∃ σ', T = some σ' ∧ St ρ σ') ∧ (¬ x = y → ∃ σ', F = some σ' ∧ St ρ σ') := by
  unfold ax_eq at h
  obtain ⟨ra, ea, h⟩ := ob_s h
  obtain ⟨rb, eb, h⟩ := ob_s h
  obtain ⟨x, hx, x1, x2, x3⟩ := ax_rI_ok hS ha ea
  obtain ⟨y, hy, y1, y2, y3⟩ := ax_rI_ok hS hb eb
  cases h
  refine ⟨x, y, hx, hy, fun q => ?_, fun q => ?_⟩
  · rw [eq_zI] at q
    cases hc : Nat.ble (max ra.1 rb.1) (min ra.2 rb.2) with
    | false => exact absurd (bb_nle hc) (by omega)
    | true => exact ⟨_, rfl, ax_cut_ok (sp := sp) (ad := ad) (ax_cut_ok (sp := sp) (ad := ad) hS x3 (by omega) (by omega)) y3 (by omega) (by omega)⟩
  · rw [eq_zI] at q
    cases hc : (Nat.beq ra.1 ra.2 && (Nat.beq rb.1 rb.2 && Nat.beq ra.1 rb.1)) with
    | true =>
      have q1 := bb_and hc
      have q2 := bb_and q1.2
      have := bb_eq q1.1
      have := bb_eq q2.1
      have := bb_eq q2.2
      exact absurd q (by omega)
    | false =>
      refine ⟨_, rfl, ?_⟩
      cases hd : Nat.beq rb.1 rb.2 with
      | false => exact hS
      | true =>
        have e := bb_eq hd
        refine ax_cut_ok (sp := sp) (ad := ad) hS x3 ?_ ?_
        · cases he : Nat.beq ra.1 rb.1 with
          | false => exact x1
          | true => have := bb_eq he; show ra.1 + 1 ≤ _; omega
        · cases he : Nat.beq ra.2 rb.1 with
          | false => exact x2
          | true => have := bb_eq he; show _ ≤ ra.2 - 1; omega
/-- a new unknown int, a new unknown long -/
theorem nwI {sp : Nat → Nat} {ρ ad : List Nat} {σ : AS} (hS : St ρ σ) (r : Int32) {q : Nat × Nat} (h1 : q.1 ≤ zI r) (h2 : zI r ≤ q.2) : Sb ρ (ρ ++ [zI r]) ∧ St (ρ ++ [zI r]) (σ ++ [q]) ∧ Rp sp (ρ ++ [zI r]) ad (4, σ.length) (.int r) :=
  ⟨Sb.app _ _, hS.app h1 h2, zI r, by rw [← hS.1]; simp, by rw [zI_back]⟩
theorem nwL {sp : Nat → Nat} {ρ ad : List Nat} {σ : AS} (hS : St ρ σ) (r : Int64) : Sb ρ (ρ ++ [zL r]) ∧ St (ρ ++ [zL r]) (σ ++ [ax_fullL]) ∧ Rp sp (ρ ++ [zL r]) ad (5, σ.length) (.long r) :=
  ⟨Sb.app _ _, hS.app (Nat.zero_le _) (zL_rng r), zL r, by rw [← hS.1]; simp, by rw [zL_back]⟩
/-- the int operations -/
def ax_fop (op : Nat) (x y : Int32) : Int32 := match op with
  | 0 => x + y
  | 1 => x - y
  | 2 => x * y
  | 3 => x &&& y
  | 4 => x ||| y
  | 5 => x ^^^ y
  | 6 => x <<< (y &&& 31)
  | 7 => x >>> (y &&& 31)
  | _ => (x.toUInt32 >>> (y.toUInt32 &&& Int32.toUInt32 31)).toInt32
theorem nI_bv (n : Nat) : (nI n).toBitVec = BitVec.ofNat 32 n := rfl
theorem nI_bvn {n : Nat} (h : n < 4294967296) : (nI n).toBitVec.toNat = n := by
  rw [nI_bv, BitVec.toNat_ofNat]
  exact Nat.mod_eq_of_lt h
theorem i32_bv {x y : Int32} (h : x.toBitVec.toNat = y.toBitVec.toNat) : x = y := Int32.toBitVec_inj.mp (BitVec.eq_of_toNat_eq h)
theorem nI_and31 (y : Nat) : nI y &&& 31 = nI (y % 32) := by
  apply i32_bv
  rw [Int32.toBitVec_and, BitVec.toNat_and, nI_bv, nI_bv, BitVec.toNat_ofNat, BitVec.toNat_ofNat]
  show (y % 2 ^ 32) &&& (2 ^ 5 - 1) = _
  rw [Nat.and_two_pow_sub_one_eq_mod]
  omega
theorem sh31 : ∀ k, k < 32 → ((nI k).toBitVec.smod 32).toNat = k := by decide +kernel
theorem sh31u : ∀ k, k < 32 → (((nI k).toUInt32 &&& Int32.toUInt32 31).toBitVec % 32).toNat = k := by decide +kernel
theorem nI_u31 (y : Nat) : (nI y).toUInt32 &&& Int32.toUInt32 31 = (nI (y % 32)).toUInt32 &&& Int32.toUInt32 31 := by
  have h : (nI y &&& 31).toUInt32 = (nI (y % 32) &&& 31).toUInt32 := by rw [nI_and31, nI_and31, Nat.mod_mod]
  exact h
set_option maxRecDepth 20000 in
theorem ax_cop_ok (op x y : Nat) (hx : x < 4294967296) (hy : y < 4294967296) : nI (ax_cop op x y) = ax_fop op (nI x) (nI y) := by
  match op with
  | 0 => show nI ((x + y) % 4294967296) = nI x + nI y; rw [nI_mod, nI_add]
  | 1 =>
    show nI ((x + (4294967296 - y)) % 4294967296) = nI x - nI y
    apply Int32.toInt_inj.mp
    rw [nI_mod, Int32.toInt_sub, nI_toInt_bmod, nI_toInt_bmod, nI_toInt_bmod]
    simp only [Int.bmod_def]
    omega
  | 2 => show nI ((x * y) % 4294967296) = nI x * nI y; rw [nI_mod, pk_mul]
  | 3 =>
    show nI (Nat.land x y) = nI x &&& nI y
    apply i32_bv
    rw [Int32.toBitVec_and, BitVec.toNat_and, nI_bvn hx, nI_bvn hy, nI_bvn]
    · rfl
    · exact Nat.lt_of_le_of_lt Nat.and_le_left hx
  | 4 =>
    show nI (Nat.lor x y) = nI x ||| nI y
    apply i32_bv
    rw [Int32.toBitVec_or, BitVec.toNat_or, nI_bvn hx, nI_bvn hy, nI_bvn]
    · rfl
    · exact Nat.or_lt_two_pow (n := 32) hx hy
  | 5 =>
    show nI (Nat.xor x y) = nI x ^^^ nI y
    apply i32_bv
    rw [Int32.toBitVec_xor, BitVec.toNat_xor, nI_bvn hx, nI_bvn hy, nI_bvn]
    · rfl
    · exact Nat.xor_lt_two_pow (n := 32) hx hy
  | 6 =>
    show nI ((x * 2 ^ (y % 32)) % 4294967296) = nI x <<< (nI y &&& 31)
    rw [nI_and31]
    apply i32_bv
    rw [pk_shl _ _ (y % 32) (sh31 _ (Nat.mod_lt _ (by decide))), nI_bvn hx, nI_bvn (Nat.mod_lt _ (by decide))]
  | 7 =>
    show nI (bif Nat.blt x 2147483648 then x / 2 ^ (y % 32) else 4294967295 - (4294967295 - x) / 2 ^ (y % 32)) = nI x >>> (nI y &&& 31)
    rw [nI_and31]
    apply Int32.toInt_inj.mp
    rw [pk_shr _ _ (y % 32) (sh31 _ (Nat.mod_lt _ (by decide))), Int.shiftRight_eq_div_pow]
    have hp : 0 < 2 ^ (y % 32) := Nat.two_pow_pos _
    have hz : ∀ a : Nat, a / 2 ^ (y % 32) ≤ a := fun a => Nat.div_le_self _ _
    cases hb : Nat.blt x 2147483648 with
    | true =>
      have h1 := bb_lt hb
      have h2 := hz x
      show (nI (x / 2 ^ (y % 32))).toInt = _
      rw [nI_toInt (by omega), nI_toInt (by omega)]
      push_cast
      rfl
    | false =>
      have h1 := bb_nlt hb
      have h2 := hz (4294967295 - x)
      have e4 : (-(((4294967295 - x : Nat) : Int) + 1)) / ((2 ^ (y % 32) : Nat) : Int) = -(((4294967295 - x) / 2 ^ (y % 32) : Nat) : Int) - 1 := by
        have h := Int.negSucc_ediv (4294967295 - x) (b := ((2 ^ (y % 32) : Nat) : Int)) (by exact_mod_cast hp)
        rw [Int.negSucc_eq] at h
        rw [h]
        have h5 : ((4294967295 - x : Nat) : Int).ediv ((2 ^ (y % 32) : Nat) : Int) = (((4294967295 - x) / 2 ^ (y % 32) : Nat) : Int) := rfl
        rw [h5]
        omega
      show (nI (4294967295 - (4294967295 - x) / 2 ^ (y % 32))).toInt = _
      generalize (4294967295 - x) / 2 ^ (y % 32) = d at h2 e4 ⊢
      rw [nI_b (by omega), nI_b hx]
      have e1 : ax_bi x = x + 9223372036854775808 - 4294967296 := by unfold ax_bi; rw [if_neg (by omega)]
      have e2 : ax_bi (4294967295 - d) = 4294967295 - d + 9223372036854775808 - 4294967296 := by unfold ax_bi; rw [if_neg (by omega)]
      have e3 : ((x + 9223372036854775808 - 4294967296 : Nat) : Int) - 9223372036854775808 = -(((4294967295 - x : Nat) : Int) + 1) := by omega
      rw [e1, e2, e3]
      have e5 : ((2 : Int) ^ (y % 32)) = ((2 ^ (y % 32) : Nat) : Int) := by push_cast; rfl
      refine Eq.trans ?_ (e4.symm.trans ?_)
      · clear e4 e5 hz hp e3 e1 e2
        omega
      · first | rfl | (rw [e5])
  | n + 8 =>
    show nI (x / 2 ^ (y % 32)) = ((nI x).toUInt32 >>> ((nI y).toUInt32 &&& Int32.toUInt32 31)).toInt32
    rw [nI_u31, pk_ushrN hx _ (y % 32) (sh31u _ (Nat.mod_lt _ (by decide)))]
theorem full_in (r : Int32) : ax_full.1 ≤ zI r ∧ zI r ≤ ax_full.2 := zI_rng r
theorem and_rng {x y : Int32} (h : 9223372036854775808 ≤ zI y) : 9223372036854775808 ≤ zI (x &&& y) ∧ zI (x &&& y) ≤ zI y := by
  have hy := zI_cast y
  have hr := i32_rng y
  have hxy := zI_cast (x &&& y)
  have e1 : y.toInt = (y.toBitVec.toNat : Int) := by
    have h1 : y.toInt = if 2 * y.toBitVec.toNat < 2 ^ 32 then (y.toBitVec.toNat : Int) else (y.toBitVec.toNat : Int) - ((2 ^ 32 : Nat) : Int) := BitVec.toInt_eq_toNat_cond y.toBitVec
    have hl := y.toBitVec.isLt
    split at h1
    · exact h1
    · omega
  have hb : (x &&& y).toBitVec.toNat ≤ y.toBitVec.toNat := by
    rw [Int32.toBitVec_and, BitVec.toNat_and]
    exact Nat.and_le_right
  have e2 : (x &&& y).toInt = ((x &&& y).toBitVec.toNat : Int) := by
    have h1 : (x &&& y).toInt = (x &&& y).toBitVec.toInt := rfl
    rw [h1, BitVec.toInt_eq_toNat_cond]
    have hlt := (x &&& y).toBitVec.isLt
    rw [if_pos]
    omega
  omega
theorem ax_iv_ok (op : Nat) {a b : Nat × Nat} {x y : Int32} (x1 : a.1 ≤ zI x) (x2 : zI x ≤ a.2) (y1 : b.1 ≤ zI y) (y2 : zI y ≤ b.2) : (ax_iv op a b).1 ≤ zI (ax_fop op x y) ∧ zI (ax_fop op x y) ≤ (ax_iv op a b).2 := by
  match op with
  | 0 =>
    unfold ax_iv
    cases hc : (Nat.ble 18446744071562067968 (a.1 + b.1) && Nat.ble (a.2 + b.2) 18446744075857035263) with
    | false => simp only [hc]; exact full_in _
    | true =>
      simp only [hc]
      have q := bb_and hc
      have q1 := bb_le q.1
      have q2 := bb_le q.2
      have h1 := zI_cast x
      have h2 := zI_cast y
      have h3 := zI_cast (x + y)
      have h4 : (x + y).toInt = x.toInt + y.toInt := by
        rw [Int32.toInt_add, Int.bmod_def]
        omega
      show a.1 + b.1 - 9223372036854775808 ≤ zI (x + y) ∧ zI (x + y) ≤ a.2 + b.2 - 9223372036854775808
      omega
  | 1 =>
    unfold ax_iv
    cases hc : (Nat.ble (9223372034707292160 + b.2) (a.1 + 9223372036854775808) && Nat.ble (a.2 + 9223372036854775808) (9223372039002259455 + b.1)) with
    | false => simp only [hc]; exact full_in _
    | true =>
      simp only [hc]
      have q := bb_and hc
      have q1 := bb_le q.1
      have q2 := bb_le q.2
      have h1 := zI_cast x
      have h2 := zI_cast y
      have h3 := zI_cast (x - y)
      have h4 : (x - y).toInt = x.toInt - y.toInt := by
        rw [Int32.toInt_sub, Int.bmod_def]
        omega
      show a.1 + 9223372036854775808 - b.2 ≤ zI (x - y) ∧ zI (x - y) ≤ a.2 + 9223372036854775808 - b.1
      omega
  | 2 => exact full_in _
  | 3 =>
    unfold ax_iv
    cases hc : (Nat.beq b.1 b.2 && Nat.ble 9223372036854775808 b.1) with
    | false => simp only [hc]; exact full_in _
    | true =>
      simp only [hc]
      have q := bb_and hc
      have q1 := bb_eq q.1
      have q2 := bb_le q.2
      have h1 := and_rng (x := x) (y := y) (by omega)
      show 9223372036854775808 ≤ zI (x &&& y) ∧ zI (x &&& y) ≤ b.1
      omega
  | n + 4 => exact full_in _
/-- two ints make one -/
theorem ax_ib_ok {sp : Nat → Nat} {ρ ad : List Nat} {σ : AS} (hS : St ρ σ) {op : Nat} {a b : AV} {A B : Value} (ha : Rp sp ρ ad a A) (hb : Rp sp ρ ad b B) {β : Type} {k : AS → AV → Option β} {r : β} (h : ax_ib op σ a b k = some r) :
    ∃ (x y : Int32) (σ' : AS) (v : AV) (ρ' : List Nat), A = .int x ∧ B = .int y ∧ k σ' v = some r ∧ Sb ρ ρ' ∧ St ρ' σ' ∧ Rp sp ρ' ad v (.int (ax_fop op x y)) := by
  unfold ax_ib at h
  cases hc : (Nat.beq a.1 0 && Nat.beq b.1 0) with
  | true =>
    rw [hc] at h
    obtain ⟨h1, h2⟩ := gd_s h
    have q := bb_and hc
    have q1 := bb_eq q.1
    have q2 := bb_eq q.2
    obtain ⟨ta, na⟩ := a
    obtain ⟨tb, nb⟩ := b
    dsimp only at q1 q2
    subst q1
    subst q2
    have w := bb_and h1
    have w1 := bb_lt w.1
    have w2 := bb_lt w.2
    rw [ax_fc_eq] at h2
    exact ⟨nI na, nI nb, σ, (0, ax_cop op na nb), ρ, ha, hb, h2, Sb.rf ρ, hS, by show Value.int _ = Value.int _; rw [ax_cop_ok op na nb w1 w2]⟩
  | false =>
    rw [hc] at h
    obtain ⟨ra, ea, h⟩ := ob_s (o := ax_rI σ a) h
    obtain ⟨rb, eb, h⟩ := ob_s h
    obtain ⟨x, hx, x1, x2, x3⟩ := ax_rI_ok hS ha ea
    obtain ⟨y, hy, y1, y2, y3⟩ := ax_rI_ok hS hb eb
    have hi := ax_iv_ok op x1 x2 y1 y2
    have hn := nwI (sp := sp) (ad := ad) hS (ax_fop op x y) hi.1 hi.2
    exact ⟨x, y, _, _, _, hx, hy, h, hn.1, hn.2.1, hn.2.2⟩
theorem nI_div {a b : Nat} (ha : a < 2147483648) (h0 : 1 ≤ b) (hb : b < 2147483648) : nI a / nI b = nI (a / b) := pk_div (by omega) (by omega) (by omega)
theorem ax_id_ok {sp : Nat → Nat} {ρ ad : List Nat} {σ : AS} (hS : St ρ σ) {op : Nat} {a b : AV} {A B : Value} (ha : Rp sp ρ ad a A) (hb : Rp sp ρ ad b B) {β : Type} {k : AS → AV → Option β} {r : β} (h : ax_id op σ a b k = some r) :
    ∃ (x y : Int32) (σ' : AS) (v : AV) (ρ' : List Nat), A = .int x ∧ B = .int y ∧ ¬ y = 0 ∧ k σ' v = some r ∧ Sb ρ ρ' ∧ St ρ' σ' ∧ Rp sp ρ' ad v (.int (if op = 0 then x / y else x - x / y * y)) := by
  unfold ax_id at h
  obtain ⟨h1, h⟩ := gd_s h
  have q := bb_and h1
  have q1 := bb_eq q.1
  have q2 := bb_and q.2
  have q3 := bb_le q2.1
  have q4 := bb_lt q2.2
  obtain ⟨tb, nb⟩ := b
  dsimp only at q1 q3 q4
  subst q1
  have hy : ¬ nI nb = 0 := nI_ne0 (by omega) (by omega)
  cases hc : (Nat.beq a.1 0 && Nat.blt a.2 2147483648) with
  | true =>
    rw [hc] at h
    have w := bb_and hc
    have w1 := bb_eq w.1
    have w2 := bb_lt w.2
    obtain ⟨ta, na⟩ := a
    dsimp only at w1 w2
    subst w1
    have h : ax_fc (bif Nat.beq op 0 then na / nb else na % nb) (fun n => k σ (0, n)) = some r := h
    rw [ax_fc_eq] at h
    refine ⟨nI na, nI nb, σ, _, ρ, ha, hb, hy, h, Sb.rf ρ, hS, ?_⟩
    show Value.int _ = Value.int (nI (bif Nat.beq op 0 then na / nb else na % nb))
    by_cases ho : op = 0
    · subst ho
      rw [if_pos rfl, nI_div w2 q3 q4]
      rfl
    · rw [if_neg ho, pk_rem (by omega) (by omega) (by omega), show Nat.beq op 0 = false by cases op with | zero => exact absurd rfl ho | succ m => rfl]
      rfl
  | false =>
    rw [hc] at h
    obtain ⟨ra, ea, h⟩ := ob_s (o := ax_rI σ a) h
    obtain ⟨x, hx, -⟩ := ax_rI_ok hS ha ea
    have hf := full_in (if op = 0 then x / nI nb else x - x / nI nb * nI nb)
    have hn := nwI (sp := sp) (ad := ad) hS (if op = 0 then x / nI nb else x - x / nI nb * nI nb) hf.1 hf.2
    exact ⟨x, nI nb, _, _, _, hx, hb, hy, h, hn.1, hn.2.1, hn.2.2⟩
/-- the long operations -/
def ax_flo (op : Nat) (x y : Int64) : Int64 := match op with
  | 0 => x + y
  | 1 => x - y
  | 2 => x * y
  | 3 => x &&& y
  | _ => x ||| y
theorem lN_bv (n : Nat) : (lN n).toBitVec = BitVec.ofNat 64 n := rfl
theorem lN_bvn {n : Nat} (h : n < 18446744073709551616) : (lN n).toBitVec.toNat = n := by
  rw [lN_bv, BitVec.toNat_ofNat]
  exact Nat.mod_eq_of_lt h
theorem i64_bv {x y : Int64} (h : x.toBitVec.toNat = y.toBitVec.toNat) : x = y := Int64.toBitVec_inj.mp (BitVec.eq_of_toNat_eq h)
theorem ax_lop_ok (op x y : Nat) (hx : x < 18446744073709551616) (hy : y < 18446744073709551616) : lN (ax_lop op x y) = ax_flo op (lN x) (lN y) := by
  match op with
  | 0 => show lN ((x + y) % 18446744073709551616) = lN x + lN y; rw [lN_mod, lN_add]
  | 1 =>
    show lN ((x + (18446744073709551616 - y)) % 18446744073709551616) = lN x - lN y
    apply Int64.toInt_inj.mp
    rw [lN_mod, Int64.toInt_sub, lN_toInt_bmod, lN_toInt_bmod, lN_toInt_bmod]
    simp only [Int.bmod_def]
    omega
  | 2 => show lN ((x * y) % 18446744073709551616) = lN x * lN y; rw [lN_mod, lN_mul]
  | 3 =>
    show lN (Nat.land x y) = lN x &&& lN y
    apply i64_bv
    rw [Int64.toBitVec_and, BitVec.toNat_and, lN_bvn hx, lN_bvn hy, lN_bvn]
    · rfl
    · exact Nat.lt_of_le_of_lt Nat.and_le_left hx
  | n + 4 =>
    show lN (Nat.lor x y) = lN x ||| lN y
    apply i64_bv
    rw [Int64.toBitVec_or, BitVec.toNat_or, lN_bvn hx, lN_bvn hy, lN_bvn]
    · rfl
    · exact Nat.or_lt_two_pow (n := 64) hx hy
theorem ax_lb_ok {sp : Nat → Nat} {ρ ad : List Nat} {σ : AS} (hS : St ρ σ) {op : Nat} {a b : AV} {A B : Value} (ha : Rp sp ρ ad a A) (hb : Rp sp ρ ad b B) {β : Type} {k : AS → AV → Option β} {r : β} (h : ax_lb op σ a b k = some r) :
    ∃ (x y : Int64) (σ' : AS) (v : AV) (ρ' : List Nat), A = .long x ∧ B = .long y ∧ k σ' v = some r ∧ Sb ρ ρ' ∧ St ρ' σ' ∧ Rp sp ρ' ad v (.long (ax_flo op x y)) := by
  unfold ax_lb at h
  cases hc : (Nat.beq a.1 1 && Nat.beq b.1 1) with
  | true =>
    rw [hc] at h
    obtain ⟨h1, h2⟩ := gd_s h
    have q := bb_and hc
    have q1 := bb_eq q.1
    have q2 := bb_eq q.2
    obtain ⟨ta, na⟩ := a
    obtain ⟨tb, nb⟩ := b
    dsimp only at q1 q2
    subst q1
    subst q2
    have w := bb_and h1
    rw [ax_fc_eq] at h2
    exact ⟨lN na, lN nb, σ, (1, ax_lop op na nb), ρ, ha, hb, h2, Sb.rf ρ, hS, by show Value.long _ = Value.long _; rw [ax_lop_ok op na nb (bb_lt w.1) (bb_lt w.2)]⟩
  | false =>
    rw [hc] at h
    obtain ⟨h1, h⟩ := gd_s (b := ax_tL a && ax_tL b) h
    have w := bb_and h1
    obtain ⟨x, hx⟩ := ha.tL w.1
    obtain ⟨y, hy⟩ := hb.tL w.2
    have hn := nwL (sp := sp) (ad := ad) hS (ax_flo op x y)
    exact ⟨x, y, _, _, _, hx, hy, h, hn.1, hn.2.1, hn.2.2⟩
/-- conversions of an int -/
def ax_fu (op : Nat) (x : Int32) : Int32 := match op with
  | 0 => x.toInt8.toInt32
  | 1 => x.toInt16.toInt32
  | 2 => (x.toUInt32 % 65536).toInt32
  | _ => -x
theorem nI_b8 (n : Nat) : (nI n).toInt8.toInt32.toInt = (n : Int).bmod 256 := by
  rw [Int8.toInt_toInt32, Int32.toInt_toInt8, nI_toInt_bmod]
  simp only [Int.bmod_def]
  omega
theorem nI_b16 (n : Nat) : (nI n).toInt16.toInt32.toInt = (n : Int).bmod 65536 := by
  rw [Int16.toInt_toInt32, Int32.toInt_toInt16, nI_toInt_bmod]
  simp only [Int.bmod_def]
  omega
theorem ax_cu_ok (op x : Nat) (hx : x < 4294967296) : nI (ax_cu op x) = ax_fu op (nI x) := by
  match op with
  | 0 =>
    show nI (bif Nat.blt (x % 256) 128 then x % 256 else x % 256 + 4294967040) = (nI x).toInt8.toInt32
    apply Int32.toInt_inj.mp
    rw [nI_b8]
    cases hb : Nat.blt (x % 256) 128 with
    | true =>
      have := bb_lt hb
      show (nI (x % 256)).toInt = _
      rw [nI_toInt_bmod]
      simp only [Int.bmod_def]
      omega
    | false =>
      have := bb_nlt hb
      show (nI (x % 256 + 4294967040)).toInt = _
      rw [nI_toInt_bmod]
      simp only [Int.bmod_def]
      omega
  | 1 =>
    show nI (bif Nat.blt (x % 65536) 32768 then x % 65536 else x % 65536 + 4294901760) = (nI x).toInt16.toInt32
    apply Int32.toInt_inj.mp
    rw [nI_b16]
    cases hb : Nat.blt (x % 65536) 32768 with
    | true =>
      have := bb_lt hb
      show (nI (x % 65536)).toInt = _
      rw [nI_toInt_bmod]
      simp only [Int.bmod_def]
      omega
    | false =>
      have := bb_nlt hb
      show (nI (x % 65536 + 4294901760)).toInt = _
      rw [nI_toInt_bmod]
      simp only [Int.bmod_def]
      omega
  | 2 =>
    show nI (x % 65536) = ((nI x).toUInt32 % 65536).toInt32
    rw [pk_char, nI_bvn hx]
  | n + 3 =>
    show nI ((4294967296 - x) % 4294967296) = -(nI x)
    apply Int32.toInt_inj.mp
    rw [nI_mod, Int32.toInt_neg, nI_toInt_bmod, nI_toInt_bmod]
    simp only [Int.bmod_def]
    omega
theorem ax_cuv_ok (op : Nat) (x : Int32) : (ax_cuv op).1 ≤ zI (ax_fu op x) ∧ zI (ax_fu op x) ≤ (ax_cuv op).2 := by
  match op with
  | 0 =>
    show 9223372036854775680 ≤ zI x.toInt8.toInt32 ∧ zI x.toInt8.toInt32 ≤ 9223372036854775935
    have h1 := zI_cast x.toInt8.toInt32
    rw [Int8.toInt_toInt32] at h1
    have h2 := Int8.le_toInt x.toInt8
    have h3 := Int8.toInt_lt x.toInt8
    omega
  | 1 =>
    show 9223372036854743040 ≤ zI x.toInt16.toInt32 ∧ zI x.toInt16.toInt32 ≤ 9223372036854808575
    have h1 := zI_cast x.toInt16.toInt32
    rw [Int16.toInt_toInt32] at h1
    have h2 := Int16.le_toInt x.toInt16
    have h3 := Int16.toInt_lt x.toInt16
    omega
  | 2 =>
    show 9223372036854775808 ≤ zI (x.toUInt32 % 65536).toInt32 ∧ zI (x.toUInt32 % 65536).toInt32 ≤ 9223372036854841343
    rw [pk_char]
    have hl : x.toBitVec.toNat % 65536 < 65536 := Nat.mod_lt _ (by decide)
    generalize x.toBitVec.toNat % 65536 = d at hl
    rw [zI_nI (by omega)]
    unfold ax_bi
    rw [if_pos (by omega)]
    omega
  | n + 3 => exact full_in _
theorem ax_un_ok {sp : Nat → Nat} {ρ ad : List Nat} {σ : AS} (hS : St ρ σ) {op : Nat} {a : AV} {A : Value} (ha : Rp sp ρ ad a A) {β : Type} {k : AS → AV → Option β} {r : β} (h : ax_un op σ a k = some r) :
    ∃ (x : Int32) (σ' : AS) (v : AV) (ρ' : List Nat), A = .int x ∧ k σ' v = some r ∧ Sb ρ ρ' ∧ St ρ' σ' ∧ Rp sp ρ' ad v (.int (ax_fu op x)) := by
  unfold ax_un at h
  cases hc : Nat.beq a.1 0 with
  | true =>
    rw [hc] at h
    obtain ⟨h1, h2⟩ := gd_s h
    have q1 := bb_eq hc
    obtain ⟨ta, na⟩ := a
    dsimp only at q1
    subst q1
    rw [ax_fc_eq] at h2
    exact ⟨nI na, σ, _, ρ, ha, h2, Sb.rf ρ, hS, by show Value.int _ = Value.int _; rw [ax_cu_ok op na (bb_lt h1)]⟩
  | false =>
    rw [hc] at h
    obtain ⟨h1, h⟩ := gd_s (b := Nat.beq a.1 4) h
    obtain ⟨x, hx⟩ := ha.tI (by unfold ax_tI; rw [h1]; exact Bool.or_true _)
    have hi := ax_cuv_ok op x
    have hn := nwI (sp := sp) (ad := ad) hS (ax_fu op x) hi.1 hi.2
    exact ⟨x, _, _, _, hx, h, hn.1, hn.2.1, hn.2.2⟩
theorem ax_i2l_ok {sp : Nat → Nat} {ρ ad : List Nat} {σ : AS} (hS : St ρ σ) {a : AV} {A : Value} (ha : Rp sp ρ ad a A) {β : Type} {k : AS → AV → Option β} {r : β} (h : ax_i2l σ a k = some r) :
    ∃ (x : Int32) (v : AV), A = .int x ∧ k σ v = some r ∧ Rp sp ρ ad v (.long x.toInt64) := by
  unfold ax_i2l at h
  cases hc : Nat.beq a.1 0 with
  | true =>
    rw [hc] at h
    obtain ⟨h1, h2⟩ := gd_s h
    have q1 := bb_eq hc
    have q2 := bb_lt h1
    obtain ⟨ta, na⟩ := a
    dsimp only at q1 q2
    subst q1
    have h2 : ax_fc (bif Nat.blt na 2147483648 then na else na + 18446744069414584320) (fun n => k σ (1, n)) = some r := h2
    rw [ax_fc_eq] at h2
    refine ⟨nI na, _, ha, h2, ?_⟩
    show Value.long _ = Value.long (lN (bif Nat.blt na 2147483648 then na else na + 18446744069414584320))
    refine congrArg Value.long ?_
    apply Int64.toInt_inj.mp
    rw [Int32.toInt_toInt64, nI_toInt_bmod, lN_toInt_bmod]
    cases hb : Nat.blt na 2147483648 with
    | true =>
      have := bb_lt hb
      show _ = (na : Int).bmod 18446744073709551616
      simp only [Int.bmod_def]
      omega
    | false =>
      have := bb_nlt hb
      show _ = ((na + 18446744069414584320 : Nat) : Int).bmod 18446744073709551616
      simp only [Int.bmod_def]
      omega
  | false =>
    rw [hc] at h
    obtain ⟨h1, h⟩ := gd_s (b := Nat.beq a.1 4) h
    obtain ⟨q, e, h⟩ := ob_s h
    obtain ⟨x, hx, -, -, x3⟩ := ax_rI_ok hS ha e
    refine ⟨x, _, hx, h, zI x, x3 (bb_eq h1), ?_⟩
    refine congrArg Value.long ?_
    apply Int64.toInt_inj.mp
    have h2 := zI_rng x
    have h3 := zI_cast x
    rw [Int32.toInt_toInt64, lN_z (by omega)]
    omega
theorem ax_l2i_ok {sp : Nat → Nat} {ρ ad : List Nat} {σ : AS} (hS : St ρ σ) {a : AV} {A : Value} (ha : Rp sp ρ ad a A) {β : Type} {k : AS → AV → Option β} {r : β} (h : ax_l2i σ a k = some r) :
    ∃ (x : Int64) (σ' : AS) (v : AV) (ρ' : List Nat), A = .long x ∧ k σ' v = some r ∧ Sb ρ ρ' ∧ St ρ' σ' ∧ Rp sp ρ' ad v (.int x.toInt32) := by
  unfold ax_l2i at h
  cases hc : Nat.beq a.1 1 with
  | true =>
    rw [hc] at h
    have q1 := bb_eq hc
    obtain ⟨ta, na⟩ := a
    dsimp only at q1
    subst q1
    have h : ax_fc (na % 4294967296) (fun n => k σ (0, n)) = some r := h
    rw [ax_fc_eq] at h
    refine ⟨lN na, σ, _, ρ, ha, h, Sb.rf ρ, hS, ?_⟩
    show Value.int _ = Value.int (nI (na % 4294967296))
    rw [nI_mod, lN_i]
  | false =>
    rw [hc] at h
    obtain ⟨h1, h⟩ := gd_s (b := Nat.beq a.1 5) h
    obtain ⟨x, hx⟩ := ha.tL (by unfold ax_tL; rw [h1]; exact Bool.or_true _)
    have hf := full_in x.toInt32
    have hn := nwI (sp := sp) (ad := ad) hS x.toInt32 hf.1 hf.2
    exact ⟨x, _, _, _, hx, h, hn.1, hn.2.1, hn.2.2⟩
end
section
/-! 08.ctx -/
/-! THE ABSTRACT MACHINE, 5: its heap; what an entry of a table must say; the context of a method -/
theorem ax_hs_ok {β : Type} {h : AH} {k : Nat} {c : AC} {kk : AH → Option β} {r : β} (e : ax_hs h k c kk = some r) : ∃ h', kk h' = some r ∧ h'.1 = h.1 ∧ ∀ i d, ax_hn h' i = some d → (i = k ∧ d = c) ∨ (i ≠ k ∧ ax_hn h i = some d) := by
  unfold ax_hs at e
  obtain ⟨r0, e0, e⟩ := ob_s e
  rw [ax_set_eq, ax_set_eq] at e
  rw [ax_nth_eq] at e0
  refine ⟨_, e, rfl, fun i d hd => ?_⟩
  unfold ax_hn at hd ⊢
  obtain ⟨r1, e1, e2⟩ := ob_s hd
  rw [ax_nth_eq] at e1
  rw [ax_nth_eq] at e2
  dsimp only at e1
  by_cases hq : i / 16 = k / 16
  · rw [hq] at e1
    rw [List.getElem?_set_self (List.getElem?_eq_some_iff.mp e0).1] at e1
    cases e1
    by_cases hr : i % 16 = k % 16
    · rw [hr, List.getElem?_set] at e2
      simp only [if_true] at e2
      split at e2
      · exact Or.inl ⟨by omega, (Option.some.inj e2).symm⟩
      · cases e2
    · rw [List.getElem?_set_ne (fun q => hr q.symm)] at e2
      refine Or.inr ⟨fun q => hr (by rw [q]), ?_⟩
      rw [ax_nth_eq, hq, e0]
      show ax_nth r0 (i % 16) = some d
      rw [ax_nth_eq]
      exact e2
  · rw [List.getElem?_set_ne (fun q => hq q.symm)] at e1
    refine Or.inr ⟨fun q => hq (by rw [q]), ?_⟩
    rw [ax_nth_eq, e1]
    show ax_nth r1 (i % 16) = some d
    rw [ax_nth_eq]
    exact e2
theorem ax_ha_ok {β : Type} {h : AH} {c : AC} {kk : AH → Option β} {r : β} (e : ax_ha h c kk = some r) : ∃ h', kk h' = some r ∧ h'.1 = h.1 + 1 ∧ ∀ i d, ax_hn h' i = some d → (i = h.1 ∧ d = c) ∨ (i ≠ h.1 ∧ ax_hn h i = some d) := by
  unfold ax_ha at e
  cases hb : Nat.beq (h.1 % 16) 0 with
  | true =>
    rw [hb] at e
    obtain ⟨g1, e⟩ := gd_s (b := Nat.beq h.2.length (h.1 / 16)) e
    rw [ax_fc_eq] at e
    have q1 := bb_eq hb
    have q2 := bb_eq g1
    refine ⟨_, e, rfl, fun i d hd => ?_⟩
    unfold ax_hn at hd ⊢
    obtain ⟨r1, e1, e2⟩ := ob_s hd
    rw [ax_nth_eq] at e1 e2
    dsimp only at e1
    by_cases hl : i / 16 < h.2.length
    · rw [List.getElem?_append_left hl] at e1
      refine Or.inr ⟨fun q => by omega, ?_⟩
      rw [ax_nth_eq, e1]
      show ax_nth r1 (i % 16) = some d
      rw [ax_nth_eq]
      exact e2
    · rw [List.getElem?_append_right (by omega)] at e1
      have hz : i / 16 - h.2.length < 1 := (List.getElem?_eq_some_iff.mp e1).1
      rw [show i / 16 - h.2.length = 0 by omega] at e1
      cases e1
      have hz2 : i % 16 < 1 := (List.getElem?_eq_some_iff.mp e2).1
      rw [show i % 16 = 0 by omega] at e2
      cases e2
      exact Or.inl ⟨by omega, rfl⟩
  | false =>
    rw [hb] at e
    obtain ⟨r0, e0, e⟩ := ob_s (o := ax_nth h.2 (h.1 / 16)) e
    obtain ⟨g1, e⟩ := gd_s e
    rw [ax_set_eq, ax_fc_eq] at e
    rw [ax_nth_eq] at e0
    have q2 := bb_eq g1
    refine ⟨_, e, rfl, fun i d hd => ?_⟩
    unfold ax_hn at hd ⊢
    obtain ⟨r1, e1, e2⟩ := ob_s hd
    rw [ax_nth_eq] at e1 e2
    dsimp only at e1
    by_cases hq : i / 16 = h.1 / 16
    · rw [hq, List.getElem?_set_self (List.getElem?_eq_some_iff.mp e0).1] at e1
      cases e1
      by_cases hl : i % 16 < r0.length
      · rw [List.getElem?_append_left hl] at e2
        refine Or.inr ⟨fun q => by rw [q] at hl; omega, ?_⟩
        rw [ax_nth_eq, hq, e0]
        show ax_nth r0 (i % 16) = some d
        rw [ax_nth_eq]
        exact e2
      · rw [List.getElem?_append_right (by omega)] at e2
        have hz : i % 16 - r0.length < 1 := (List.getElem?_eq_some_iff.mp e2).1
        rw [show i % 16 - r0.length = 0 by omega] at e2
        cases e2
        exact Or.inl ⟨by omega, rfl⟩
    · rw [List.getElem?_set_ne (fun q => hq q.symm)] at e1
      refine Or.inr ⟨fun q => hq (by rw [q]), ?_⟩
      rw [ax_nth_eq, e1]
      show ax_nth r1 (i % 16) = some d
      rw [ax_nth_eq]
      exact e2
theorem ax_el_rep_lt {n j : Nat} {v w : AV} (h : ax_el (ax_rep n v) j = some w) : j < n := by
  unfold ax_el at h
  rw [ax_nth_eq] at h
  unfold ax_rep at h
  cases hc : (List.replicate (n / 64) (List.replicate 64 v) ++ [List.replicate (n % 64) v])[j / 64]? with
  | none => rw [hc] at h; cases h
  | some ch =>
    rw [hc] at h
    dsimp only at h
    rw [ax_nth_eq] at h
    by_cases hl : j / 64 < n / 64
    · omega
    · rw [List.getElem?_append_right (by simp; omega)] at hc
      have hz := (List.getElem?_eq_some_iff.mp hc).1
      simp only [List.length_replicate, List.length_singleton] at hz hc
      rw [show j / 64 - n / 64 = 0 by omega] at hc
      cases hc
      have h2 := (List.getElem?_eq_some_iff.mp h).1
      rw [List.length_replicate] at h2
      omega
/-- the cells with one of them changed -/
theorem Hr.set {sp : Nat → Nat} {dA : Nat → ClassId} {ρ ad : List Nat} {h h' : AH} {ws : va_W} (hh : Hr sp dA ρ ad h ws) {k : Nat} {c : AC} {a : Nat} {E0 E : va_E} (hw : ws[k]? = some (a, E0)) (h1 : h'.1 = h.1) (h2 : ∀ i d, ax_hn h' i = some d → (i = k ∧ d = c) ∨ (i ≠ k ∧ ax_hn h i = some d)) (hE : Er sp dA ρ ad c E) : Hr sp dA ρ ad h' (ws.set k (a, E)) := by
  have hk : k < ws.length := (List.getElem?_eq_some_iff.mp hw).1
  refine ⟨by rw [h1, hh.1]; simp, ?_, fun i d hd => ?_⟩
  · rw [hh.2.1]
    apply List.ext_getElem?
    intro i
    rw [List.getElem?_map, List.getElem?_map]
    by_cases hi : i = k
    · subst hi
      rw [hw, List.getElem?_set_self hk]
      rfl
    · rw [List.getElem?_set_ne (fun q => hi q.symm)]
  · rcases h2 i d hd with ⟨rfl, rfl⟩ | ⟨hi, hd⟩
    · exact ⟨(a, E), by rw [List.getElem?_set_self hk], hE⟩
    · obtain ⟨q, e1, e2⟩ := hh.2.2 i d hd
      exact ⟨q, by rw [List.getElem?_set_ne (fun q => hi q.symm)]; exact e1, e2⟩
theorem Hr.add {sp : Nat → Nat} {dA : Nat → ClassId} {ρ ad : List Nat} {h h' : AH} {ws : va_W} (hh : Hr sp dA ρ ad h ws) {c : AC} {a : Nat} {E : va_E} (h1 : h'.1 = h.1 + 1) (h2 : ∀ i d, ax_hn h' i = some d → (i = h.1 ∧ d = c) ∨ (i ≠ h.1 ∧ ax_hn h i = some d)) (hE : Er sp dA ρ (ad ++ [a]) c E) : Sb ad (ad ++ [a]) ∧ Hr sp dA ρ (ad ++ [a]) h' (ws ++ [(a, E)]) ∧ Rp sp ρ (ad ++ [a]) (2, h.1) (.ref a) := by
  have hl : ad.length = ws.length := by rw [hh.2.1]; simp
  refine ⟨Sb.app _ _, ⟨by rw [h1, hh.1]; simp, by rw [hh.2.1]; simp, fun i d hd => ?_⟩, a, by rw [hh.1, ← hl]; simp, rfl⟩
  rcases h2 i d hd with ⟨rfl, rfl⟩ | ⟨hi, hd⟩
  · exact ⟨(a, E), by rw [hh.1]; simp, hE⟩
  · obtain ⟨q, e1, e2⟩ := hh.2.2 i d hd
    exact ⟨q, by rw [List.getElem?_append_left (List.getElem?_eq_some_iff.mp e1).1]; exact e1, e2.mono (Sb.rf ρ) (Sb.app _ _)⟩
/-- a cell that is read: its address, its element -/
theorem Hr.get {sp : Nat → Nat} {dA : Nat → ClassId} {ρ ad : List Nat} {h : AH} {ws : va_W} (hh : Hr sp dA ρ ad h ws) {k : Nat} {c : AC} (hk : ax_hn h k = some c) {V : Value} (hV : Rp sp ρ ad (2, k) V) : ∃ a E, ws[k]? = some (a, E) ∧ V = .ref a ∧ Er sp dA ρ ad c E := by
  obtain ⟨q, e1, e2⟩ := hh.2.2 k c hk
  obtain ⟨a, ha, rfl⟩ := hV
  rw [hh.2.1, List.getElem?_map, e1] at ha
  cases ha
  exact ⟨q.1, q.2, e1, rfl, e2⟩
/-! words by their places -/
noncomputable def wch (i : Nat) : List Cond := match i with
  | 0 => tables_1_1
  | 1 => tables_1_2
  | 2 => tables_1_3
  | 3 => tables_1_4
  | 4 => tables_1_5
  | 5 => tables_1_6
  | 6 => tables_1_7
  | 7 => tables_1_8
  | 8 => tables_1_9
  | 9 => tables_1_10
  | _ => k2_sels lw_privs
noncomputable def wdq (i j : Nat) (w : Cond) : Bool := match ax_nth (wch i) j with
  | some w' => decide (w' = w) && goodWord w
  | none => false
/-- words that aren't kept as the others are: by their places too -/
noncomputable def wdn (i j : Nat) (w : Cond) : Bool := match ax_nth (wch i) j with
  | some w' => decide (w' = w)
  | none => false
def GW : List Cond := lw_tbl.filter goodWord
theorem wch_in {i : Nat} {w : Cond} (h : w ∈ wch i) : w ∈ lw_tbl := by
  unfold lw_tbl
  have ht : ∀ w, w ∈ tables_1 → w ∈ k2_sels lw_privs ++ tables_1 := fun w h => List.mem_append_right _ h
  unfold wch at h
  split at h
  all_goals first
    | (apply ht; unfold tables_1; simp only [List.mem_append, h, true_or, or_true]; done)
    | exact List.mem_append_left _ h
theorem wdq_in {i j : Nat} {w : Cond} (h : wdq i j w = true) : w ∈ GW := by
  unfold wdq at h
  rw [ax_nth_eq] at h
  cases hc : (wch i)[j]? with
  | none => rw [hc] at h; cases h
  | some w' =>
    rw [hc] at h
    have q := bb_and h
    have e : w' = w := of_decide_eq_true q.1
    subst e
    exact List.mem_filter.mpr ⟨wch_in (List.mem_of_getElem? hc), q.2⟩
theorem wdn_in {i j : Nat} {w : Cond} (h : wdn i j w = true) : w ∈ lw_tbl := by
  unfold wdn at h
  rw [ax_nth_eq] at h
  cases hc : (wch i)[j]? with
  | none => rw [hc] at h; cases h
  | some w' =>
    rw [hc] at h
    have e : w' = w := of_decide_eq_true h
    subst e
    exact wch_in (List.mem_of_getElem? hc)
theorem GW_good {ws : List Cond} (h : ∀ w ∈ ws, w ∈ GW) : GoodIn GW ws := fun w hw => ⟨h w hw, good_of_word (List.mem_filter.mp (h w hw)).2⟩
end
section
/-! 09.snd -/
/-! THE ABSTRACT MACHINE, 6: what an entry must say -/
def sSTR : String := "java/lang/String"
def sPRE : String := "jdk/internal/util/Preconditions"
def tx1 : String := "house salt door person in dead deaf keeps owes heir night die forgive sweep forge to any when labour rest at loop end stop "
def tx3 : String := " house door person owes heir salt in dead deaf keeps night die forgive sweep forge any to when loop end stop labour rest at "
def ax_cc (c : ClassFile.Cond) : Nat := match c with
  | .eq => 0
  | .ne => 1
  | .lt => 2
  | .ge => 3
  | .gt => 4
  | .le => 5
def ax_len (ins : Instr) : Nat := match ins with
  | .bipush _ => 2
  | .sipush _ => 3
  | .ldc _ => 2
  | .ldc_w _ => 3
  | .ldc2_w _ => 3
  | .iload _ => 2
  | .lload _ => 2
  | .aload _ => 2
  | .istore _ => 2
  | .lstore _ => 2
  | .astore _ => 2
  | .iinc _ _ => 3
  | .getfield _ => 3
  | .putfield _ => 3
  | .if_icmp _ _ => 3
  | .ifCond _ _ => 3
  | .goto _ => 3
  | .invokevirtual _ => 3
  | .invokespecial _ => 3
  | .invokestatic _ => 3
  | .new _ => 3
  | .newarray _ => 2
  | .anewarray _ => 3
  | .getstatic _ => 3
  | _ => 1
/-- the type code of a field -/
def ax_ty (d : String) : Nat := match parseFieldDescriptor d with
  | some .int => 0
  | some .boolean => 1
  | some .long => 2
  | some (.object _) => 3
  | some (.array _) => 3
  | _ => 9
/-- keys and targets of a switch -/
def ax_sk (f : Nat → Nat → Bool) (ks : List Nat) : Bool := match ks with
  | [] => true
  | [_] => false
  | k :: t :: r => f k t && ax_sk f r
def ax_key (k : Nat) (ks : List Nat) : Bool := match ks with
  | a :: _ :: r => Nat.beq a k || ax_key k r
  | _ => false
noncomputable def lok (mt : Nat → Nat → Option MR) (M : MR) (pc : Nat) (ins : Instr) (lk : List Nat) : Bool := match ins with
  | .iconst i => (match lk with
    | t :: n :: _ => Nat.beq t 0 && decide (Int32.ofInt i = nI n)
    | _ => false)
  | .bipush i => (match lk with
    | t :: n :: _ => Nat.beq t 0 && decide ((Int8.ofInt i).toInt32 = nI n)
    | _ => false)
  | .sipush i => (match lk with
    | t :: n :: _ => Nat.beq t 0 && decide ((Int16.ofInt i).toInt32 = nI n)
    | _ => false)
  | .lconst i => (match lk with
    | t :: n :: _ => Nat.beq t 1 && decide (Int64.ofNat (i : Nat) = lN n)
    | _ => false)
  | .ldc idx => (match lk with
    | t :: n :: c :: j :: _ => bif Nat.beq t 0 then wdq c j (.constant M.1.cls idx (nI n)) else Nat.beq t 6 && ((Nat.beq n 1 && (decide (M.1.cls = RX9) && Nat.beq idx 51)) || (Nat.beq n 3 && (decide (M.1.cls = RX12) && Nat.beq idx 171)))
    | _ => false)
  | .ldc_w idx => (match lk with
    | t :: n :: c :: j :: _ => Nat.beq t 0 && wdq c j (.constant M.1.cls idx (nI n))
    | _ => false)
  | .ldc2_w idx => (match lk with
    | t :: n :: c :: j :: _ => Nat.beq t 1 && wdq c j (.constantLong M.1.cls idx (lN n))
    | _ => false)
  | .iload i => (match lk with
    | k :: _ => Nat.beq i k
    | _ => false)
  | .lload i => (match lk with
    | k :: _ => Nat.beq i k
    | _ => false)
  | .aload i => (match lk with
    | k :: _ => Nat.beq i k
    | _ => false)
  | .iload_n i => (match lk with
    | k :: _ => Nat.beq (i : Nat) k
    | _ => false)
  | .lload_n i => (match lk with
    | k :: _ => Nat.beq (i : Nat) k
    | _ => false)
  | .aload_n i => (match lk with
    | k :: _ => Nat.beq (i : Nat) k
    | _ => false)
  | .istore i => (match lk with
    | k :: _ => Nat.beq i k && Nat.blt k M.2.2.1
    | _ => false)
  | .lstore i => (match lk with
    | k :: _ => Nat.beq i k && Nat.blt (k + 1) M.2.2.1
    | _ => false)
  | .astore i => (match lk with
    | k :: _ => Nat.beq i k && Nat.blt k M.2.2.1
    | _ => false)
  | .istore_n i => (match lk with
    | k :: _ => Nat.beq (i : Nat) k && Nat.blt k M.2.2.1
    | _ => false)
  | .lstore_n i => (match lk with
    | k :: _ => Nat.beq (i : Nat) k && Nat.blt (k + 1) M.2.2.1
    | _ => false)
  | .astore_n i => (match lk with
    | k :: _ => Nat.beq (i : Nat) k && Nat.blt k M.2.2.1
    | _ => false)
  | .iinc i n => (match lk with
    | k :: n' :: _ => Nat.beq i k && (decide (Int32.ofInt n = nI n') && Nat.blt k M.2.2.1)
    | _ => false)
  | .getfield idx => (match lk with
    | ci :: k :: c :: j :: _ => bif Nat.beq ci 200 then (bif Nat.beq k 0 then wdq c j (.fieldLink M.1.cls idx sSTR "value" "[B") else wdq c j (.fieldLink M.1.cls idx sSTR "coder" "B"))
      else (match vwCl[ci]? with
        | some q => Nat.blt k q.2.2 && wdq c j (.fieldLink M.1.cls idx (q.2.1 k).1 (q.2.1 k).2.1 (q.2.1 k).2.2.1)
        | none => false)
    | _ => false)
  | .putfield idx => (match lk with
    | ci :: k :: tc :: c :: j :: _ => (match vwCl[ci]? with
        | some q => Nat.blt k q.2.2 && (wdq c j (.fieldLink M.1.cls idx (q.2.1 k).1 (q.2.1 k).2.1 (q.2.1 k).2.2.1) && (Nat.beq (ax_ty (q.2.1 k).2.2.1) tc && (!(q.2.1 k).2.2.2 || (decide (M.1.name = "<init>") && decide ((q.2.1 k).1 = M.1.cls)))))
        | none => false)
    | _ => false)
  | .if_icmp c off => (match lk with
    | t :: k :: _ => decide ((pc : Int) + off = (t : Int)) && Nat.beq k (ax_cc c)
    | _ => false)
  | .ifCond c off => (match lk with
    | t :: k :: _ => decide ((pc : Int) + off = (t : Int)) && Nat.beq k (ax_cc c)
    | _ => false)
  | .goto off => (match lk with
    | t :: _ => decide ((pc : Int) + off = (t : Int))
    | _ => false)
  | .new idx => (match lk with
    | ci :: n :: c1 :: j1 :: c2 :: j2 :: c3 :: j3 :: ts => (match vwCl[ci]? with
        | some q => Nat.beq n q.2.2 && (wdq c1 j1 (.classLink M.1.cls idx q.1) && (wdq c2 j2 (.instantiable q.1 q.2.2) && (wdq c3 j3 (.initialized q.1) && (Nat.blt ci 100 && (Nat.beq ts.length n && (List.range n).all (fun k => match ax_ty (q.2.1 k).2.2.1 with
          | 0 => decide (ts[k]? = some 0)
          | 1 => decide (ts[k]? = some 0)
          | 2 => decide (ts[k]? = some 1)
          | 3 => decide (ts[k]? = some 3)
          | _ => false))))))
        | none => false)
    | _ => false)
  | .newarray t => (match lk with
    | kd :: tg :: c :: j :: _ => (match t with
      | .int => Nat.beq kd 100 && (Nat.beq tg 0 && wdq c j (.arrayClass .int))
      | .long => Nat.beq kd 101 && (Nat.beq tg 1 && wdq c j (.arrayClass .long))
      | .byte => Nat.beq kd 102 && (Nat.beq tg 0 && wdq c j (.arrayClass .byte))
      | _ => false)
    | _ => false)
  | .anewarray idx => (match lk with
    | kd :: tg :: c :: j :: _ => Nat.beq tg 3 && ((Nat.beq kd 103 && wdq c j (.classLink M.1.cls idx RX10)) || ((Nat.beq kd 104 && wdq c j (.classLink M.1.cls idx RX1)) || (Nat.beq kd 105 && wdq c j (.classLink M.1.cls idx RX7))))
    | _ => false)
  | .getstatic idx => (match lk with
    | x :: c :: j :: _ => bif Nat.beq x 0 then wdq c j (.fieldLink M.1.cls idx sSTR "COMPACT_STRINGS" "Z") else wdq c j (.fieldLink M.1.cls idx sPRE "SIOOBE_FORMATTER" "Ljava/util/function/BiFunction;")
    | _ => false)
  | .tableswitch d lo hi offs => (match lk with
    | d' :: l :: h :: ks => decide ((pc : Int) + d = (d' : Int)) && (decide ((nI l).toInt = lo) && (decide ((nI h).toInt = hi) && (Nat.blt l 4294967296 && (Nat.blt h 4294967296 && (ax_sk (fun k t => Nat.blt k 4294967296 && match offs[((nI k).toInt - lo).toNat]? with
        | some o => decide ((pc : Int) + o = (t : Int)) && (decide (lo ≤ (nI k).toInt) && decide ((nI k).toInt ≤ hi))
        | none => false) ks && (List.range (hi - lo + 1).toNat).all (fun i => ax_key ((lo + i).toNat) ks && decide (0 ≤ lo)))))))
    | _ => false)
  | .lookupswitch d ps => (match lk with
    | d' :: ks => decide ((pc : Int) + d = (d' : Int)) && ((ps.toList.zip (ps.toList.drop 1)).all (fun (a, next) => a.1 < next.1) && (ax_sk (fun k t => Nat.blt k 4294967296 && decide ((pc : Int) + Op.lookupswitch.offset ps.toList d (nI k).toInt = (t : Int))) ks && ps.toList.all (fun p => decide (0 ≤ p.1 ∧ p.1 < 2147483648) && ax_key p.1.toNat ks)))
    | _ => false)
  | .invokevirtual idx => (match lk with
    | a :: b :: kc :: ci :: m1 :: m2 :: i1 :: i2 :: s1 :: s2 :: n1 :: n2 :: _ => (match mt a b with
      | some C => Nat.beq kc 0 && (wdq m1 m2 (.methodLink M.1.cls idx C.1) && (wdq i1 i2 (.instanceMethod C.1) && (wdq s1 s2 (.selects C.1.cls C.1 C.1) && (wdq n1 n2 (.initialized C.1.cls) && ((bif Nat.beq ci 200 then decide (C.1.cls = sSTR) else decide (vwCl[ci]?.map (fun q => q.1) = some C.1.cls)) && (decide (C.1.cls ≠ "java/lang/invoke/MethodHandle" ∧ C.1.cls ≠ "java/lang/invoke/VarHandle" ∧ (parseMethodDescriptor C.1.desc).map (fun d => d.parameters.length) = some (C.2.2.2.2.2.1 - 1)) && (Nat.ble 1 C.2.2.2.2.2.1 && (!(Nat.beq a 900) && (!(Nat.beq a 901) && !(Nat.beq a 902))))))))))
      | none => false)
    | _ => false)
  | .invokespecial idx => (match lk with
    | a :: l1 => bif Nat.beq a 900 then (match l1 with
        | m1 :: m2 :: i1 :: i2 :: c1 :: c2 :: _ => wdq m1 m2 (.methodLink M.1.cls idx objectInit) && (wdq i1 i2 (.instanceMethod objectInit) && wdq c1 c2 (.code objectInit ⟨#[0xb1]⟩ 1 none))
        | _ => false) else (match l1 with
        | b :: kc :: ci :: m1 :: m2 :: i1 :: i2 :: n1 :: n2 :: ne :: _ => (match mt a b with
          | some C => Nat.beq kc 1 && ((bif Nat.beq ne 0 then wdq m1 m2 (.methodLink M.1.cls idx C.1) else wdn m1 m2 (.methodLinkNest M.1.cls idx C.1 RX11)) && (wdq i1 i2 (.instanceMethod C.1) && (wdq n1 n2 (.initialized C.1.cls) && (decide (C.1.cls ≠ "java/lang/invoke/MethodHandle" ∧ C.1.cls ≠ "java/lang/invoke/VarHandle" ∧ (parseMethodDescriptor C.1.desc).map (fun d => d.parameters.length) = some (C.2.2.2.2.2.1 - 1)) && (Nat.ble 1 C.2.2.2.2.2.1 && (decide (C.1.name = "<init>") && (decide (C.2.2.2.1 = none) && (!(Nat.beq a 901) && !(Nat.beq a 902)))))))))
          | none => false)
        | _ => false)
    | _ => false)
  | .invokestatic idx => (match lk with
    | a :: l1 => bif Nat.beq a 901 then (match l1 with
        | m1 :: m2 :: i1 :: i2 :: s1 :: s2 :: n1 :: n2 :: _ => wdq m1 m2 (.methodLink M.1.cls idx arraycopyName) && (wdq i1 i2 (.native arraycopyName) && (wdq s1 s2 (.static arraycopyName) && wdq n1 n2 (.initialized "java/lang/System")))
        | _ => false) else bif Nat.beq a 902 then (match l1 with
        | m1 :: m2 :: s1 :: s2 :: n1 :: n2 :: c1 :: c2 :: _ => wdq m1 m2 (.methodLink M.1.cls idx Lib.Math.min.name) && (wdq s1 s2 (.static Lib.Math.min.name) && (wdq n1 n2 (.initialized "java/lang/Math") && wdq c1 c2 (.code Lib.Math.min.name Lib.Math.min.code 2 (some .int))))
        | _ => false) else (match l1 with
        | b :: kc :: ci :: m1 :: m2 :: i1 :: i2 :: n1 :: n2 :: ne :: _ => (match mt a b with
          | some C => Nat.beq kc 2 && ((bif Nat.beq ne 0 then wdq m1 m2 (.methodLink M.1.cls idx C.1) else wdn m1 m2 (.methodLinkNest M.1.cls idx C.1 RX11)) && (wdq i1 i2 (.static C.1) && (wdq n1 n2 (.initialized C.1.cls) && (decide (C.1.cls ≠ "java/lang/invoke/MethodHandle" ∧ C.1.cls ≠ "java/lang/invoke/VarHandle" ∧ (parseMethodDescriptor C.1.desc).map (fun d => d.parameters.length) = some C.2.2.2.2.2.1) && !(Nat.beq a 900)))))
          | none => Nat.beq a 903 && (wdq b kc (.methodLink M.1.cls idx Lib.Math.max.name) && (wdq ci m1 (.static Lib.Math.max.name) && (wdq m2 i1 (.initialized "java/lang/Math") && wdq i2 n1 (.code Lib.Math.max.name Lib.Math.max.code 2 (some .int))))))
        | _ => false)
    | _ => false)
  | _ => true
/-- an entry is right -/
noncomputable def eok (mt : Nat → Nat → Option MR) (M : MR) (e : ME) : Bool := decide (decode M.2.1 e.1 = .ok (e.2.2.2.2, e.2.2.1)) && (Nat.beq e.2.1 (ax_op e.2.2.2.2) && ((Nat.ble 57 e.2.1 || Nat.beq e.2.2.1 (ax_len e.2.2.2.2)) && lok mt M e.1 e.2.2.2.2 e.2.2.2.1))
def Mok (mt : Nat → Nat → Option MR) (M : MR) : Prop := ∀ e ∈ M.2.2.2.2.2.2, eok mt M e = true
def Mcw (M : MR) : Prop := Cond.code M.1 M.2.1 M.2.2.1 M.2.2.2.1 ∈ GW ∧ plainName M.1.cls = true
end
section
/-! 10.ctx -/
/-! THE ABSTRACT MACHINE, 7: the context of a method's walk -/
def ax_tys (dA : Nat → ClassId) : List (ClassId × FieldType) := [(dA 100, .int), (dA 101, .long), (dA 102, .byte), (dA 103, .object RX10), (dA 104, .object RX1), (dA 105, .object RX7)]
abbrev aA (H0 : Heap) : Nat → Prop := fun q => H0.size ≤ q
/-- an old String and its bytes -/
def SO (sp : Nat → Nat) (sb : Nat → List Nat) (H0 : Heap) (x : Nat) (U : State) : Prop := va_O sSTR (sp x) (aA H0) U H0 ∧ va_OF sSTR "coder" "B" (.int 0) (sp x) (aA H0) U H0 ∧ va_OF sSTR "value" "[B" (.ref (sp (x + 1))) (sp x) (aA H0) U H0 ∧ va_T .byte (sp (x + 1)) (sb (x + 1)).length (fun j => .int (nI ((sb (x + 1)).getD j 0))) (aA H0) U H0
def nestW : List Cond := lw_tbl.filter (fun w => match w with | .methodLinkNest _ _ _ _ => true | _ => false)
/-- the static that is given along -/
def vq (sp : Nat → Nat) : Value := match sp 900 with
  | 0 => .null
  | n + 1 => .ref n
theorem vq_cat (sp : Nat → Nat) : (vq sp).category = 1 := by
  unfold vq
  split <;> rfl
/-- what holds of old cells and of words that are kept in another way -/
def OX (sp : Nat → Nat) (sb : Nat → List Nat) (H0 : Heap) (ρ0 : List Nat) (U : State) : Prop :=
  (∃ (L : Nat) (xs : Nat → Int32), va_X (sp 0) L xs U H0 ∧ sp 0 < H0.size ∧ L < 2147483648 ∧ ρ0[6]? = some (L + 9223372036854775808) ∧ (∀ j, j < 6 → ρ0[j]? = some (zI (xs j))) ∧ ∀ j, j < L → sp (1000 + j) = zI (xs j)) ∧
  SO sp sb H0 1 U ∧ SO sp sb H0 3 U ∧ vk_R RX9 51 tx1 (sp 1) U ∧ vk_R RX12 171 tx3 (sp 3) U ∧
  va_Z sSTR "COMPACT_STRINGS" "Z" (.int 1) (aA H0) U H0 ∧ va_Z sPRE "SIOOBE_FORMATTER" "Ljava/util/function/BiFunction;" (vq sp) (aA H0) U H0 ∧
  va_AO RX10 U ∧ va_AO RX1 U ∧ va_AO RX7 U ∧ ∀ w ∈ nestW, va_Nw w U
theorem OX.warm {sp : Nat → Nat} {sb : Nat → List Nat} {H0 : Heap} {ρ0 ρ1 : List Nat} {s U : State} (hW : s.WarmedH U.vm) (hρ : Sb ρ0 ρ1) (h : OX sp sb H0 ρ0 s) : OX sp sb H0 ρ1 U := by
  obtain ⟨⟨L, xs, a1, a2, a3, a4, a5, a6⟩, b1, b3, c1, c3, d, e, f1, f2, f3, g⟩ := h
  have hv := hW.alike
  refine ⟨⟨L, xs, a1.moved hv, a2, a3, hρ _ _ a4, fun j hj => hρ _ _ (a5 j hj), a6⟩, ⟨b1.1.moved hv, b1.2.1.moved hv, b1.2.2.1.moved hv, b1.2.2.2.moved hv⟩, ⟨b3.1.moved hv, b3.2.1.moved hv, b3.2.2.1.moved hv, b3.2.2.2.moved hv⟩, c1.warm hW, c3.warm hW, d.moved hv, e.moved hv, f1.moved hv, f2.moved hv, f3.moved hv, fun w hw => ?_⟩
  have hw2 := (List.mem_filter.mp hw).2
  have hg := g w hw
  split at hw2
  · exact va_Nw.warmM hW hg
  · cases hw2
section CTX
variable (sb : Nat → List Nat) (mt : Nat → Nat → Option MR) (dC : Nat → ClassId) (dI : Nat → Nat → Nat) (dA : Nat → ClassId) (sp : Nat → Nat) (H0 : Heap) (l : Launch)
/-- the context: the machine, the method's code, the words, the classes, the room -/
def CX (ρ0 : List Nat) (M : MR) (p : Program) (R : Room) (s : State) (m : MethodId) (args : Array Value) (meth : Method) (c : Code) : Prop :=
  p.tables.exec = Jvm.exec ∧ c.code = M.2.1 ∧ c.maxLocals = M.2.2.1 ∧ s.vm.findClass M.1.cls = some m.cls ∧ (∀ w ∈ GW, w.before args s = true) ∧ va_K (dC, dI) vwCl (ax_tys dA) s ∧ meth.locks = false ∧ meth.sig.returnType = M.2.2.2.1 ∧ (M.1.name = "<init>" → meth.name = "<init>") ∧ R = M.2.2.2.2.1 ∧ OX sp sb H0 ρ0 s
/-- the goal at a state of the abstract machine -/
def GG (p : Program) (e : Env) (R : Room) (s : State) (m : MethodId) (args : Array Value) (below : List Frame) (meth : Method) (c : Code) (Q : State → Prop) (ρ0 ad0 : List Nat) (nL pc : Nat) (σ : AS) (h : AH) (nc ns : Nat) (lv : AL) (st : List AV) : Prop :=
  ∀ (ρ ad : List Nat) (ws : va_W) (H : Heap) (locs : List Loc) (ls : Array Slot) (LV : List (Nat × Value)) (ST : List Value), Sb ρ0 ρ → Sb ad0 ad → St ρ σ → Hr sp dA ρ ad h ws → va_P (dC, dI) vwCl ws H → va_D (aA H0) ws → va_S (aA H0) H0 H locs → Rl sp ρ ad lv LV → lv_has ls nL LV → Rs sp ρ ad st ST → W p l e R s m args below meth c H locs nc ns Q (F0 m pc ls ST)
/-- what stands at an end: the goal there -/
def RO (p : Program) (e : Env) (R : Room) (s : State) (m : MethodId) (args : Array Value) (below : List Frame) (meth : Method) (c : Code) (Q : State → Prop) (ρ0 ad0 : List Nat) (M : MR) (o : AO) : Prop :=
  (o.2.2.2.2.2.1 = 99 ∨ ∃ ins, ax_op ins = o.2.2.2.2.2.1 ∧ decode M.2.1 o.2.2.2.2.1 = .ok (ins, 1) ∧ ax_rok M.2.2.2.1 o.2.2.2.2.2.1 o.2.2.2.2.2.2.2 = true ∧ o.2.2.1 ≤ M.2.2.2.2.1.cells ∧ o.2.2.2.1 ≤ M.2.2.2.2.1.slots) → GG dC dI dA sp H0 l p e R s m args below meth c Q ρ0 ad0 M.2.2.1 o.2.2.2.2.1 o.1 o.2.1 o.2.2.1 o.2.2.2.1 o.2.2.2.2.2.2.1 o.2.2.2.2.2.2.2
/-- the abstract machine is sound -/
def Snd (f : GO) : Prop := ∀ (p : Program) (e : Env) (R : Room) (s : State) (m : MethodId) (args : Array Value) (below : List Frame) (meth : Method) (c : Code) (Q : State → Prop) (ρ0 ad0 : List Nat) (M : MR) (cut pc : Nat) (cd : List ME) (σ : AS) (h : AH) (nc ns : Nat) (lv : AL) (st : List AV) (outs : List AO), Mok mt M → (∀ x ∈ cd, x ∈ M.2.2.2.2.2.2) → CX sb dC dI dA sp H0 ρ0 M p R s m args meth c → f M cut pc cd σ h nc ns lv st = some outs → (∀ o ∈ outs, RO dC dI dA sp H0 l p e R s m args below meth c Q ρ0 ad0 M o) → GG dC dI dA sp H0 l p e R s m args below meth c Q ρ0 ad0 M.2.2.1 pc σ h nc ns lv st
end CTX
theorem ax_two_s {x y : RS} {r : List AO} (h : ax_two x y = some r) : ∃ a b, x = some a ∧ y = some b ∧ r = a ++ b := by
  obtain ⟨a, e1, h⟩ := ob_s h
  obtain ⟨b, e2, h⟩ := ob_s h
  exact ⟨a, b, e1, e2, (Option.some.inj h).symm⟩
theorem ax_go_s {o : Option AS} {go : AS → RS} {r : List AO} (h : ax_go o go = some r) {σ : AS} (ho : o = some σ) : go σ = some r := by subst ho; exact h
theorem ax_jmp_in (tab : List ME) (pc : Nat) : ∀ x ∈ ax_jmp tab pc, x ∈ tab := by
  induction tab with
  | nil => intro x hx; cases hx
  | cons e t ih =>
    intro x hx
    have hx : x ∈ (bif Nat.beq e.1 pc then e :: t else ax_jmp t pc) := hx
    cases hb : Nat.beq e.1 pc with
    | true => rw [hb] at hx; exact hx
    | false => rw [hb] at hx; exact List.mem_cons_of_mem _ (ih x hx)
end
section
/-! 11.ops -/
/-! THE ABSTRACT MACHINE, 8: its steps are the machine's: numbers, locals -/
section OPS
variable {sb : Nat → List Nat} {mt : Nat → Nat → Option MR} {dC : Nat → ClassId} {dI : Nat → Nat → Nat} {dA : Nat → ClassId} {sp : Nat → Nat} {H0 : Heap} {l : Launch}
variable {ih : GO} {p : Program} {e : Env} {R : Room} {s : State} {m : MethodId} {args : Array Value} {below : List Frame} {meth : Method} {c : Code} {Q : State → Prop} {ρ0 ad0 : List Nat} {M : MR} {cut pc len : Nat} {ins : Instr} {lk : List Nat} {cd tl : List ME} {σ : AS} {h : AH} {nc ns : Nat} {lv : AL} {st : List AV} {outs : List AO}
theorem sn_push (hI : Snd sb mt dC dI dA sp H0 l ih) (hM : Mok mt M) (htl : ∀ x ∈ tl, x ∈ M.2.2.2.2.2.2) (hX : CX sb dC dI dA sp H0 ρ0 M p R s m args meth c) (hR : ∀ o ∈ outs, RO dC dI dA sp H0 l p e R s m args below meth c Q ρ0 ad0 M o) (hdg : decode M.2.1 pc = .ok (ins, len)) (hlen : len = ax_len ins) (hlk : lok mt M pc ins lk = true) (ho : ax_op ins = 0)
    (hr : lc lk (fun t lk => lc lk (fun n _ => ih M cut (pc + len) tl σ h nc ns lv ((t, n) :: st))) = some outs) : GG dC dI dA sp H0 l p e R s m args below meth c Q ρ0 ad0 M.2.2.1 pc σ h nc ns lv st := by
  obtain ⟨t, lk1, rfl, hr1⟩ := lc_s hr
  obtain ⟨n, lk2, rfl, hr2⟩ := lc_s hr1
  have G := hI p e R s m args below meth c Q ρ0 ad0 M cut _ tl _ _ _ _ _ _ outs hM htl hX hr2 hR
  obtain ⟨hx, hb, hml, hown, hts, hK, hlocks, hrt, hin, hRoom, hO⟩ := hX
  intro ρ ad ws H locs ls LV ST q1 q2 q3 q4 q5 q6 q7 q8 q9 q10
  cases ins <;> first | (exact absurd ho (Nat.ne_of_beq_eq_false rfl)) | skip
  case bipush i =>
    subst hlen
    have hl : (Nat.beq t 0 && decide ((Int8.ofInt i).toInt32 = nI n)) = true := hlk
    have w := bb_and hl
    obtain rfl := bb_eq w.1
    exact lv_bipush hx hb hdg (of_decide_eq_true w.2) (G ρ ad ws H locs ls LV (.int (nI n) :: ST) q1 q2 q3 q4 q5 q6 q7 q8 q9 ⟨rfl, q10⟩)
  case iconst i =>
    subst hlen
    have hl : (Nat.beq t 0 && decide (Int32.ofInt i = nI n)) = true := hlk
    have w := bb_and hl
    obtain rfl := bb_eq w.1
    exact lv_iconst hx hb hdg (of_decide_eq_true w.2) (G ρ ad ws H locs ls LV (.int (nI n) :: ST) q1 q2 q3 q4 q5 q6 q7 q8 q9 ⟨rfl, q10⟩)
  case lconst i =>
    subst hlen
    have hl : (Nat.beq t 1 && decide (Int64.ofNat (i : Nat) = lN n)) = true := hlk
    have w := bb_and hl
    obtain rfl := bb_eq w.1
    exact lv_lconst hx hb hdg (of_decide_eq_true w.2) (G ρ ad ws H locs ls LV (.long (lN n) :: ST) q1 q2 q3 q4 q5 q6 q7 q8 q9 ⟨rfl, q10⟩)
  case sipush i =>
    subst hlen
    have hl : (Nat.beq t 0 && decide ((Int16.ofInt i).toInt32 = nI n)) = true := hlk
    have w := bb_and hl
    obtain rfl := bb_eq w.1
    exact lv_sipush hx hb hdg (of_decide_eq_true w.2) (G ρ ad ws H locs ls LV (.int (nI n) :: ST) q1 q2 q3 q4 q5 q6 q7 q8 q9 ⟨rfl, q10⟩)
  case ldc idx =>
    subst hlen
    cases lk2 with
    | nil => cases hlk
    | cons c1 lk3 =>
      cases lk3 with
      | nil => cases hlk
      | cons j1 lk4 =>
        have hl : (bif Nat.beq t 0 then wdq c1 j1 (.constant M.1.cls idx (nI n)) else Nat.beq t 6 && ((Nat.beq n 1 && (decide (M.1.cls = RX9) && Nat.beq idx 51)) || (Nat.beq n 3 && (decide (M.1.cls = RX12) && Nat.beq idx 171)))) = true := hlk
        cases ht : Nat.beq t 0 with
        | true =>
          rw [ht] at hl
          obtain rfl := bb_eq ht
          exact lv_ldc hx hb hown (hts _ (wdq_in hl)) hdg (G ρ ad ws H locs ls LV (.int (nI n) :: ST) q1 q2 q3 q4 q5 q6 q7 q8 q9 ⟨rfl, q10⟩)
        | false =>
          rw [ht] at hl
          have w := bb_and hl
          obtain rfl := bb_eq w.1
          rcases (Bool.or_eq_true _ _).mp w.2 with w2 | w2
          · have w3 := bb_and w2
            have w4 := bb_and w3.2
            obtain rfl := bb_eq w3.1
            obtain rfl := bb_eq w4.2
            have hc : M.1.cls = RX9 := of_decide_eq_true w4.1
            exact va_ldcS hx hb (by rw [← hc]; exact hown) hO.2.2.2.1 hdg (G ρ ad ws H locs ls LV (.ref (sp 1) :: ST) q1 q2 q3 q4 q5 q6 q7 q8 q9 ⟨rfl, q10⟩)
          · have w3 := bb_and w2
            have w4 := bb_and w3.2
            obtain rfl := bb_eq w3.1
            obtain rfl := bb_eq w4.2
            have hc : M.1.cls = RX12 := of_decide_eq_true w4.1
            exact va_ldcS hx hb (by rw [← hc]; exact hown) hO.2.2.2.2.1 hdg (G ρ ad ws H locs ls LV (.ref (sp 3) :: ST) q1 q2 q3 q4 q5 q6 q7 q8 q9 ⟨rfl, q10⟩)
  case ldc_w idx =>
    subst hlen
    cases lk2 with
    | nil => cases hlk
    | cons c1 lk3 =>
      cases lk3 with
      | nil => cases hlk
      | cons j1 lk4 =>
        have hl : (Nat.beq t 0 && wdq c1 j1 (.constant M.1.cls idx (nI n))) = true := hlk
        have w := bb_and hl
        obtain rfl := bb_eq w.1
        exact lv_ldcw hx hb hown (hts _ (wdq_in w.2)) hdg (G ρ ad ws H locs ls LV (.int (nI n) :: ST) q1 q2 q3 q4 q5 q6 q7 q8 q9 ⟨rfl, q10⟩)
  case ldc2_w idx =>
    subst hlen
    cases lk2 with
    | nil => cases hlk
    | cons c1 lk3 =>
      cases lk3 with
      | nil => cases hlk
      | cons j1 lk4 =>
        have hl : (Nat.beq t 1 && wdq c1 j1 (.constantLong M.1.cls idx (lN n))) = true := hlk
        have w := bb_and hl
        obtain rfl := bb_eq w.1
        exact lv_ldc2 hx hb hown (hts _ (wdq_in w.2)) hdg (G ρ ad ws H locs ls LV (.long (lN n) :: ST) q1 q2 q3 q4 q5 q6 q7 q8 q9 ⟨rfl, q10⟩)
theorem sn_load {ok : AV → Bool} (hok : (ok = ax_tI ∧ ax_op ins = 1) ∨ (ok = ax_tL ∧ ax_op ins = 2) ∨ (ok = ax_tR ∧ ax_op ins = 3)) (hI : Snd sb mt dC dI dA sp H0 l ih) (hM : Mok mt M) (htl : ∀ x ∈ tl, x ∈ M.2.2.2.2.2.2) (hX : CX sb dC dI dA sp H0 ρ0 M p R s m args meth c) (hR : ∀ o ∈ outs, RO dC dI dA sp H0 l p e R s m args below meth c Q ρ0 ad0 M o) (hdg : decode M.2.1 pc = .ok (ins, len)) (hlen : len = ax_len ins) (hlk : lok mt M pc ins lk = true)
    (hr : ax_load ok ih M cut (pc + len) tl lk σ h nc ns lv st = some outs) : GG dC dI dA sp H0 l p e R s m args below meth c Q ρ0 ad0 M.2.2.1 pc σ h nc ns lv st := by
  unfold ax_load at hr
  obtain ⟨k, lk1, rfl, hr1⟩ := lc_s hr
  obtain ⟨v, hv, hr2⟩ := ob_s hr1
  obtain ⟨g1, hr3⟩ := gd_s hr2
  have G := hI p e R s m args below meth c Q ρ0 ad0 M cut _ tl _ _ _ _ _ _ outs hM htl hX hr3 hR
  obtain ⟨hx, hb, hml, hown, hts, hK, hlocks, hrt, hin, hRoom, hO⟩ := hX
  intro ρ ad ws H locs ls LV ST q1 q2 q3 q4 q5 q6 q7 q8 q9 q10
  obtain ⟨V, hV, hRp⟩ := ax_lk_has q8 hv
  have hls : ls[k]? = some (.val V) := q9.2.2 (k, V) hV
  rcases hok with ⟨rfl, ho⟩ | ⟨rfl, ho⟩ | ⟨rfl, ho⟩
  · obtain ⟨x, rfl⟩ := hRp.tI g1
    cases ins <;> first | (exact absurd ho (Nat.ne_of_beq_eq_false rfl)) | skip
    case iload i =>
      subst hlen
      obtain rfl := bb_eq (a := i) (b := k) hlk
      exact lv_iload hx hb hdg hls (G ρ ad ws H locs ls LV (.int x :: ST) q1 q2 q3 q4 q5 q6 q7 q8 q9 ⟨hRp, q10⟩)
    case iload_n i =>
      subst hlen
      exact lv_iload_n hx hb hdg (bb_eq (a := (i : Nat)) (b := k) hlk) hls (G ρ ad ws H locs ls LV (.int x :: ST) q1 q2 q3 q4 q5 q6 q7 q8 q9 ⟨hRp, q10⟩)
  · obtain ⟨x, rfl⟩ := hRp.tL g1
    cases ins <;> first | (exact absurd ho (Nat.ne_of_beq_eq_false rfl)) | skip
    case lload i =>
      subst hlen
      obtain rfl := bb_eq (a := i) (b := k) hlk
      exact lv_lload hx hb hdg hls (G ρ ad ws H locs ls LV (.long x :: ST) q1 q2 q3 q4 q5 q6 q7 q8 q9 ⟨hRp, q10⟩)
    case lload_n i =>
      subst hlen
      exact lv_lload_n hx hb hdg (bb_eq (a := (i : Nat)) (b := k) hlk) hls (G ρ ad ws H locs ls LV (.long x :: ST) q1 q2 q3 q4 q5 q6 q7 q8 q9 ⟨hRp, q10⟩)
  · obtain ⟨x, rfl⟩ := hRp.tR g1
    cases ins <;> first | (exact absurd ho (Nat.ne_of_beq_eq_false rfl)) | skip
    case aload i =>
      subst hlen
      obtain rfl := bb_eq (a := i) (b := k) hlk
      exact lv_aload hx hb hdg hls (G ρ ad ws H locs ls LV (.ref x :: ST) q1 q2 q3 q4 q5 q6 q7 q8 q9 ⟨hRp, q10⟩)
    case aload_n i =>
      subst hlen
      exact lv_aload_n hx hb hdg (bb_eq (a := (i : Nat)) (b := k) hlk) hls (G ρ ad ws H locs ls LV (.ref x :: ST) q1 q2 q3 q4 q5 q6 q7 q8 q9 ⟨hRp, q10⟩)
theorem sn_sto {ok : AV → Bool} {kp : Nat → Nat × AV → Bool} (hok : (ok = ax_tI ∧ kp = ax_k1 ∧ ax_op ins = 4) ∨ (ok = ax_tL ∧ kp = ax_k2 ∧ ax_op ins = 5) ∨ (ok = ax_tR ∧ kp = ax_k1 ∧ ax_op ins = 6)) (hI : Snd sb mt dC dI dA sp H0 l ih) (hM : Mok mt M) (htl : ∀ x ∈ tl, x ∈ M.2.2.2.2.2.2) (hX : CX sb dC dI dA sp H0 ρ0 M p R s m args meth c) (hR : ∀ o ∈ outs, RO dC dI dA sp H0 l p e R s m args below meth c Q ρ0 ad0 M o) (hdg : decode M.2.1 pc = .ok (ins, len)) (hlen : len = ax_len ins) (hlk : lok mt M pc ins lk = true)
    (hr : ax_sto ok kp ih M cut (pc + len) tl lk σ h nc ns lv st = some outs) : GG dC dI dA sp H0 l p e R s m args below meth c Q ρ0 ad0 M.2.2.1 pc σ h nc ns lv st := by
  unfold ax_sto at hr
  obtain ⟨k, lk1, rfl, hr1⟩ := lc_s hr
  obtain ⟨v, r, rfl, hr2⟩ := lc_s hr1
  obtain ⟨g1, hr3⟩ := gd_s hr2
  rw [ax_flt_eq] at hr3
  have G := hI p e R s m args below meth c Q ρ0 ad0 M cut _ tl _ _ _ _ _ _ outs hM htl hX hr3 hR
  obtain ⟨hx, hb, hml, hown, hts, hK, hlocks, hrt, hin, hRoom, hO⟩ := hX
  intro ρ ad ws H locs ls LV ST q1 q2 q3 q4 q5 q6 q7 q8 q9 q10
  obtain ⟨V, ST', rfl, hRp, q11⟩ := q10.cons
  rcases hok with ⟨rfl, rfl, ho⟩ | ⟨rfl, rfl, ho⟩ | ⟨rfl, rfl, ho⟩
  · obtain ⟨x, rfl⟩ := hRp.tI g1
    cases ins <;> first | (exact absurd ho (Nat.ne_of_beq_eq_false rfl)) | skip
    case istore i =>
      subst hlen
      have w := bb_and (a := Nat.beq i k) hlk
      obtain rfl := bb_eq w.1
      exact lv_istore hx hb hdg q9 (bb_lt w.2) rfl (fun ls' hl' => G ρ ad ws H locs ls' _ ST' q1 q2 q3 q4 q5 q6 q7 (by exact ⟨⟨rfl, hRp⟩, q8.flt1⟩) hl' q11)
    case istore_n i =>
      subst hlen
      have w := bb_and (a := Nat.beq (i : Nat) k) hlk
      exact lv_istore_n hx hb hdg (bb_eq w.1) q9 (bb_lt w.2) rfl (fun ls' hl' => G ρ ad ws H locs ls' _ ST' q1 q2 q3 q4 q5 q6 q7 (by exact ⟨⟨rfl, hRp⟩, q8.flt1⟩) hl' q11)
  · obtain ⟨x, rfl⟩ := hRp.tL g1
    cases ins <;> first | (exact absurd ho (Nat.ne_of_beq_eq_false rfl)) | skip
    case lstore i =>
      subst hlen
      have w := bb_and (a := Nat.beq i k) hlk
      obtain rfl := bb_eq w.1
      exact lv_lstore hx hb hdg q9 (bb_lt w.2) rfl (fun ls' hl' => G ρ ad ws H locs ls' _ ST' q1 q2 q3 q4 q5 q6 q7 (by exact ⟨⟨rfl, hRp⟩, q8.flt2⟩) hl' q11)
    case lstore_n i =>
      subst hlen
      have w := bb_and (a := Nat.beq (i : Nat) k) hlk
      exact lv_lstore_n hx hb hdg (bb_eq w.1) q9 (bb_lt w.2) rfl (fun ls' hl' => G ρ ad ws H locs ls' _ ST' q1 q2 q3 q4 q5 q6 q7 (by exact ⟨⟨rfl, hRp⟩, q8.flt2⟩) hl' q11)
  · obtain ⟨x, rfl⟩ := hRp.tR g1
    cases ins <;> first | (exact absurd ho (Nat.ne_of_beq_eq_false rfl)) | skip
    case astore i =>
      subst hlen
      have w := bb_and (a := Nat.beq i k) hlk
      obtain rfl := bb_eq w.1
      exact lv_astore hx hb hdg q9 (bb_lt w.2) rfl (fun ls' hl' => G ρ ad ws H locs ls' _ ST' q1 q2 q3 q4 q5 q6 q7 (by exact ⟨⟨rfl, hRp⟩, q8.flt1⟩) hl' q11)
    case astore_n i =>
      subst hlen
      have w := bb_and (a := Nat.beq (i : Nat) k) hlk
      exact lv_astore_n hx hb hdg (bb_eq w.1) q9 (bb_lt w.2) rfl (fun ls' hl' => G ρ ad ws H locs ls' _ ST' q1 q2 q3 q4 q5 q6 q7 (by exact ⟨⟨rfl, hRp⟩, q8.flt1⟩) hl' q11)
theorem sn_iinc (hI : Snd sb mt dC dI dA sp H0 l ih) (hM : Mok mt M) (htl : ∀ x ∈ tl, x ∈ M.2.2.2.2.2.2) (hX : CX sb dC dI dA sp H0 ρ0 M p R s m args meth c) (hR : ∀ o ∈ outs, RO dC dI dA sp H0 l p e R s m args below meth c Q ρ0 ad0 M o) (hdg : decode M.2.1 pc = .ok (ins, len)) (hlen : len = ax_len ins) (hlk : lok mt M pc ins lk = true) (ho : ax_op ins = 7)
    (hr : lc lk (fun i lk => lc lk (fun n _ => ob (ax_lk lv i) (fun v => ax_ib 0 σ (ax_nv σ v) (0, n) (fun σ' w => ax_flt (ax_k1 i) lv (fun lv' => ih M cut (pc + len) tl σ' h nc ns ((i, w) :: lv') st))))) = some outs) : GG dC dI dA sp H0 l p e R s m args below meth c Q ρ0 ad0 M.2.2.1 pc σ h nc ns lv st := by
  obtain ⟨k, lk1, rfl, hr1⟩ := lc_s hr
  obtain ⟨n, lk2, rfl, hr2⟩ := lc_s hr1
  obtain ⟨v, hv, hr3⟩ := ob_s hr2
  obtain ⟨hx, hb, hml, hown, hts, hK, hlocks, hrt, hin, hRoom, hO⟩ := id hX
  intro ρ ad ws H locs ls LV ST q1 q2 q3 q4 q5 q6 q7 q8 q9 q10
  obtain ⟨V, hV, hRp⟩ := ax_lk_has q8 hv
  obtain ⟨x, y, σ', w, ρ', hxV, hyV, hr4, r1, r2, r3⟩ := ax_ib_ok q3 (ax_nv_ok q3 hRp) (B := .int (nI n)) (b := (0, n)) (sp := sp) (ad := ad) rfl hr3
  subst hxV
  cases hyV
  rw [ax_flt_eq] at hr4
  have G := hI p e R s m args below meth c Q ρ0 ad0 M cut _ tl _ _ _ _ _ _ outs hM htl hX hr4 hR
  obtain ⟨k0, hk0⟩ := List.getElem?_of_mem hV
  cases ins <;> first | (exact absurd ho (Nat.ne_of_beq_eq_false rfl)) | skip
  case iinc i n' =>
    subst hlen
    have w := bb_and (a := Nat.beq i k) hlk
    have w2 := bb_and w.2
    obtain rfl := bb_eq w.1
    have hn : Int32.ofInt n' = nI n := of_decide_eq_true w2.1
    exact lv_iinc hx hb hdg q9 hk0 (by rw [hn]) (bb_lt w2.2) rfl (fun ls' hl' => G ρ' ad ws H locs ls' _ ST (q1.tr r1) q2 r2 (q4.monoρ r1) q5 q6 q7 (by exact ⟨⟨rfl, r3⟩, (q8.mono r1 (Sb.rf ad)).flt1⟩) hl' (q10.mono r1 (Sb.rf ad)))
end OPS
end
section
/-! 12.ari -/
/-! THE ABSTRACT MACHINE, 9: arithmetic, the stack -/
section OPS
variable {sb : Nat → List Nat} {mt : Nat → Nat → Option MR} {dC : Nat → ClassId} {dI : Nat → Nat → Nat} {dA : Nat → ClassId} {sp : Nat → Nat} {H0 : Heap} {l : Launch}
variable {ih : GO} {p : Program} {e : Env} {R : Room} {s : State} {m : MethodId} {args : Array Value} {below : List Frame} {meth : Method} {c : Code} {Q : State → Prop} {ρ0 ad0 : List Nat} {M : MR} {cut pc len : Nat} {ins : Instr} {lk : List Nat} {cd tl : List ME} {σ : AS} {h : AH} {nc ns : Nat} {lv : AL} {st : List AV} {outs : List AO}

theorem sn_ib {op : Nat} (hI : Snd sb mt dC dI dA sp H0 l ih) (hM : Mok mt M) (htl : ∀ x ∈ tl, x ∈ M.2.2.2.2.2.2) (hX : CX sb dC dI dA sp H0 ρ0 M p R s m args meth c) (hR : ∀ o ∈ outs, RO dC dI dA sp H0 l p e R s m args below meth c Q ρ0 ad0 M o) (hdg : decode M.2.1 pc = .ok (ins, len)) (hlen : len = ax_len ins) (hlk : lok mt M pc ins lk = true) (ho : ax_op ins = op + 26) (ho2 : op < 9)
    (hr : ax_bin (ax_ib op) ih M cut (pc + len) tl σ h nc ns lv st = some outs) : GG dC dI dA sp H0 l p e R s m args below meth c Q ρ0 ad0 M.2.2.1 pc σ h nc ns lv st := by
  unfold ax_bin at hr
  obtain ⟨b, st1, rfl, hr1⟩ := lc_s hr
  obtain ⟨a, r, rfl, hr2⟩ := lc_s hr1
  obtain ⟨hx, hb, hml, hown, hts, hK, hlocks, hrt, hin, hRoom, hO⟩ := id hX
  intro ρ ad ws H locs ls LV ST q1 q2 q3 q4 q5 q6 q7 q8 q9 q10
  obtain ⟨B, ST1, rfl, hB, q11⟩ := q10.cons
  obtain ⟨A, ST2, rfl, hA, q12⟩ := q11.cons
  obtain ⟨x, y, σ', v, ρ', rfl, rfl, hr3, r1, r2, r3⟩ := ax_ib_ok q3 (ax_nv_ok q3 hA) (ax_nv_ok q3 hB) hr2
  have G := hI p e R s m args below meth c Q ρ0 ad0 M cut _ tl _ _ _ _ _ _ outs hM htl hX hr3 hR
  have K := G ρ' ad ws H locs ls LV (.int (ax_fop op x y) :: ST2) (q1.tr r1) q2 r2 (q4.monoρ r1) q5 q6 q7 (q8.mono r1 (Sb.rf ad)) q9 ⟨r3, q12.mono r1 (Sb.rf ad)⟩
  match op, ho2 with

  | 0, _ =>
    cases ins <;> first | (exact absurd ho (Nat.ne_of_beq_eq_false rfl)) | skip
    case iadd => subst hlen; exact lv_iadd hx hb hdg (K)

  | 1, _ =>
    cases ins <;> first | (exact absurd ho (Nat.ne_of_beq_eq_false rfl)) | skip
    case isub => subst hlen; exact lv_isub hx hb hdg (K)

  | 2, _ =>
    cases ins <;> first | (exact absurd ho (Nat.ne_of_beq_eq_false rfl)) | skip
    case imul => subst hlen; exact lv_imul hx hb hdg (K)

  | 3, _ =>
    cases ins <;> first | (exact absurd ho (Nat.ne_of_beq_eq_false rfl)) | skip
    case iand => subst hlen; exact lv_iand hx hb hdg (K)

  | 4, _ =>
    cases ins <;> first | (exact absurd ho (Nat.ne_of_beq_eq_false rfl)) | skip
    case ior => subst hlen; exact lv_ior hx hb hdg (K)

  | 5, _ =>
    cases ins <;> first | (exact absurd ho (Nat.ne_of_beq_eq_false rfl)) | skip
    case ixor => subst hlen; exact lv_ixor hx hb hdg (K)

  | 6, _ =>
    cases ins <;> first | (exact absurd ho (Nat.ne_of_beq_eq_false rfl)) | skip
    case ishl => subst hlen; exact lv_ishl hx hb hdg (K)

  | 7, _ =>
    cases ins <;> first | (exact absurd ho (Nat.ne_of_beq_eq_false rfl)) | skip
    case ishr => subst hlen; exact lv_ishr hx hb hdg (K)

  | 8, _ =>
    cases ins <;> first | (exact absurd ho (Nat.ne_of_beq_eq_false rfl)) | skip
    case iushr => subst hlen; exact lv_iushr hx hb hdg rfl (K)

  | n + 9, hn => exact absurd hn (by omega)

theorem sn_id {op : Nat} (hI : Snd sb mt dC dI dA sp H0 l ih) (hM : Mok mt M) (htl : ∀ x ∈ tl, x ∈ M.2.2.2.2.2.2) (hX : CX sb dC dI dA sp H0 ρ0 M p R s m args meth c) (hR : ∀ o ∈ outs, RO dC dI dA sp H0 l p e R s m args below meth c Q ρ0 ad0 M o) (hdg : decode M.2.1 pc = .ok (ins, len)) (hlen : len = ax_len ins) (hlk : lok mt M pc ins lk = true) (ho : ax_op ins = op + 35) (ho2 : op < 2)
    (hr : ax_bin (ax_id op) ih M cut (pc + len) tl σ h nc ns lv st = some outs) : GG dC dI dA sp H0 l p e R s m args below meth c Q ρ0 ad0 M.2.2.1 pc σ h nc ns lv st := by
  unfold ax_bin at hr
  obtain ⟨b, st1, rfl, hr1⟩ := lc_s hr
  obtain ⟨a, r, rfl, hr2⟩ := lc_s hr1
  obtain ⟨hx, hb, hml, hown, hts, hK, hlocks, hrt, hin, hRoom, hO⟩ := id hX
  intro ρ ad ws H locs ls LV ST q1 q2 q3 q4 q5 q6 q7 q8 q9 q10
  obtain ⟨B, ST1, rfl, hB, q11⟩ := q10.cons
  obtain ⟨A, ST2, rfl, hA, q12⟩ := q11.cons
  obtain ⟨x, y, σ', v, ρ', rfl, rfl, hy0, hr3, r1, r2, r3⟩ := ax_id_ok q3 (ax_nv_ok q3 hA) (ax_nv_ok q3 hB) hr2
  have G := hI p e R s m args below meth c Q ρ0 ad0 M cut _ tl _ _ _ _ _ _ outs hM htl hX hr3 hR
  have K := G ρ' ad ws H locs ls LV (.int (if op = 0 then x / y else x - x / y * y) :: ST2) (q1.tr r1) q2 r2 (q4.monoρ r1) q5 q6 q7 (q8.mono r1 (Sb.rf ad)) q9 ⟨r3, q12.mono r1 (Sb.rf ad)⟩
  match op, ho2 with
  | 0, _ =>
    cases ins <;> first | (exact absurd ho (Nat.ne_of_beq_eq_false rfl)) | skip
    case idiv => subst hlen; exact lv_idiv hx hb hdg hy0 K
  | 1, _ =>
    cases ins <;> first | (exact absurd ho (Nat.ne_of_beq_eq_false rfl)) | skip
    case irem => subst hlen; exact lv_irem hx hb hdg hy0 K
  | n + 2, hn => exact absurd hn (by omega)

theorem sn_lb {op : Nat} (hI : Snd sb mt dC dI dA sp H0 l ih) (hM : Mok mt M) (htl : ∀ x ∈ tl, x ∈ M.2.2.2.2.2.2) (hX : CX sb dC dI dA sp H0 ρ0 M p R s m args meth c) (hR : ∀ o ∈ outs, RO dC dI dA sp H0 l p e R s m args below meth c Q ρ0 ad0 M o) (hdg : decode M.2.1 pc = .ok (ins, len)) (hlen : len = ax_len ins) (hlk : lok mt M pc ins lk = true) (ho : ax_op ins = op + 37) (ho2 : op < 5)
    (hr : ax_bin (ax_lb op) ih M cut (pc + len) tl σ h nc ns lv st = some outs) : GG dC dI dA sp H0 l p e R s m args below meth c Q ρ0 ad0 M.2.2.1 pc σ h nc ns lv st := by
  unfold ax_bin at hr
  obtain ⟨b, st1, rfl, hr1⟩ := lc_s hr
  obtain ⟨a, r, rfl, hr2⟩ := lc_s hr1
  obtain ⟨hx, hb, hml, hown, hts, hK, hlocks, hrt, hin, hRoom, hO⟩ := id hX
  intro ρ ad ws H locs ls LV ST q1 q2 q3 q4 q5 q6 q7 q8 q9 q10
  obtain ⟨B, ST1, rfl, hB, q11⟩ := q10.cons
  obtain ⟨A, ST2, rfl, hA, q12⟩ := q11.cons
  obtain ⟨x, y, σ', v, ρ', rfl, rfl, hr3, r1, r2, r3⟩ := ax_lb_ok q3 (ax_nv_ok q3 hA) (ax_nv_ok q3 hB) hr2
  have G := hI p e R s m args below meth c Q ρ0 ad0 M cut _ tl _ _ _ _ _ _ outs hM htl hX hr3 hR
  have K := G ρ' ad ws H locs ls LV (.long (ax_flo op x y) :: ST2) (q1.tr r1) q2 r2 (q4.monoρ r1) q5 q6 q7 (q8.mono r1 (Sb.rf ad)) q9 ⟨r3, q12.mono r1 (Sb.rf ad)⟩
  match op, ho2 with

  | 0, _ =>
    cases ins <;> first | (exact absurd ho (Nat.ne_of_beq_eq_false rfl)) | skip
    case ladd => subst hlen; exact lv_ladd hx hb hdg K

  | 1, _ =>
    cases ins <;> first | (exact absurd ho (Nat.ne_of_beq_eq_false rfl)) | skip
    case lsub => subst hlen; exact lv_lsub hx hb hdg K

  | 2, _ =>
    cases ins <;> first | (exact absurd ho (Nat.ne_of_beq_eq_false rfl)) | skip
    case lmul => subst hlen; exact lv_lmul hx hb hdg K

  | 3, _ =>
    cases ins <;> first | (exact absurd ho (Nat.ne_of_beq_eq_false rfl)) | skip
    case land => subst hlen; exact lv_land hx hb hdg K

  | 4, _ =>
    cases ins <;> first | (exact absurd ho (Nat.ne_of_beq_eq_false rfl)) | skip
    case lor => subst hlen; exact lv_lor hx hb hdg K

  | n + 5, hn => exact absurd hn (by omega)

theorem sn_lsh (hI : Snd sb mt dC dI dA sp H0 l ih) (hM : Mok mt M) (htl : ∀ x ∈ tl, x ∈ M.2.2.2.2.2.2) (hX : CX sb dC dI dA sp H0 ρ0 M p R s m args meth c) (hR : ∀ o ∈ outs, RO dC dI dA sp H0 l p e R s m args below meth c Q ρ0 ad0 M o) (hdg : decode M.2.1 pc = .ok (ins, len)) (hlen : len = ax_len ins) (hlk : lok mt M pc ins lk = true) (ho : ax_op ins = 42)
    (hr : ax_bin ax_lsh ih M cut (pc + len) tl σ h nc ns lv st = some outs) : GG dC dI dA sp H0 l p e R s m args below meth c Q ρ0 ad0 M.2.2.1 pc σ h nc ns lv st := by
  unfold ax_bin at hr
  obtain ⟨b, st1, rfl, hr1⟩ := lc_s hr
  obtain ⟨a, r, rfl, hr2⟩ := lc_s hr1
  unfold ax_lsh at hr2
  obtain ⟨g1, hr3⟩ := gd_s hr2
  obtain ⟨hx, hb, hml, hown, hts, hK, hlocks, hrt, hin, hRoom, hO⟩ := id hX
  intro ρ ad ws H locs ls LV ST q1 q2 q3 q4 q5 q6 q7 q8 q9 q10
  obtain ⟨B, ST1, rfl, hB, q11⟩ := q10.cons
  obtain ⟨A, ST2, rfl, hA, q12⟩ := q11.cons
  have w := bb_and g1
  obtain ⟨x, rfl⟩ := (ax_nv_ok q3 hA).tL w.1
  obtain ⟨y, rfl⟩ := (ax_nv_ok q3 hB).tI w.2
  have hn := nwL (sp := sp) (ad := ad) q3 (x <<< (y.toInt64 &&& 63))
  have G := hI p e R s m args below meth c Q ρ0 ad0 M cut _ tl _ _ _ _ _ _ outs hM htl hX hr3 hR
  have K := G _ ad ws H locs ls LV (.long (x <<< (y.toInt64 &&& 63)) :: ST2) (q1.tr hn.1) q2 hn.2.1 (q4.monoρ hn.1) q5 q6 q7 (q8.mono hn.1 (Sb.rf ad)) q9 ⟨hn.2.2, q12.mono hn.1 (Sb.rf ad)⟩
  cases ins <;> first | (exact absurd ho (Nat.ne_of_beq_eq_false rfl)) | skip
  case lshl => subst hlen; exact lv_lshl hx hb hdg rfl K

theorem sn_un {op : Nat} (hI : Snd sb mt dC dI dA sp H0 l ih) (hM : Mok mt M) (htl : ∀ x ∈ tl, x ∈ M.2.2.2.2.2.2) (hX : CX sb dC dI dA sp H0 ρ0 M p R s m args meth c) (hR : ∀ o ∈ outs, RO dC dI dA sp H0 l p e R s m args below meth c Q ρ0 ad0 M o) (hdg : decode M.2.1 pc = .ok (ins, len)) (hlen : len = ax_len ins) (hlk : lok mt M pc ins lk = true) (ho : ax_op ins = op + 44) (ho2 : op < 4)
    (hr : ax_one (ax_un op) ih M cut (pc + len) tl σ h nc ns lv st = some outs) : GG dC dI dA sp H0 l p e R s m args below meth c Q ρ0 ad0 M.2.2.1 pc σ h nc ns lv st := by
  unfold ax_one at hr
  obtain ⟨a, r, rfl, hr1⟩ := lc_s hr
  obtain ⟨hx, hb, hml, hown, hts, hK, hlocks, hrt, hin, hRoom, hO⟩ := id hX
  intro ρ ad ws H locs ls LV ST q1 q2 q3 q4 q5 q6 q7 q8 q9 q10
  obtain ⟨A, ST2, rfl, hA, q12⟩ := q10.cons
  obtain ⟨x, σ', v, ρ', rfl, hr3, r1, r2, r3⟩ := ax_un_ok q3 (ax_nv_ok q3 hA) hr1
  have G := hI p e R s m args below meth c Q ρ0 ad0 M cut _ tl _ _ _ _ _ _ outs hM htl hX hr3 hR
  have K := G ρ' ad ws H locs ls LV (.int (ax_fu op x) :: ST2) (q1.tr r1) q2 r2 (q4.monoρ r1) q5 q6 q7 (q8.mono r1 (Sb.rf ad)) q9 ⟨r3, q12.mono r1 (Sb.rf ad)⟩
  match op, ho2 with
  | 0, _ =>
    cases ins <;> first | (exact absurd ho (Nat.ne_of_beq_eq_false rfl)) | skip
    case i2b => subst hlen; exact lv_i2b hx hb hdg rfl K
  | 1, _ =>
    cases ins <;> first | (exact absurd ho (Nat.ne_of_beq_eq_false rfl)) | skip
    case i2s => subst hlen; exact lv_i2s hx hb hdg rfl K
  | 2, _ =>
    cases ins <;> first | (exact absurd ho (Nat.ne_of_beq_eq_false rfl)) | skip
    case i2c => subst hlen; exact lv_i2c hx hb hdg rfl K
  | 3, _ =>
    cases ins <;> first | (exact absurd ho (Nat.ne_of_beq_eq_false rfl)) | skip
    case ineg => subst hlen; exact lv_ineg hx hb hdg K
  | n + 4, hn => exact absurd hn (by omega)

theorem sn_i2l (hI : Snd sb mt dC dI dA sp H0 l ih) (hM : Mok mt M) (htl : ∀ x ∈ tl, x ∈ M.2.2.2.2.2.2) (hX : CX sb dC dI dA sp H0 ρ0 M p R s m args meth c) (hR : ∀ o ∈ outs, RO dC dI dA sp H0 l p e R s m args below meth c Q ρ0 ad0 M o) (hdg : decode M.2.1 pc = .ok (ins, len)) (hlen : len = ax_len ins) (hlk : lok mt M pc ins lk = true) (ho : ax_op ins = 48)
    (hr : ax_one ax_i2l ih M cut (pc + len) tl σ h nc ns lv st = some outs) : GG dC dI dA sp H0 l p e R s m args below meth c Q ρ0 ad0 M.2.2.1 pc σ h nc ns lv st := by
  unfold ax_one at hr
  obtain ⟨a, r, rfl, hr1⟩ := lc_s hr
  obtain ⟨hx, hb, hml, hown, hts, hK, hlocks, hrt, hin, hRoom, hO⟩ := id hX
  intro ρ ad ws H locs ls LV ST q1 q2 q3 q4 q5 q6 q7 q8 q9 q10
  obtain ⟨A, ST2, rfl, hA, q12⟩ := q10.cons
  obtain ⟨x, v, rfl, hr3, r3⟩ := ax_i2l_ok q3 (ax_nv_ok q3 hA) hr1
  have G := hI p e R s m args below meth c Q ρ0 ad0 M cut _ tl _ _ _ _ _ _ outs hM htl hX hr3 hR
  have K := G ρ ad ws H locs ls LV (.long x.toInt64 :: ST2) q1 q2 q3 q4 q5 q6 q7 q8 q9 ⟨r3, q12⟩
  cases ins <;> first | (exact absurd ho (Nat.ne_of_beq_eq_false rfl)) | skip
  case i2l => subst hlen; exact lv_i2l hx hb hdg rfl K

theorem sn_l2i (hI : Snd sb mt dC dI dA sp H0 l ih) (hM : Mok mt M) (htl : ∀ x ∈ tl, x ∈ M.2.2.2.2.2.2) (hX : CX sb dC dI dA sp H0 ρ0 M p R s m args meth c) (hR : ∀ o ∈ outs, RO dC dI dA sp H0 l p e R s m args below meth c Q ρ0 ad0 M o) (hdg : decode M.2.1 pc = .ok (ins, len)) (hlen : len = ax_len ins) (hlk : lok mt M pc ins lk = true) (ho : ax_op ins = 49)
    (hr : ax_one ax_l2i ih M cut (pc + len) tl σ h nc ns lv st = some outs) : GG dC dI dA sp H0 l p e R s m args below meth c Q ρ0 ad0 M.2.2.1 pc σ h nc ns lv st := by
  unfold ax_one at hr
  obtain ⟨a, r, rfl, hr1⟩ := lc_s hr
  obtain ⟨hx, hb, hml, hown, hts, hK, hlocks, hrt, hin, hRoom, hO⟩ := id hX
  intro ρ ad ws H locs ls LV ST q1 q2 q3 q4 q5 q6 q7 q8 q9 q10
  obtain ⟨A, ST2, rfl, hA, q12⟩ := q10.cons
  obtain ⟨x, σ', v, ρ', rfl, hr3, r1, r2, r3⟩ := ax_l2i_ok q3 (ax_nv_ok q3 hA) hr1
  have G := hI p e R s m args below meth c Q ρ0 ad0 M cut _ tl _ _ _ _ _ _ outs hM htl hX hr3 hR
  have K := G ρ' ad ws H locs ls LV (.int x.toInt32 :: ST2) (q1.tr r1) q2 r2 (q4.monoρ r1) q5 q6 q7 (q8.mono r1 (Sb.rf ad)) q9 ⟨r3, q12.mono r1 (Sb.rf ad)⟩
  cases ins <;> first | (exact absurd ho (Nat.ne_of_beq_eq_false rfl)) | skip
  case l2i => subst hlen; exact lv_l2i hx hb hdg rfl K

theorem sn_stk {op : Nat} (hI : Snd sb mt dC dI dA sp H0 l ih) (hM : Mok mt M) (htl : ∀ x ∈ tl, x ∈ M.2.2.2.2.2.2) (hX : CX sb dC dI dA sp H0 ρ0 M p R s m args meth c) (hR : ∀ o ∈ outs, RO dC dI dA sp H0 l p e R s m args below meth c Q ρ0 ad0 M o) (hdg : decode M.2.1 pc = .ok (ins, len)) (hlen : len = ax_len ins) (hlk : lok mt M pc ins lk = true) (ho : ax_op ins = op) (ho2 : op = 50 ∨ op = 51 ∨ op = 52)
    (hr : lc st (fun a r => bif Nat.beq op 50 then gd (!ax_c2 a) (ih M cut (pc + len) tl σ h nc ns lv (a :: a :: r))
    else bif Nat.beq op 51 then (bif ax_c2 a then ih M cut (pc + len) tl σ h nc ns lv (a :: a :: r) else lc r (fun b r' => gd (!ax_c2 b) (ih M cut (pc + len) tl σ h nc ns lv (a :: b :: a :: b :: r'))))
    else gd (!ax_c2 a) (ih M cut (pc + len) tl σ h nc ns lv r)) = some outs) : GG dC dI dA sp H0 l p e R s m args below meth c Q ρ0 ad0 M.2.2.1 pc σ h nc ns lv st := by
  obtain ⟨a, r, rfl, hr1⟩ := lc_s hr
  obtain ⟨hx, hb, hml, hown, hts, hK, hlocks, hrt, hin, hRoom, hO⟩ := id hX
  intro ρ ad ws H locs ls LV ST q1 q2 q3 q4 q5 q6 q7 q8 q9 q10
  obtain ⟨A, ST2, rfl, hA, q12⟩ := q10.cons
  rcases ho2 with rfl | rfl | rfl
  · obtain ⟨g1, hr2⟩ := gd_s (b := !ax_c2 a) hr1
    have hc : ax_c2 a = false := by cases hq : ax_c2 a with | false => rfl | true => rw [hq] at g1; cases g1
    have G := hI p e R s m args below meth c Q ρ0 ad0 M cut _ tl _ _ _ _ _ _ outs hM htl hX hr2 hR
    have K := G ρ ad ws H locs ls LV (A :: A :: ST2) q1 q2 q3 q4 q5 q6 q7 q8 q9 ⟨hA, hA, q12⟩
    cases ins <;> first | (exact absurd ho (Nat.ne_of_beq_eq_false rfl)) | skip
    case dup => subst hlen; exact lv_dup hx hb hdg (hA.cat1 hc) K
  · cases hc : ax_c2 a with
    | true =>
      have hr2 : (bif ax_c2 a then ih M cut (pc + len) tl σ h nc ns lv (a :: a :: r) else lc r (fun b r' => gd (!ax_c2 b) (ih M cut (pc + len) tl σ h nc ns lv (a :: b :: a :: b :: r')))) = some outs := hr1
      rw [hc] at hr2
      have G := hI p e R s m args below meth c Q ρ0 ad0 M cut _ tl _ _ _ _ _ _ outs hM htl hX hr2 hR
      have K := G ρ ad ws H locs ls LV (A :: A :: ST2) q1 q2 q3 q4 q5 q6 q7 q8 q9 ⟨hA, hA, q12⟩
      cases ins <;> first | (exact absurd ho (Nat.ne_of_beq_eq_false rfl)) | skip
      case dup2 => subst hlen; exact lv_dup2_2 hx hb hdg (hA.cat2 hc) K
    | false =>
      have hr2 : (bif ax_c2 a then ih M cut (pc + len) tl σ h nc ns lv (a :: a :: r) else lc r (fun b r' => gd (!ax_c2 b) (ih M cut (pc + len) tl σ h nc ns lv (a :: b :: a :: b :: r')))) = some outs := hr1
      rw [hc] at hr2
      obtain ⟨b, r', rfl, hr3⟩ := lc_s (l := r) hr2
      obtain ⟨g1, hr4⟩ := gd_s hr3
      have hcb : ax_c2 b = false := by cases hq : ax_c2 b with | false => rfl | true => rw [hq] at g1; cases g1
      obtain ⟨B, ST3, rfl, hB, q13⟩ := q12.cons
      have G := hI p e R s m args below meth c Q ρ0 ad0 M cut _ tl _ _ _ _ _ _ outs hM htl hX hr4 hR
      have K := G ρ ad ws H locs ls LV (A :: B :: A :: B :: ST3) q1 q2 q3 q4 q5 q6 q7 q8 q9 ⟨hA, hB, hA, hB, q13⟩
      cases ins <;> first | (exact absurd ho (Nat.ne_of_beq_eq_false rfl)) | skip
      case dup2 => subst hlen; exact lv_dup2_11 hx hb hdg (hA.cat1 hc) (hB.cat1 hcb) K
  · obtain ⟨g1, hr2⟩ := gd_s (b := !ax_c2 a) hr1
    have hc : ax_c2 a = false := by cases hq : ax_c2 a with | false => rfl | true => rw [hq] at g1; cases g1
    have G := hI p e R s m args below meth c Q ρ0 ad0 M cut _ tl _ _ _ _ _ _ outs hM htl hX hr2 hR
    have K := G ρ ad ws H locs ls LV ST2 q1 q2 q3 q4 q5 q6 q7 q8 q9 q12
    cases ins <;> first | (exact absurd ho (Nat.ne_of_beq_eq_false rfl)) | skip
    case pop => subst hlen; exact lv_pop hx hb hdg (hA.cat1 hc) K

end OPS
end
section
/-! 13.bra -/
/-! THE ABSTRACT MACHINE, 10: branches -/

theorem ax_br_lt {sp : Nat → Nat} {ρ ad : List Nat} {σ : AS} (hS : St ρ σ) {a b : AV} {A B : Value} (ha : Rp sp ρ ad a A) (hb : Rp sp ρ ad b B) {gt gf : AS → RS} {outs : List AO} (h : ax_br (ax_lt σ a b) gt gf = some outs) :
    ∃ x y : Int32, A = .int x ∧ B = .int y ∧ (x < y → ∃ σ' o, gt σ' = some o ∧ St ρ σ' ∧ ∀ z ∈ o, z ∈ outs) ∧ (¬ x < y → ∃ σ' o, gf σ' = some o ∧ St ρ σ' ∧ ∀ z ∈ o, z ∈ outs) := by
  unfold ax_br at h
  obtain ⟨⟨T, F⟩, e1, h1⟩ := ob_s h
  obtain ⟨u, v, e2, e3, rfl⟩ := ax_two_s h1
  obtain ⟨x, y, hx, hy, ht, hf⟩ := ax_lt_ok hS ha hb e1
  refine ⟨x, y, hx, hy, fun q => ?_, fun q => ?_⟩
  · obtain ⟨σ', hσ, hst⟩ := ht q
    exact ⟨σ', u, ax_go_s e2 hσ, hst, fun z hz => List.mem_append_left _ hz⟩
  · obtain ⟨σ', hσ, hst⟩ := hf q
    exact ⟨σ', v, ax_go_s e3 hσ, hst, fun z hz => List.mem_append_right _ hz⟩
theorem ax_br_eq {sp : Nat → Nat} {ρ ad : List Nat} {σ : AS} (hS : St ρ σ) {a b : AV} {A B : Value} (ha : Rp sp ρ ad a A) (hb : Rp sp ρ ad b B) {gt gf : AS → RS} {outs : List AO} (h : ax_br (ax_eq σ a b) gt gf = some outs) :
    ∃ x y : Int32, A = .int x ∧ B = .int y ∧ (x = y → ∃ σ' o, gt σ' = some o ∧ St ρ σ' ∧ ∀ z ∈ o, z ∈ outs) ∧ (¬ x = y → ∃ σ' o, gf σ' = some o ∧ St ρ σ' ∧ ∀ z ∈ o, z ∈ outs) := by
  unfold ax_br at h
  obtain ⟨⟨T, F⟩, e1, h1⟩ := ob_s h
  obtain ⟨u, v, e2, e3, rfl⟩ := ax_two_s h1
  obtain ⟨x, y, hx, hy, ht, hf⟩ := ax_eq_ok hS ha hb e1
  refine ⟨x, y, hx, hy, fun q => ?_, fun q => ?_⟩
  · obtain ⟨σ', hσ, hst⟩ := ht q
    exact ⟨σ', u, ax_go_s e2 hσ, hst, fun z hz => List.mem_append_left _ hz⟩
  · obtain ⟨σ', hσ, hst⟩ := hf q
    exact ⟨σ', v, ax_go_s e3 hσ, hst, fun z hz => List.mem_append_right _ hz⟩
/-- the six conditions, as the machine has them -/
def ax_cp (k : Nat) (x y : Int32) : Prop := match k with
  | 0 => x = y
  | 1 => ¬ x = y
  | 2 => x < y
  | 3 => y ≤ x
  | 4 => y < x
  | _ => x ≤ y
theorem ax_cnd_ok {sp : Nat → Nat} {ρ ad : List Nat} {σ : AS} (hS : St ρ σ) {a b : AV} {A B : Value} (ha : Rp sp ρ ad a A) (hb : Rp sp ρ ad b B) {k : Nat} (hk : k < 6) {gt gf : AS → RS} {outs : List AO} (h : ax_cnd k σ a b gt gf = some outs) :
    ∃ x y : Int32, A = .int x ∧ B = .int y ∧ (ax_cp k x y → ∃ σ' o, gt σ' = some o ∧ St ρ σ' ∧ ∀ z ∈ o, z ∈ outs) ∧ (¬ ax_cp k x y → ∃ σ' o, gf σ' = some o ∧ St ρ σ' ∧ ∀ z ∈ o, z ∈ outs) := by
  match k, hk with
  | 0, _ =>
    obtain ⟨x, y, hx, hy, ht, hf⟩ := ax_br_eq hS ha hb (gt := gt) (gf := gf) h
    exact ⟨x, y, hx, hy, ht, hf⟩
  | 1, _ =>
    obtain ⟨x, y, hx, hy, ht, hf⟩ := ax_br_eq hS ha hb (gt := gf) (gf := gt) h
    exact ⟨x, y, hx, hy, hf, fun q => ht (Classical.not_not.mp q)⟩
  | 2, _ =>
    obtain ⟨x, y, hx, hy, ht, hf⟩ := ax_br_lt hS ha hb (gt := gt) (gf := gf) h
    exact ⟨x, y, hx, hy, ht, hf⟩
  | 3, _ =>
    obtain ⟨x, y, hx, hy, ht, hf⟩ := ax_br_lt hS ha hb (gt := gf) (gf := gt) h
    exact ⟨x, y, hx, hy, fun q => hf (Int32.not_lt.mpr q), fun q => ht (Int32.not_le.mp q)⟩
  | 4, _ =>
    obtain ⟨y, x, hy, hx, ht, hf⟩ := ax_br_lt hS hb ha (gt := gt) (gf := gf) h
    exact ⟨x, y, hx, hy, ht, hf⟩
  | 5, _ =>
    obtain ⟨y, x, hy, hx, ht, hf⟩ := ax_br_lt hS hb ha (gt := gf) (gf := gt) h
    exact ⟨x, y, hx, hy, fun q => hf (Int32.not_lt.mpr q), fun q => ht (Int32.not_le.mp q)⟩
  | n + 6, hn => exact absurd hn (by omega)

section OPS
variable {sb : Nat → List Nat} {mt : Nat → Nat → Option MR} {dC : Nat → ClassId} {dI : Nat → Nat → Nat} {dA : Nat → ClassId} {sp : Nat → Nat} {H0 : Heap} {l : Launch}
variable {ih : GO} {p : Program} {e : Env} {R : Room} {s : State} {m : MethodId} {args : Array Value} {below : List Frame} {meth : Method} {c : Code} {Q : State → Prop} {ρ0 ad0 : List Nat} {M : MR} {cut pc len : Nat} {ins : Instr} {lk : List Nat} {cd tl : List ME} {σ : AS} {h : AH} {nc ns : Nat} {lv : AL} {st : List AV} {outs : List AO}

theorem sn_icmp (hI : Snd sb mt dC dI dA sp H0 l ih) (hM : Mok mt M) (htl : ∀ x ∈ tl, x ∈ M.2.2.2.2.2.2) (hX : CX sb dC dI dA sp H0 ρ0 M p R s m args meth c) (hR : ∀ o ∈ outs, RO dC dI dA sp H0 l p e R s m args below meth c Q ρ0 ad0 M o) (hdg : decode M.2.1 pc = .ok (ins, len)) (hlen : len = ax_len ins) (hlk : lok mt M pc ins lk = true) (ho : ax_op ins = 18)
    (hr : lc lk (fun t lk => lc lk (fun k _ => lc st (fun b st => lc st (fun a r => ax_cnd k σ a b (fun σ' => ih M cut t (ax_jmp M.2.2.2.2.2.2 t) σ' h nc ns lv r) (fun σ' => ih M cut (pc + len) tl σ' h nc ns lv r))))) = some outs) : GG dC dI dA sp H0 l p e R s m args below meth c Q ρ0 ad0 M.2.2.1 pc σ h nc ns lv st := by
  obtain ⟨t, lk1, rfl, hr1⟩ := lc_s hr
  obtain ⟨k, lk2, rfl, hr2⟩ := lc_s hr1
  obtain ⟨b, st1, rfl, hr3⟩ := lc_s hr2
  obtain ⟨a, r, rfl, hr4⟩ := lc_s hr3
  obtain ⟨hx, hb, hml, hown, hts, hK, hlocks, hrt, hin, hRoom, hO⟩ := id hX
  intro ρ ad ws H locs ls LV ST q1 q2 q3 q4 q5 q6 q7 q8 q9 q10
  obtain ⟨B, ST1, rfl, hB, q11⟩ := q10.cons
  obtain ⟨A, ST2, rfl, hA, q12⟩ := q11.cons
  cases ins <;> first | (exact absurd ho (Nat.ne_of_beq_eq_false rfl)) | skip
  case if_icmp cc off =>
    subst hlen
    have w := bb_and (a := decide ((pc : Int) + off = (t : Int))) hlk
    have ht : (pc : Int) + off = (t : Int) := of_decide_eq_true w.1
    have hk : k = ax_cc cc := bb_eq w.2
    obtain ⟨x, y, rfl, rfl, kt, kf⟩ := ax_cnd_ok q3 hA hB (by rw [hk]; cases cc <;> decide) hr4
    have KT : ax_cp k x y → W p l e R s m args below meth c H locs nc ns Q (F0 m t ls ST2) := fun z => by
      obtain ⟨σ', o, e1, e2, e3⟩ := kt z
      exact (hI p e R s m args below meth c Q ρ0 ad0 M cut _ _ _ _ _ _ _ _ o hM (ax_jmp_in _ _) hX e1 (fun z hz => hR z (e3 z hz))) ρ ad ws H locs ls LV ST2 q1 q2 e2 q4 q5 q6 q7 q8 q9 q12
    have KF : ¬ ax_cp k x y → W p l e R s m args below meth c H locs nc ns Q (F0 m (pc + 3) ls ST2) := fun z => by
      obtain ⟨σ', o, e1, e2, e3⟩ := kf z
      exact (hI p e R s m args below meth c Q ρ0 ad0 M cut _ tl _ _ _ _ _ _ o hM htl hX e1 (fun z hz => hR z (e3 z hz))) ρ ad ws H locs ls LV ST2 q1 q2 e2 q4 q5 q6 q7 q8 q9 q12
    subst hk
    cases cc
    · exact lv_icmp_eq hx hb hdg ht KT KF
    · exact lv_icmp_ne hx hb hdg ht KT (fun q => KF (fun z => z q))
    · exact lv_icmp_lt hx hb hdg ht KT KF
    · exact lv_icmp_ge hx hb hdg ht KT KF
    · exact lv_icmp_gt hx hb hdg ht KT KF
    · exact lv_icmp_le hx hb hdg ht KT KF

theorem sn_ifc (hI : Snd sb mt dC dI dA sp H0 l ih) (hM : Mok mt M) (htl : ∀ x ∈ tl, x ∈ M.2.2.2.2.2.2) (hX : CX sb dC dI dA sp H0 ρ0 M p R s m args meth c) (hR : ∀ o ∈ outs, RO dC dI dA sp H0 l p e R s m args below meth c Q ρ0 ad0 M o) (hdg : decode M.2.1 pc = .ok (ins, len)) (hlen : len = ax_len ins) (hlk : lok mt M pc ins lk = true) (ho : ax_op ins = 19)
    (hr : lc lk (fun t lk => lc lk (fun k _ => lc st (fun a r => ax_cnd k σ a (0, 0) (fun σ' => ih M cut t (ax_jmp M.2.2.2.2.2.2 t) σ' h nc ns lv r) (fun σ' => ih M cut (pc + len) tl σ' h nc ns lv r)))) = some outs) : GG dC dI dA sp H0 l p e R s m args below meth c Q ρ0 ad0 M.2.2.1 pc σ h nc ns lv st := by
  obtain ⟨t, lk1, rfl, hr1⟩ := lc_s hr
  obtain ⟨k, lk2, rfl, hr2⟩ := lc_s hr1
  obtain ⟨a, r, rfl, hr4⟩ := lc_s hr2
  obtain ⟨hx, hb, hml, hown, hts, hK, hlocks, hrt, hin, hRoom, hO⟩ := id hX
  intro ρ ad ws H locs ls LV ST q1 q2 q3 q4 q5 q6 q7 q8 q9 q10
  obtain ⟨A, ST2, rfl, hA, q12⟩ := q10.cons
  cases ins <;> first | (exact absurd ho (Nat.ne_of_beq_eq_false rfl)) | skip
  case ifCond cc off =>
    subst hlen
    have w := bb_and (a := decide ((pc : Int) + off = (t : Int))) hlk
    have ht : (pc : Int) + off = (t : Int) := of_decide_eq_true w.1
    have hk : k = ax_cc cc := bb_eq w.2
    obtain ⟨x, y, rfl, hy, kt, kf⟩ := ax_cnd_ok q3 hA (B := .int (nI 0)) (b := (0, 0)) rfl (by rw [hk]; cases cc <;> decide) hr4
    have hy : nI 0 = y := by cases hy; rfl
    rw [nI_0] at hy
    subst hy
    have KT : ax_cp k x 0 → W p l e R s m args below meth c H locs nc ns Q (F0 m t ls ST2) := fun z => by
      obtain ⟨σ', o, e1, e2, e3⟩ := kt z
      exact (hI p e R s m args below meth c Q ρ0 ad0 M cut _ _ _ _ _ _ _ _ o hM (ax_jmp_in _ _) hX e1 (fun z hz => hR z (e3 z hz))) ρ ad ws H locs ls LV ST2 q1 q2 e2 q4 q5 q6 q7 q8 q9 q12
    have KF : ¬ ax_cp k x 0 → W p l e R s m args below meth c H locs nc ns Q (F0 m (pc + 3) ls ST2) := fun z => by
      obtain ⟨σ', o, e1, e2, e3⟩ := kf z
      exact (hI p e R s m args below meth c Q ρ0 ad0 M cut _ tl _ _ _ _ _ _ o hM htl hX e1 (fun z hz => hR z (e3 z hz))) ρ ad ws H locs ls LV ST2 q1 q2 e2 q4 q5 q6 q7 q8 q9 q12
    subst hk
    cases cc
    · exact lv_if_eq hx hb hdg ht KT KF
    · exact lv_if_ne hx hb hdg ht KT (fun q => KF (fun z => z q))
    · exact lv_if_lt hx hb hdg ht KT KF
    · exact lv_if_ge hx hb hdg ht KT KF
    · exact lv_if_gt hx hb hdg ht KT KF
    · exact lv_if_le hx hb hdg ht KT KF

theorem sn_goto (hI : Snd sb mt dC dI dA sp H0 l ih) (hM : Mok mt M) (htl : ∀ x ∈ tl, x ∈ M.2.2.2.2.2.2) (hX : CX sb dC dI dA sp H0 ρ0 M p R s m args meth c) (hR : ∀ o ∈ outs, RO dC dI dA sp H0 l p e R s m args below meth c Q ρ0 ad0 M o) (hdg : decode M.2.1 pc = .ok (ins, len)) (hlen : len = ax_len ins) (hlk : lok mt M pc ins lk = true) (ho : ax_op ins = 20)
    (hr : lc lk (fun t _ => ih M cut t (ax_jmp M.2.2.2.2.2.2 t) σ h nc ns lv st) = some outs) : GG dC dI dA sp H0 l p e R s m args below meth c Q ρ0 ad0 M.2.2.1 pc σ h nc ns lv st := by
  obtain ⟨t, lk1, rfl, hr1⟩ := lc_s hr
  obtain ⟨hx, hb, hml, hown, hts, hK, hlocks, hrt, hin, hRoom, hO⟩ := id hX
  intro ρ ad ws H locs ls LV ST q1 q2 q3 q4 q5 q6 q7 q8 q9 q10
  cases ins <;> first | (exact absurd ho (Nat.ne_of_beq_eq_false rfl)) | skip
  case goto off =>
    subst hlen
    have ht : (pc : Int) + off = (t : Int) := of_decide_eq_true hlk
    exact lv_goto hx hb hdg ht ((hI p e R s m args below meth c Q ρ0 ad0 M cut _ _ _ _ _ _ _ _ outs hM (ax_jmp_in _ _) hX hr1 hR) ρ ad ws H locs ls LV ST q1 q2 q3 q4 q5 q6 q7 q8 q9 q10)

theorem lcmp_z (x y : Int64) : lg_cmp x y = if zL x < zL y then nI 4294967295 else if zL y < zL x then nI 1 else nI 0 := by
  have h1 := zL_cast x
  have h2 := zL_cast y
  have e1 : nI 4294967295 = -1 := by decide +kernel
  have e2 : nI 1 = 1 := by decide +kernel
  have e3 : nI 0 = 0 := by decide +kernel
  unfold lg_cmp
  rw [e1, e2, e3]
  by_cases c1 : zL x < zL y
  · rw [if_pos c1]
    have h4 : ¬ y < x := by rw [Int64.lt_iff_toInt_lt]; omega
    have h5 : ¬ x = y := fun q => by rw [q] at c1; omega
    simp [h4, h5]
  · rw [if_neg c1]
    by_cases c2 : zL y < zL x
    · rw [if_pos c2]
      have h3 : y < x := by rw [Int64.lt_iff_toInt_lt]; omega
      have h4 : ¬ x < y := by rw [Int64.lt_iff_toInt_lt]; omega
      have h5 : ¬ x = y := fun q => by rw [q] at c2; omega
      simp [h3, h4, h5]
    · rw [if_neg c2]
      have h5 : x = y := Int64.toInt_inj.mp (by omega)
      subst h5
      simp

theorem sn_lcmp (hI : Snd sb mt dC dI dA sp H0 l ih) (hM : Mok mt M) (htl : ∀ x ∈ tl, x ∈ M.2.2.2.2.2.2) (hX : CX sb dC dI dA sp H0 ρ0 M p R s m args meth c) (hR : ∀ o ∈ outs, RO dC dI dA sp H0 l p e R s m args below meth c Q ρ0 ad0 M o) (hdg : decode M.2.1 pc = .ok (ins, len)) (hlen : len = ax_len ins) (hlk : lok mt M pc ins lk = true) (hcd : ∀ x ∈ cd, x ∈ M.2.2.2.2.2.2) (ho : ax_op ins = 43)
    (hr : lc st (fun b st' => lc st' (fun a r => ob (ax_rL σ a) (fun ra => ob (ax_rL σ b) (fun rb => ax_lcm ra rb (fun n => ih M cut (pc + len) tl σ h nc ns lv ((0, n) :: r)) (ax_spc σ a ra rb (fun σ' => ih M cut pc cd σ' h nc ns lv st)))))) = some outs) : GG dC dI dA sp H0 l p e R s m args below meth c Q ρ0 ad0 M.2.2.1 pc σ h nc ns lv st := by
  obtain ⟨b, st1, e1, hr1⟩ := lc_s hr
  obtain ⟨a, r, e2, hr2⟩ := lc_s hr1
  obtain ⟨ra, ea, hr3⟩ := ob_s hr2
  obtain ⟨rb, eb, hr4⟩ := ob_s hr3
  obtain ⟨hx, hb, hml, hown, hts, hK, hlocks, hrt, hin, hRoom, hO⟩ := id hX
  intro ρ ad ws H locs ls LV ST q1 q2 q3 q4 q5 q6 q7 q8 q9 q10
  have q10' := q10
  rw [e1, e2] at q10'
  obtain ⟨B, ST1, hST1, hB, q11⟩ := q10'.cons
  obtain ⟨A, ST2, hST2, hA, q12⟩ := q11.cons
  obtain ⟨x, rfl, x1, x2, x3⟩ := ax_rL_ok q3 hA ea
  obtain ⟨y, rfl, y1, y2, y3⟩ := ax_rL_ok q3 hB eb
  have hins : ins = .lcmp := by cases ins <;> first | (exact absurd ho (Nat.ne_of_beq_eq_false rfl)) | rfl
  subst hins
  have hlen : len = 1 := hlen
  subst hlen
  have KD : ∀ n, lg_cmp x y = nI n → ih M cut (pc + 1) tl σ h nc ns lv ((0, n) :: r) = some outs → W p l e R s m args below meth c H locs nc ns Q (F0 m pc ls ST) := fun n hn hq => by
    rw [hST1, hST2]
    refine W.lcmp hx hb hdg ?_
    exact (hI p e R s m args below meth c Q ρ0 ad0 M cut _ tl _ _ _ _ _ _ outs hM htl hX hq hR) ρ ad ws H locs ls LV (.int (lg_cmp x y) :: ST2) q1 q2 q3 q4 q5 q6 q7 q8 q9 ⟨by rw [hn]; rfl, q12⟩
  have KS : ∀ (σ' : AS) (o : List AO), ih M cut pc cd σ' h nc ns lv st = some o → St ρ σ' → (∀ z ∈ o, z ∈ outs) → W p l e R s m args below meth c H locs nc ns Q (F0 m pc ls ST) := fun σ' o hq hs hz =>
    (hI p e R s m args below meth c Q ρ0 ad0 M cut _ cd _ _ _ _ _ _ o hM hcd hX hq (fun z h => hR z (hz z h))) ρ ad ws H locs ls LV ST q1 q2 hs q4 q5 q6 q7 q8 q9 q10
  have hz := lcmp_z x y
  unfold ax_lcm at hr4
  cases c1 : Nat.blt ra.2 rb.1 with
  | true =>
    rw [c1] at hr4
    have := bb_lt c1
    exact KD _ (by rw [hz, if_pos (by omega)]) hr4
  | false =>
    rw [c1] at hr4
    cases c2 : Nat.blt rb.2 ra.1 with
    | true =>
      rw [c2] at hr4
      have := bb_lt c2
      exact KD _ (by rw [hz, if_neg (by omega), if_pos (by omega)]) hr4
    | false =>
      rw [c2] at hr4
      cases c3 : (Nat.beq ra.1 ra.2 && (Nat.beq rb.1 rb.2 && Nat.beq ra.1 rb.1)) with
      | true =>
        rw [c3] at hr4
        have w := bb_and c3
        have w2 := bb_and w.2
        have := bb_eq w.1
        have := bb_eq w2.1
        have := bb_eq w2.2
        exact KD _ (by rw [hz, if_neg (by omega), if_neg (by omega)]) hr4
      | false =>
        rw [c3] at hr4
        have hr5 : ax_spc σ a ra rb (fun σ' => ih M cut pc cd σ' h nc ns lv st) = some outs := hr4
        unfold ax_spc at hr5
        obtain ⟨g1, hr6⟩ := gd_s hr5
        obtain ⟨o1, o2, u1, u2, rfl⟩ := ax_two_s hr6
        obtain ⟨o3, o4, u3, u4, rfl⟩ := ax_two_s u2
        have w := bb_and g1
        have w1 := x3 (bb_eq w.1)
        have w2 := bb_eq w.2
        by_cases d1 : zL x < rb.1
        · rw [show Nat.blt ra.1 rb.1 = true from Nat.ble_eq_true_of_le (by omega)] at u1
          have u1 : ax_set σ a.2 (ra.1, min ra.2 (rb.1 - 1)) (fun σ' => ih M cut pc cd σ' h nc ns lv st) = some o1 := u1
          rw [ax_set_eq] at u1
          exact KS _ o1 u1 (q3.cut (fun z hz => by rw [w1] at hz; cases hz; exact ⟨by omega, by omega⟩)) (fun z hz => List.mem_append_left _ hz)
        · by_cases d2 : zL x = rb.1
          · rw [show (Nat.ble ra.1 rb.1 && Nat.ble rb.1 ra.2) = true by rw [Bool.and_eq_true]; exact ⟨Nat.ble_eq_true_of_le (by omega), Nat.ble_eq_true_of_le (by omega)⟩] at u3
            have u3 : ax_set σ a.2 (rb.1, rb.1) (fun σ' => ih M cut pc cd σ' h nc ns lv st) = some o3 := u3
            rw [ax_set_eq] at u3
            exact KS _ o3 u3 (q3.cut (fun z hz => by rw [w1] at hz; cases hz; exact ⟨by omega, by omega⟩)) (fun z hz => List.mem_append_right _ (List.mem_append_left _ hz))
          · rw [show Nat.blt rb.1 ra.2 = true from Nat.ble_eq_true_of_le (by omega)] at u4
            have u4 : ax_set σ a.2 (max ra.1 (rb.1 + 1), ra.2) (fun σ' => ih M cut pc cd σ' h nc ns lv st) = some o4 := u4
            rw [ax_set_eq] at u4
            exact KS _ o4 u4 (q3.cut (fun z hz => by rw [w1] at hz; cases hz; exact ⟨by omega, by omega⟩)) (fun z hz => List.mem_append_right _ (List.mem_append_right _ hz))

theorem sn_ret (hI : Snd sb mt dC dI dA sp H0 l ih) (hM : Mok mt M) (htl : ∀ x ∈ tl, x ∈ M.2.2.2.2.2.2) (hX : CX sb dC dI dA sp H0 ρ0 M p R s m args meth c) (hR : ∀ o ∈ outs, RO dC dI dA sp H0 l p e R s m args below meth c Q ρ0 ad0 M o) (hdg : decode M.2.1 pc = .ok (ins, len)) (hlen : len = ax_len ins) (hlk : lok mt M pc ins lk = true) {op : Nat} (ho : ax_op ins = op) (ho2 : 22 ≤ op) (ho3 : op ≤ 25)
    (hr : gd (ax_rok M.2.2.2.1 op st && (Nat.ble nc M.2.2.2.2.1.cells && Nat.ble ns M.2.2.2.2.1.slots)) (some [(σ, h, nc, ns, pc, op, lv, st)]) = some outs) : GG dC dI dA sp H0 l p e R s m args below meth c Q ρ0 ad0 M.2.2.1 pc σ h nc ns lv st := by
  obtain ⟨g1, hr1⟩ := gd_s hr
  cases hr1
  have hl1 : len = 1 := by
    rw [hlen]
    cases ins <;> first | rfl | (exfalso; have h9 : ax_op _ = op := ho; simp only [ax_op] at h9; omega)
  have g2 := bb_and g1
  have g3 := bb_and g2.2
  exact hR _ List.mem_cons_self (Or.inr ⟨ins, ho, by rw [hdg, hl1], g2.1, bb_le g3.1, bb_le g3.2⟩)

end OPS
end
