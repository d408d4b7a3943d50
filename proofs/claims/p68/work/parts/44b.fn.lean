/-! FUNCTIONS, 1: words -/
noncomputable abbrev zz (sl : Nat) (si : Nat → Int) (fm : ZV) : ZP := (sbs, sl, si, shq, fm)
theorem w32_id {z : Int} (h1 : -2147483648 ≤ z) (h2 : z ≤ 2147483647) : w32 z = z := o32R ⟨h1, h2⟩
theorem w64_id {z : Int} (h1 : -9223372036854775808 ≤ z) (h2 : z ≤ 9223372036854775807) : w64 z = z := o64R ⟨h1, h2⟩
theorem wv {z y : Int} (h1 : -2147483648 ≤ z) (h2 : z ≤ 2147483647) (h3 : z = y) : (some ((0, w32 z) : ZV)) = some (0, y) := by rw [w32_id h1 h2, h3]
/-- a row of one number -/
def fih (h : PH) (c n : Nat) (v : Int) : PH := fun c' k => if c' = c ∧ k < n then v else h c' k
theorem fih_0 {h : PH} {c : Nat} {v : Int} : fih h c 0 v = h := funext (fun c' => funext (fun k => if_neg (by omega)))
theorem fih_s {h : PH} {c n : Nat} {v : Int} : uph (fih h c n v) c n v = fih h c (n + 1) v := funext (fun c' => funext (fun k => by
  unfold uph fih
  by_cases e : c' = c
  · by_cases e2 : k = n
    · rw [if_pos ⟨e, e2⟩, if_pos ⟨e, by omega⟩]
    · rw [if_neg (fun q => e2 q.2)]
      by_cases e3 : k < n
      · rw [if_pos ⟨e, e3⟩, if_pos ⟨e, by omega⟩]
      · rw [if_neg (fun q => e3 q.2), if_neg (fun q => by omega)]
  · rw [if_neg (fun q => e q.1), if_neg (fun q => e q.1), if_neg (fun q => e q.1)]))
theorem zcmp_0 {a b : Int} : zcmp a b = 0 ↔ a = b := by
  unfold zcmp
  constructor
  · intro h
    split at h
    · omega
    · split at h
      · omega
      · omega
  · intro h
    rw [if_neg (by omega), if_neg (by omega)]
/-- pieces of rows of which nothing is written -/
noncomputable def wfr (F : List (Nat × Int × Int)) (W : List WE) : Bool := alls (fun f => alls (fun w => !(Nat.beq w.1 f.1) || (i_le (w.2.2 + 1) f.2.1 || i_le (f.2.2 + 1) w.2.1)) W) F
theorem wfr_ok {F : List (Nat × Int × Int)} {W : List WE} (h : wfr F W = true) {f : Nat × Int × Int} (hf : f ∈ F) {k : Nat} (h1 : f.2.1 ≤ (k : Int)) (h2 : (k : Int) ≤ f.2.2) : Wout W f.1 k := fun w hw q => by
  have z := alls_ok (alls_ok h f hf) w hw
  rcases (Bool.or_eq_true _ _).mp z with z | z
  · exact znq z q.1
  · rcases (Bool.or_eq_true _ _).mp z with z | z
    · have := i_le_ok z
      omega
    · have := i_le_ok z
      omega
/-- the same in these pieces -/
def Frm (F : List (Nat × Int × Int)) (h h' : PH) : Prop := ∀ f ∈ F, ∀ k : Nat, f.2.1 ≤ (k : Int) → (k : Int) ≤ f.2.2 → h' f.1 k = h f.1 k
theorem up_sm {h : PH} {c k : Nat} {v : Int} : uph h c k v c k = v := if_pos ⟨rfl, rfl⟩
theorem up_ne {h : PH} {c k c' k' : Nat} {v : Int} (hn : ¬ (c' = c ∧ k' = k)) : uph h c k v c' k' = h c' k' := if_neg hn
theorem up_rd {h : PH} {c k c' k' : Nat} {v : Int} : uph h c k v c' k' = if c' = c ∧ k' = k then v else h c' k' := rfl
