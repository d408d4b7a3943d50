/-! TEXTS: bytes, tokens -/
abbrev TX : Type := (Nat → Int) × Nat
def TK (T : TX) : Prop := T.2 ≤ 900 ∧ ∀ k, 0 ≤ T.1 k ∧ T.1 k ≤ 255
abbrev ltr (c : Int) : Prop := 97 ≤ c ∧ c ≤ 122
abbrev dgt (c : Int) : Prop := 48 ≤ c ∧ c ≤ 57
abbrev blk (c : Int) : Prop := c = 10 ∨ c = 32
abbrev sgn (c : Int) : Prop := c = 59 ∨ c = 60 ∨ c = 62 ∨ c = 61
/-- what goes on from i while p holds ends at j -/
def Run (p : Int → Prop) (T : TX) (i j : Nat) : Prop := i ≤ j ∧ j ≤ T.2 ∧ (∀ k, i ≤ k → k < j → p (T.1 k)) ∧ (j < T.2 → ¬ p (T.1 j))
theorem Run.un {p : Int → Prop} {T : TX} {i j j' : Nat} (a : Run p T i j) (b : Run p T i j') : j = j' := by
  rcases Nat.lt_trichotomy j j' with q | q | q
  · exact absurd (b.2.2.1 j a.1 q) (a.2.2.2 (by have := b.2.1; omega))
  · exact q
  · exact absurd (a.2.2.1 j' b.1 q) (b.2.2.2 (by have := a.2.1; omega))
theorem Run.ex (p : Int → Prop) (T : TX) : ∀ (f i : Nat), T.2 - i ≤ f → i ≤ T.2 → ∃ j, Run p T i j
  | 0, i, hf, hi => ⟨i, Nat.le_refl _, hi, fun k a b => by omega, fun q => by omega⟩
  | f + 1, i, hf, hi => by
    by_cases h : i < T.2 ∧ p (T.1 i)
    · obtain ⟨j, a, b, c, d⟩ := Run.ex p T f (i + 1) (by omega) (by omega)
      refine ⟨j, by omega, b, fun k h1 h2 => ?_, d⟩
      by_cases e : k = i
      · rw [e]; exact h.2
      · exact c k (by omega) h2
    · exact ⟨i, Nat.le_refl _, hi, fun k a b => by omega, fun q z => h ⟨q, z⟩⟩
noncomputable def run (p : Int → Prop) (T : TX) (i : Nat) : Nat := Classical.epsilon (Run p T i)
theorem run_ok (p : Int → Prop) {T : TX} {i : Nat} (hi : i ≤ T.2) : Run p T i (run p T i) := Classical.epsilon_spec (Run.ex p T _ i (Nat.le_refl _) hi)
theorem run_eq {p : Int → Prop} {T : TX} {i j : Nat} (h : Run p T i j) : run p T i = j := Run.un (Classical.epsilon_spec ⟨j, h⟩) h
/-- the place behind a token, its kind; the next token -/
noncomputable def nx (T : TX) (s : Nat) : Nat := if T.2 ≤ s then s else if ltr (T.1 s) then run ltr T s else if dgt (T.1 s) then run dgt T s else s + 1
noncomputable def kd (T : TX) (s : Nat) : Int := if T.2 ≤ s then 0 else if ltr (T.1 s) then 2 else if dgt (T.1 s) then (if 4 < nx T s - s then 1 else 3) else if sgn (T.1 s) then 4 else 1
noncomputable def sk (T : TX) (i : Nat) : Nat := run blk T i
noncomputable def nt (T : TX) (s : Nat) : Nat := sk T (nx T s)
theorem nx_b {T : TX} {s : Nat} (hs : s ≤ T.2) : s ≤ nx T s ∧ nx T s ≤ T.2 ∧ (kd T s ≠ 0 → s < nx T s) := by
  unfold nx kd
  by_cases h : T.2 ≤ s
  · rw [if_pos h, if_pos h]
    exact ⟨Nat.le_refl _, hs, fun z => absurd rfl z⟩
  · rw [if_neg h]
    have M : ∀ p : Int → Prop, p (T.1 s) → s < run p T s ∧ run p T s ≤ T.2 := fun p hp => by
      obtain ⟨a, b, c, d⟩ := run_ok p hs
      refine ⟨?_, b⟩
      rcases Nat.lt_or_ge s (run p T s) with q | q
      · exact q
      · have e : run p T s = s := by omega
        rw [e] at d
        exact absurd hp (d (by omega))
    by_cases h1 : ltr (T.1 s)
    · rw [if_pos h1]
      have := M ltr h1
      exact ⟨by omega, this.2, fun _ => this.1⟩
    · rw [if_neg h1]
      by_cases h2 : dgt (T.1 s)
      · rw [if_pos h2]
        have := M dgt h2
        exact ⟨by omega, this.2, fun _ => this.1⟩
      · rw [if_neg h2]
        exact ⟨by omega, by omega, fun _ => by omega⟩
theorem sk_b {T : TX} {i : Nat} (hi : i ≤ T.2) : i ≤ sk T i ∧ sk T i ≤ T.2 := ⟨(run_ok blk hi).1, (run_ok blk hi).2.1⟩
theorem nt_b {T : TX} {s : Nat} (hs : s ≤ T.2) : s ≤ nt T s ∧ nt T s ≤ T.2 ∧ (kd T s ≠ 0 → s < nt T s) := by
  have a := nx_b hs
  have b := sk_b a.2.1
  unfold nt
  exact ⟨by omega, b.2, fun q => by have := a.2.2 q; omega⟩
/-- a word's number, five bits a letter; eight bits a letter; a NUMBER's value -/
def c5 (T : TX) (i : Nat) : Nat → Int
  | 0 => 0
  | m + 1 => w64 (w64 (w64 (w64 (c5 T i m * 32) + T.1 (i + m)) - 97) + 1)
def c8 (T : TX) (i : Nat) : Nat → Int
  | 0 => 0
  | m + 1 => zlor (zlshl (c8 T i m) 8) (T.1 (i + m))
def nv (T : TX) (i : Nat) : Nat → Int
  | 0 => 0
  | m + 1 => w32 (w32 (w32 (nv T i m * 10) + T.1 (i + m)) - 48)
noncomputable def wc (T : TX) (s : Nat) : Int := if nx T s - s ≤ 8 then c5 T s (nx T s - s) else 0
noncomputable def vl (T : TX) (s : Nat) : Int := if dgt (T.1 s) then nv T s (nx T s - s) else T.1 s
def kwt : List Int := [8902245, 624020, 146930, 542723566, 302, 136228, 136230, 11703827, 515251, 267570, 14982420, 4389, 6964881093, 20681904, 6801637, 655, 1497, 762030, 403783346, 595572, 52, 409072, 5572, 643568]
/-- a keyword's number -/
def kwl (x : Int) : Nat → Int
  | 0 => -1
  | k + 1 => if kwt.getD k 0 = x then (k : Int) else kwl x k
noncomputable def kw (T : TX) (s : Nat) : Int := kwl (wc T s) 24
/-- a token as the class has it -/
def CXt (T : TX) (h : PH) : Prop := TK T ∧ h 2 3 = (T.2 : Int) ∧ (∀ k : Nat, k < T.2 → h 3 k = T.1 k) ∧ ∀ k : Nat, k < 24 → h 4 k = kwt.getD k 0
def CTk (T : TX) (h : PH) (s : Nat) : Prop := CXt T h ∧ s ≤ T.2 ∧ h 2 4 = (nx T s : Int) ∧ h 2 5 = kd T s ∧ h 2 6 = (s : Int) ∧ (kd T s = 2 → h 2 7 = wc T s ∧ h 2 8 = kw T s) ∧ (kd T s = 3 ∨ kd T s = 4 → h 2 9 = vl T s)
theorem CXt.kp {T : TX} {h h' : PH} (hX : CXt T h) (hF : ∀ c k : Nat, (c = 2 ∧ k = 3) ∨ c = 3 ∨ c = 4 → h' c k = h c k) : CXt T h' := by
  obtain ⟨a, b, c, d⟩ := hX
  exact ⟨a, by rw [hF 2 3 (by omega), b], fun k hk => by rw [hF 3 k (by omega), c k hk], fun k hk => by rw [hF 4 k (by omega), d k hk]⟩
theorem CTk.kp {T : TX} {h h' : PH} {s : Nat} (hX : CTk T h s) (hF : ∀ c k : Nat, (c = 2 ∧ 3 ≤ k ∧ k ≤ 9) ∨ c = 3 ∨ c = 4 → h' c k = h c k) : CTk T h' s := by
  obtain ⟨a, b, c, d, e, f, g⟩ := hX
  exact ⟨a.kp (fun c k q => hF c k (by omega)), b, by rw [hF 2 4 (by omega), c], by rw [hF 2 5 (by omega), d], by rw [hF 2 6 (by omega), e], fun q => by rw [hF 2 7 (by omega), hF 2 8 (by omega)]; exact f q, fun q => by rw [hF 2 9 (by omega)]; exact g q⟩
