section
/-! 45z.50.txt -/
/-! TEXTS: bytes, tokens -/
abbrev TX : Type := (Nat → Int) × Nat
def TK (T : TX) : Prop := T.2 ≤ 900 ∧ ∀ k, 0 ≤ T.1 k ∧ T.1 k ≤ 255
abbrev ltr (c : Int) : Prop := 97 ≤ c ∧ c ≤ 122
abbrev dgt (c : Int) : Prop := 48 ≤ c ∧ c ≤ 57
abbrev blk (c : Int) : Prop := c = 10 ∨ c = 32
abbrev sgn (c : Int) : Prop := c = 59 ∨ c = 60 ∨ c = 62 ∨ c = 61
/-- what goes on from i while p holds ends at j -/
def Run (p : Int → Prop) (T : TX) (i j : Nat) : Prop := i ≤ j ∧ j ≤ T.2 ∧ (∀ k, i ≤ k → k < j → p (T.1 k)) ∧ (j < T.2 → ¬ p (T.1 j))
theorem Run.un {p : Int → Prop} {T : TX} {i j j' : Nat} (a : Run p T i j) (b : Run p T i j') : j = j' := by
  rcases Nat.lt_trichotomy j j' with q | q | q
  · exact absurd (b.2.2.1 j a.1 q) (a.2.2.2 (by have := b.2.1; omega))
  · exact q
  · exact absurd (a.2.2.1 j' b.1 q) (b.2.2.2 (by have := a.2.1; omega))
theorem Run.ex (p : Int → Prop) (T : TX) : ∀ (f i : Nat), T.2 - i ≤ f → i ≤ T.2 → ∃ j, Run p T i j
  | 0, i, hf, hi => ⟨i, Nat.le_refl _, hi, fun k a b => by omega, fun q => by omega⟩
  | f + 1, i, hf, hi => by
    by_cases h : i < T.2 ∧ p (T.1 i)
    · obtain ⟨j, a, b, c, d⟩ := Run.ex p T f (i + 1) (by omega) (by omega)
      refine ⟨j, by omega, b, fun k h1 h2 => ?_, d⟩
      by_cases e : k = i
      · rw [e]; exact h.2
      · exact c k (by omega) h2
    · exact ⟨i, Nat.le_refl _, hi, fun k a b => by omega, fun q z => h ⟨q, z⟩⟩
noncomputable def run (p : Int → Prop) (T : TX) (i : Nat) : Nat := Classical.epsilon (Run p T i)
theorem run_ok (p : Int → Prop) {T : TX} {i : Nat} (hi : i ≤ T.2) : Run p T i (run p T i) := Classical.epsilon_spec (Run.ex p T _ i (Nat.le_refl _) hi)
theorem run_eq {p : Int → Prop} {T : TX} {i j : Nat} (h : Run p T i j) : run p T i = j := Run.un (Classical.epsilon_spec ⟨j, h⟩) h
/-- the place behind a token, its kind; the next token -/
noncomputable def nx (T : TX) (s : Nat) : Nat := if T.2 ≤ s then s else if ltr (T.1 s) then run ltr T s else if dgt (T.1 s) then run dgt T s else s + 1
noncomputable def kd (T : TX) (s : Nat) : Int := if T.2 ≤ s then 0 else if ltr (T.1 s) then 2 else if dgt (T.1 s) then (if 4 < nx T s - s then 1 else 3) else if sgn (T.1 s) then 4 else 1
noncomputable def sk (T : TX) (i : Nat) : Nat := run blk T i
noncomputable def nt (T : TX) (s : Nat) : Nat := sk T (nx T s)
theorem nx_b {T : TX} {s : Nat} (hs : s ≤ T.2) : s ≤ nx T s ∧ nx T s ≤ T.2 ∧ (kd T s ≠ 0 → s < nx T s) := by
  unfold nx kd
  by_cases h : T.2 ≤ s
  · rw [if_pos h, if_pos h]
    exact ⟨Nat.le_refl _, hs, fun z => absurd rfl z⟩
  · rw [if_neg h]
    have M : ∀ p : Int → Prop, p (T.1 s) → s < run p T s ∧ run p T s ≤ T.2 := fun p hp => by
      obtain ⟨a, b, c, d⟩ := run_ok p hs
      refine ⟨?_, b⟩
      rcases Nat.lt_or_ge s (run p T s) with q | q
      · exact q
      · have e : run p T s = s := by omega
        rw [e] at d
        exact absurd hp (d (by omega))
    by_cases h1 : ltr (T.1 s)
    · rw [if_pos h1]
      have := M ltr h1
      exact ⟨by omega, this.2, fun _ => this.1⟩
    · rw [if_neg h1]
      by_cases h2 : dgt (T.1 s)
      · rw [if_pos h2]
        have := M dgt h2
        exact ⟨by omega, this.2, fun _ => this.1⟩
      · rw [if_neg h2]
        exact ⟨by omega, by omega, fun _ => by omega⟩
theorem sk_b {T : TX} {i : Nat} (hi : i ≤ T.2) : i ≤ sk T i ∧ sk T i ≤ T.2 := ⟨(run_ok blk hi).1, (run_ok blk hi).2.1⟩
theorem nt_b {T : TX} {s : Nat} (hs : s ≤ T.2) : s ≤ nt T s ∧ nt T s ≤ T.2 ∧ (kd T s ≠ 0 → s < nt T s) := by
  have a := nx_b hs
  have b := sk_b a.2.1
  unfold nt
  exact ⟨by omega, b.2, fun q => by have := a.2.2 q; omega⟩
/-- a word's number, five bits a letter; eight bits a letter; a NUMBER's value -/
def c5 (T : TX) (i : Nat) : Nat → Int
  | 0 => 0
  | m + 1 => w64 (w64 (w64 (w64 (c5 T i m * 32) + T.1 (i + m)) - 97) + 1)
def c8 (T : TX) (i : Nat) : Nat → Int
  | 0 => 0
  | m + 1 => zlor (zlshl (c8 T i m) 8) (T.1 (i + m))
def nv (T : TX) (i : Nat) : Nat → Int
  | 0 => 0
  | m + 1 => w32 (w32 (w32 (nv T i m * 10) + T.1 (i + m)) - 48)
noncomputable def wc (T : TX) (s : Nat) : Int := if nx T s - s ≤ 8 then c5 T s (nx T s - s) else 0
noncomputable def vl (T : TX) (s : Nat) : Int := if dgt (T.1 s) then nv T s (nx T s - s) else T.1 s
def kwt : List Int := [8902245, 624020, 146930, 542723566, 302, 136228, 136230, 11703827, 515251, 267570, 14982420, 4389, 6964881093, 20681904, 6801637, 655, 1497, 762030, 403783346, 595572, 52, 409072, 5572, 643568]
/-- a keyword's number -/
def kwl (x : Int) : Nat → Int
  | 0 => -1
  | k + 1 => if kwt.getD k 0 = x then (k : Int) else kwl x k
noncomputable def kw (T : TX) (s : Nat) : Int := kwl (wc T s) 24
/-- a token as the class has it -/
def CXt (T : TX) (h : PH) : Prop := TK T ∧ h 2 3 = (T.2 : Int) ∧ (∀ k : Nat, k < T.2 → h 3 k = T.1 k) ∧ ∀ k : Nat, k < 24 → h 4 k = kwt.getD k 0
def CTk (T : TX) (h : PH) (s : Nat) : Prop := CXt T h ∧ s ≤ T.2 ∧ h 2 4 = (nx T s : Int) ∧ h 2 5 = kd T s ∧ h 2 6 = (s : Int) ∧ (kd T s = 2 → h 2 7 = wc T s ∧ h 2 8 = kw T s) ∧ (kd T s = 3 ∨ kd T s = 4 → h 2 9 = vl T s)
theorem CXt.kp {T : TX} {h h' : PH} (hX : CXt T h) (hF : ∀ c k : Nat, (c = 2 ∧ k = 3) ∨ c = 3 ∨ c = 4 → h' c k = h c k) : CXt T h' := by
  obtain ⟨a, b, c, d⟩ := hX
  exact ⟨a, by rw [hF 2 3 (by omega), b], fun k hk => by rw [hF 3 k (by omega), c k hk], fun k hk => by rw [hF 4 k (by omega), d k hk]⟩
theorem CTk.kp {T : TX} {h h' : PH} {s : Nat} (hX : CTk T h s) (hF : ∀ c k : Nat, (c = 2 ∧ 3 ≤ k ∧ k ≤ 9) ∨ c = 3 ∨ c = 4 → h' c k = h c k) : CTk T h' s := by
  obtain ⟨a, b, c, d, e, f, g⟩ := hX
  exact ⟨a.kp (fun c k q => hF c k (by omega)), b, by rw [hF 2 4 (by omega), c], by rw [hF 2 5 (by omega), d], by rw [hF 2 6 (by omega), e], fun q => by rw [hF 2 7 (by omega), hF 2 8 (by omega)]; exact f q, fun q => by rw [hF 2 9 (by omega)]; exact g q⟩
end
section
/-! 45z.51.ctape -/
set_option maxRecDepth 10000 in
theorem v_X9_isBlank {sl : Nat} {si : Nat → Int} {fm : ZV} {K : Nat → PH → ZL → List ZV → Prop} {Q : PH → List ZV → Prop} {h : PH} {a : Int} (H : (a = 10 → Q h [(0, 1)]) ∧ (¬ (a = 10) → (a ≠ 32 → Q h [(0, 0)]) ∧ (¬ (a ≠ 32) → Q h [(0, 1)]))) : vc (zz sl si fm) (fun _ => false) K Q mX9_isBlank 11 0 mX9_isBlank.2.2.2.2.2.2 h [(0, (0, a))] [] := H
theorem c_X9_isBlank {sl : Nat} {si : Nat → Int} {fm : ZV} {h h' : PH} {a : Int} {v : Int} (hc : CP (zz sl si fm) mX9_isBlank h [(0, a)] h' [(0, v)]) : h' = h ∧ (v = 1 ↔ a = 10 ∨ a = 32) := by
  have q := cp_vc (K := fun _ _ _ _ => True) (Q := fun xh r => xh = h ∧ ∀ v, r = [(0, v)] → (v = 1 ↔ a = 10 ∨ a = 32)) (v_X9_isBlank ⟨fun c1 => (by exact ⟨rfl, fun v e => by cases e; omega⟩), fun c1 => ⟨fun c2 => (by exact ⟨rfl, fun v e => by cases e; omega⟩), fun c2 => (by exact ⟨rfl, fun v e => by cases e; omega⟩)⟩⟩) (fun _ _ _ _ z _ => Bool.noConfusion z) hc
  exact ⟨q.1, q.2 v rfl⟩
set_option maxRecDepth 10000 in
theorem v_X9_isLetter {sl : Nat} {si : Nat → Int} {fm : ZV} {K : Nat → PH → ZL → List ZV → Prop} {Q : PH → List ZV → Prop} {h : PH} {a : Int} (H : (a < 97 → Q h [(0, 0)]) ∧ (¬ (a < 97) → ((122 : Int) < a → Q h [(0, 0)]) ∧ (¬ ((122 : Int) < a) → Q h [(0, 1)]))) : vc (zz sl si fm) (fun _ => false) K Q mX9_isLetter 11 0 mX9_isLetter.2.2.2.2.2.2 h [(0, (0, a))] [] := H
theorem c_X9_isLetter {sl : Nat} {si : Nat → Int} {fm : ZV} {h h' : PH} {a : Int} {v : Int} (hc : CP (zz sl si fm) mX9_isLetter h [(0, a)] h' [(0, v)]) : h' = h ∧ (v = 1 ↔ 97 ≤ a ∧ a ≤ 122) := by
  have q := cp_vc (K := fun _ _ _ _ => True) (Q := fun xh r => xh = h ∧ ∀ v, r = [(0, v)] → (v = 1 ↔ 97 ≤ a ∧ a ≤ 122)) (v_X9_isLetter ⟨fun c1 => (by exact ⟨rfl, fun v e => by cases e; omega⟩), fun c1 => ⟨fun c2 => (by exact ⟨rfl, fun v e => by cases e; omega⟩), fun c2 => (by exact ⟨rfl, fun v e => by cases e; omega⟩)⟩⟩) (fun _ _ _ _ z _ => Bool.noConfusion z) hc
  exact ⟨q.1, q.2 v rfl⟩
set_option maxRecDepth 10000 in
theorem v_X9_isDigit {sl : Nat} {si : Nat → Int} {fm : ZV} {K : Nat → PH → ZL → List ZV → Prop} {Q : PH → List ZV → Prop} {h : PH} {a : Int} (H : (a < 48 → Q h [(0, 0)]) ∧ (¬ (a < 48) → ((57 : Int) < a → Q h [(0, 0)]) ∧ (¬ ((57 : Int) < a) → Q h [(0, 1)]))) : vc (zz sl si fm) (fun _ => false) K Q mX9_isDigit 11 0 mX9_isDigit.2.2.2.2.2.2 h [(0, (0, a))] [] := H
theorem c_X9_isDigit {sl : Nat} {si : Nat → Int} {fm : ZV} {h h' : PH} {a : Int} {v : Int} (hc : CP (zz sl si fm) mX9_isDigit h [(0, a)] h' [(0, v)]) : h' = h ∧ (v = 1 ↔ 48 ≤ a ∧ a ≤ 57) := by
  have q := cp_vc (K := fun _ _ _ _ => True) (Q := fun xh r => xh = h ∧ ∀ v, r = [(0, v)] → (v = 1 ↔ 48 ≤ a ∧ a ≤ 57)) (v_X9_isDigit ⟨fun c1 => (by exact ⟨rfl, fun v e => by cases e; omega⟩), fun c1 => ⟨fun c2 => (by exact ⟨rfl, fun v e => by cases e; omega⟩), fun c2 => (by exact ⟨rfl, fun v e => by cases e; omega⟩)⟩⟩) (fun _ _ _ _ z _ => Bool.noConfusion z) hc
  exact ⟨q.1, q.2 v rfl⟩
set_option maxRecDepth 10000 in
theorem v_X9_isSign {sl : Nat} {si : Nat → Int} {fm : ZV} {K : Nat → PH → ZL → List ZV → Prop} {Q : PH → List ZV → Prop} {h : PH} {a : Int} (H : (a = 59 → Q h [(0, 1)]) ∧ (¬ (a = 59) → (a = 60 → Q h [(0, 1)]) ∧ (¬ (a = 60) → (a = 62 → Q h [(0, 1)]) ∧ (¬ (a = 62) → (a ≠ 61 → Q h [(0, 0)]) ∧ (¬ (a ≠ 61) → Q h [(0, 1)]))))) : vc (zz sl si fm) (fun _ => false) K Q mX9_isSign 17 0 mX9_isSign.2.2.2.2.2.2 h [(0, (0, a))] [] := H
theorem c_X9_isSign {sl : Nat} {si : Nat → Int} {fm : ZV} {h h' : PH} {a : Int} {v : Int} (hc : CP (zz sl si fm) mX9_isSign h [(0, a)] h' [(0, v)]) : h' = h ∧ (v = 1 ↔ a = 59 ∨ a = 60 ∨ a = 62 ∨ a = 61) := by
  have q := cp_vc (K := fun _ _ _ _ => True) (Q := fun xh r => xh = h ∧ ∀ v, r = [(0, v)] → (v = 1 ↔ a = 59 ∨ a = 60 ∨ a = 62 ∨ a = 61)) (v_X9_isSign ⟨fun c1 => (by exact ⟨rfl, fun v e => by cases e; omega⟩), fun c1 => ⟨fun c2 => (by exact ⟨rfl, fun v e => by cases e; omega⟩), fun c2 => ⟨fun c3 => (by exact ⟨rfl, fun v e => by cases e; omega⟩), fun c3 => ⟨fun c4 => (by exact ⟨rfl, fun v e => by cases e; omega⟩), fun c4 => (by exact ⟨rfl, fun v e => by cases e; omega⟩)⟩⟩⟩⟩) (fun _ _ _ _ z _ => Bool.noConfusion z) hc
  exact ⟨q.1, q.2 v rfl⟩
noncomputable def wW (T : TX) (s : Nat) : Int := if run ltr T s - s ≤ 8 then c5 T s (run ltr T s - s) else 0
theorem kwl_s {x : Int} {u : Nat} : kwl x (u + 1) = if kwt.getD u 0 = x then (u : Int) else kwl x u := rfl
theorem c5_s {T : TX} {i m : Nat} : c5 T i (m + 1) = w64 (w64 (w64 (w64 (c5 T i m * 32) + T.1 (i + m)) - 97) + 1) := rfl
theorem nv_s {T : TX} {i m : Nat} : nv T i (m + 1) = w32 (w32 (w32 (nv T i m * 10) + T.1 (i + m)) - 48) := rfl
set_option maxRecDepth 10000 in
theorem v_X9_scanWord {sl : Nat} {si : Nat → Int} {fm : ZV} {K : Nat → PH → ZL → List ZV → Prop} {Q : PH → List ZV → Prop} {h : PH}   (H : K 12 (uph (uph h 2 5 2) 2 7 0) [(1, (0, 0)), (0, (2, 2))] []) : vc (zz sl si fm) (fun p => Nat.beq p 12 || Nat.beq p 92 || Nat.beq p 118) K Q mX9_scanWord 10 0 mX9_scanWord.2.2.2.2.2.2 h [(0, (2, 2))] [] := H
set_option maxRecDepth 10000 in
theorem v_X9_scanWord_12 {sl : Nat} {si : Nat → Int} {fm : ZV} {K : Nat → PH → ZL → List ZV → Prop} {Q : PH → List ZV → Prop} {h : PH}   {k : Int} (H : ((900 : Int) ≤ k → K 92 h [(0, (2, 2)), (1, (0, k))] []) ∧ (¬ ((900 : Int) ≤ k) → R32 (h 2 4) → R32 (h 2 3) → ((h 2 3) ≤ (h 2 4) → K 92 h [(0, (2, 2)), (1, (0, k))] []) ∧ (¬ ((h 2 3) ≤ (h 2 4)) → R32 (h 2 4) → 0 ≤ (h 2 4) ∧ (h 2 4) < (900 : Nat) → R32 (h 3 (h 2 4).toNat) → ((h 3 (h 2 4).toNat) < 97 → K 92 h [(2, (0, (h 3 (h 2 4).toNat))), (0, (2, 2)), (1, (0, k))] []) ∧ (¬ ((h 3 (h 2 4).toNat) < 97) → ((h 3 (h 2 4).toNat) ≤ 122 → R64 (h 2 7) → R32 (h 2 4) → K 12 (uph (uph h 2 7 (w64 ((w64 ((w64 ((w64 ((h 2 7) * 32)) + (h 3 (h 2 4).toNat))) - 97)) + 1))) 2 4 (w32 ((h 2 4) + 1))) [(1, (0, w32 (k + 1))), (2, (0, (h 3 (h 2 4).toNat))), (0, (2, 2))] []) ∧ (¬ ((h 3 (h 2 4).toNat) ≤ 122) → K 92 h [(2, (0, (h 3 (h 2 4).toNat))), (0, (2, 2)), (1, (0, k))] []))))) : vc (zz sl si fm) (fun p => Nat.beq p 12 || Nat.beq p 92 || Nat.beq p 118) K Q mX9_scanWord 43 12 (ax_jmp mX9_scanWord.2.2.2.2.2.2 12) h [(0, (2, 2)), (1, (0, k))] [] := H
set_option maxRecDepth 10000 in
theorem v_X9_scanWord_92 {sl : Nat} {si : Nat → Int} {fm : ZV} {K : Nat → PH → ZL → List ZV → Prop} {Q : PH → List ZV → Prop} {h : PH}   (H : R32 (h 2 4) → R32 (h 2 6) → ((w32 ((h 2 4) - (h 2 6))) ≤ 8 → K 118 (uph h 2 8 (-1)) [(1, (0, 0)), (0, (2, 2))] []) ∧ (¬ ((w32 ((h 2 4) - (h 2 6))) ≤ 8) → K 118 (uph (uph h 2 7 0) 2 8 (-1)) [(1, (0, 0)), (0, (2, 2))] [])) : vc (zz sl si fm) (fun p => Nat.beq p 12 || Nat.beq p 92 || Nat.beq p 118) K Q mX9_scanWord 17 92 (ax_jmp mX9_scanWord.2.2.2.2.2.2 92) h [(0, (2, 2))] [] := H
set_option maxRecDepth 10000 in
theorem v_X9_scanWord_118 {sl : Nat} {si : Nat → Int} {fm : ZV} {K : Nat → PH → ZL → List ZV → Prop} {Q : PH → List ZV → Prop} {h : PH}   {k : Int} (H : ((24 : Int) ≤ k → Q h []) ∧ (¬ ((24 : Int) ≤ k) → 0 ≤ k ∧ k < (24 : Nat) → R64 (h 4 k.toNat) → R64 (h 2 7) → ((zcmp (h 4 k.toNat) (h 2 7)) ≠ 0 → K 118 h [(1, (0, w32 (k + 1))), (0, (2, 2))] []) ∧ (¬ ((zcmp (h 4 k.toNat) (h 2 7)) ≠ 0) → K 118 (uph h 2 8 k) [(1, (0, w32 (k + 1))), (0, (2, 2))] []))) : vc (zz sl si fm) (fun p => Nat.beq p 12 || Nat.beq p 92 || Nat.beq p 118) K Q mX9_scanWord 18 118 (ax_jmp mX9_scanWord.2.2.2.2.2.2 118) h [(0, (2, 2)), (1, (0, k))] [] := H
theorem c_X9_scanWord {sl : Nat} {si : Nat → Int} {fm : ZV} {h h' : PH} {T : TX} {s : Nat} (hX : CXt T h) (hsT : s < T.2) (h4 : h 2 4 = (s : Int)) (h6 : h 2 6 = (s : Int)) (hl : ltr (T.1 s)) (hc : CP (zz sl si fm) mX9_scanWord h [(2, 2)] h' []) : h' 2 4 = (run ltr T s : Int) ∧ h' 2 5 = 2 ∧ h' 2 7 = wW T s ∧ h' 2 8 = kwl (wW T s) 24 ∧ (∀ c k : Nat, ¬ (c = 2 ∧ (k = 4 ∨ k = 5 ∨ k = 7 ∨ k = 8)) → h' c k = h c k) := by
  have q : (fun (xh : PH) (r : List ZV) => xh 2 4 = (run ltr T s : Int) ∧ xh 2 5 = 2 ∧ xh 2 7 = wW T s ∧ xh 2 8 = kwl (wW T s) 24 ∧ (∀ c k : Nat, ¬ (c = 2 ∧ (k = 4 ∨ k = 5 ∨ k = 7 ∨ k = 8)) → xh c k = h c k)) h' [] := by
    refine cp_vc (cut := (fun p => Nat.beq p 12 || Nat.beq p 92 || Nat.beq p 118)) (K := fun p hx lv st => (p = 12 ∧ lK (fun u : Nat => [(0, (2, 2)), (1, (0, (u : Int)))]) (fun u hx => s + u ≤ T.2 ∧ (∀ t : Nat, s ≤ t → t < s + u → ltr (T.1 t)) ∧ hx 2 4 = ((s + u : Nat) : Int) ∧ hx 2 5 = 2 ∧ hx 2 7 = c5 T s u ∧ (∀ c k : Nat, ¬ (c = 2 ∧ (k = 4 ∨ k = 5 ∨ k = 7)) → hx c k = h c k)) p hx lv st) ∨ (p = 92 ∧ lK (fun e : Nat => [(0, (2, 2))]) (fun e hx => Run ltr T s e ∧ hx 2 4 = (e : Int) ∧ hx 2 5 = 2 ∧ hx 2 7 = c5 T s (e - s) ∧ (∀ c k : Nat, ¬ (c = 2 ∧ (k = 4 ∨ k = 5 ∨ k = 7)) → hx c k = h c k)) p hx lv st) ∨ (p = 118 ∧ lK (fun u : Nat => [(0, (2, 2)), (1, (0, (u : Int)))]) (fun u hx => u ≤ 24 ∧ hx 2 4 = (run ltr T s : Int) ∧ hx 2 5 = 2 ∧ hx 2 7 = wW T s ∧ hx 2 8 = kwl (wW T s) u ∧ (∀ c k : Nat, ¬ (c = 2 ∧ (k = 4 ∨ k = 5 ∨ k = 7 ∨ k = 8)) → hx c k = h c k)) p hx lv st)) (Q := fun (xh : PH) (r : List ZV) => xh 2 4 = (run ltr T s : Int) ∧ xh 2 5 = 2 ∧ xh 2 7 = wW T s ∧ xh 2 8 = kwl (wW T s) 24 ∧ (∀ c k : Nat, ¬ (c = 2 ∧ (k = 4 ∨ k = 5 ∨ k = 7 ∨ k = 8)) → xh c k = h c k)) (v_X9_scanWord ?_) (fun pc hx lv st hcut hK => ?_) hc
    · exact (by exact Or.inl ⟨rfl, rfl, 0, ⟨by omega, fun t q1 q2 => by omega, by rw [up_ne (by omega), up_ne (by omega), h4]; rfl, by rw [up_ne (by omega), up_sm], by rw [up_sm]; rfl, fun c k q => by rw [up_ne (by omega), up_ne (by omega)]⟩, rfl, rfl, trivial⟩)
    · rcases hK with ⟨rfl, rfl, u, hJ, hs⟩ | ⟨rfl, rfl, e, hJ, hs⟩ | ⟨rfl, rfl, u, hJ, hs⟩
      · obtain ⟨j1, j2, j3, j4, j5, j6⟩ := hJ
        have hT := hX.1.1
        have x3 : hx 2 3 = (T.2 : Int) := by rw [j6 2 3 (by omega)]; exact hX.2.1
        have xb : s + u < T.2 → hx 3 (hx 2 4).toNat = T.1 (s + u) := fun q => by rw [j3, Int.toNat_natCast, j6 3 _ (by omega)]; exact hX.2.2.1 _ q
        exact ⟨_, _, hs, v_X9_scanWord_12 ⟨fun c1 => (by refine Or.inr (Or.inl ⟨rfl, rfl, s + u, ⟨⟨by omega, by omega, j2, fun q z => ?_⟩, j3, j4, by rw [j5, show s + u - s = u by omega], j6⟩, rfl, trivial⟩); first | omega | (have := xb q; unfold ltr at z; omega)), fun c1 => (fun r2 => (fun r3 => ⟨fun c4 => (by refine Or.inr (Or.inl ⟨rfl, rfl, s + u, ⟨⟨by omega, by omega, j2, fun q z => ?_⟩, j3, j4, by rw [j5, show s + u - s = u by omega], j6⟩, rfl, trivial⟩); first | omega | (have := xb q; unfold ltr at z; omega)), fun c4 => (fun r5 => (fun b6 r7 => ⟨fun c8 => (by refine Or.inr (Or.inl ⟨rfl, rfl, s + u, ⟨⟨by omega, by omega, j2, fun q z => ?_⟩, j3, j4, by rw [j5, show s + u - s = u by omega], j6⟩, rfl, trivial⟩); first | omega | (have := xb q; unfold ltr at z; omega)), fun c8 => ⟨fun c9 => (fun r10 => (fun r11 => (by have B := xb (by omega); refine Or.inl ⟨rfl, rfl, u + 1, ⟨by omega, fun t q1 q2 => ?_, ?_, ?_, ?_, fun c k q => ?_⟩, rfl, wv (by omega) (by omega) (by omega), trivial⟩; (by_cases e : t = s + u; (rw [e]; exact ⟨by omega, by omega⟩); exact j2 t q1 (by omega)); (rw [up_sm, j3, w32_id (by omega) (by omega)]; omega); (rw [up_ne (by omega), up_ne (by omega), j4]); (rw [up_ne (by omega), up_sm, c5_s, j5, B]); (rw [up_ne (by omega), up_ne (by omega)]; exact j6 c k q)))), fun c9 => (by refine Or.inr (Or.inl ⟨rfl, rfl, s + u, ⟨⟨by omega, by omega, j2, fun q z => ?_⟩, j3, j4, by rw [j5, show s + u - s = u by omega], j6⟩, rfl, trivial⟩); first | omega | (have := xb q; unfold ltr at z; omega))⟩⟩))⟩))⟩⟩
      · obtain ⟨j1, j2, j3, j4, j5⟩ := hJ
        have hT := hX.1.1
        have eE := run_eq j1
        subst eE
        have jb := j1.2.1
        have ja := j1.1
        have x6 : hx 2 6 = (s : Int) := by rw [j5 2 6 (by omega)]; exact h6
        have w6 : w32 (hx 2 4 - hx 2 6) = (run ltr T s : Int) - s := by rw [j2, x6]; exact w32_id (by omega) (by omega)
        exact ⟨_, _, hs, v_X9_scanWord_92 (fun r1 => (fun r2 => ⟨fun c3 => (by refine Or.inr (Or.inr ⟨rfl, rfl, 0, ⟨by omega, ?_, ?_, ?_, ?_, fun c k q => ?_⟩, rfl, rfl, trivial⟩); (first | rw [up_ne (by omega), j2] | rw [up_ne (by omega), up_ne (by omega), j2]); (first | rw [up_ne (by omega), j3] | rw [up_ne (by omega), up_ne (by omega), j3]); (unfold wW; first | (rw [up_ne (by omega), up_sm, if_neg (by omega)]) | (rw [up_ne (by omega), j4, if_pos (by omega)])); (rw [up_sm]; rfl); (first | (rw [up_ne (by omega)]; exact j5 c k (by omega)) | (rw [up_ne (by omega), up_ne (by omega)]; exact j5 c k (by omega)))), fun c3 => (by refine Or.inr (Or.inr ⟨rfl, rfl, 0, ⟨by omega, ?_, ?_, ?_, ?_, fun c k q => ?_⟩, rfl, rfl, trivial⟩); (first | rw [up_ne (by omega), j2] | rw [up_ne (by omega), up_ne (by omega), j2]); (first | rw [up_ne (by omega), j3] | rw [up_ne (by omega), up_ne (by omega), j3]); (unfold wW; first | (rw [up_ne (by omega), up_sm, if_neg (by omega)]) | (rw [up_ne (by omega), j4, if_pos (by omega)])); (rw [up_sm]; rfl); (first | (rw [up_ne (by omega)]; exact j5 c k (by omega)) | (rw [up_ne (by omega), up_ne (by omega)]; exact j5 c k (by omega))))⟩))⟩
      · obtain ⟨j1, j2, j3, j4, j5, j6⟩ := hJ
        have xk : u < 24 → hx 4 (u : Int).toNat = kwt.getD u 0 := fun q => by rw [Int.toNat_natCast, j6 4 u (by omega)]; exact hX.2.2.2 u q
        exact ⟨_, _, hs, v_X9_scanWord_118 ⟨fun c1 => (by have e : u = 24 := (by omega); subst e; exact ⟨j2, j3, j4, j5, j6⟩), fun c1 => (fun b2 r3 => (fun r4 => ⟨fun c5 => (by have B := xk (by omega); rw [B, j4] at c5; refine Or.inr (Or.inr ⟨rfl, rfl, u + 1, ⟨by omega, j2, j3, j4, ?_, j6⟩, rfl, wv (by omega) (by omega) (by omega), trivial⟩); rw [kwl_s, if_neg (fun z => c5 (zcmp_0.mpr z)), j5]), fun c5 => (by have B := xk (by omega); rw [B, j4] at c5; refine Or.inr (Or.inr ⟨rfl, rfl, u + 1, ⟨by omega, by rw [up_ne (by omega), j2], by rw [up_ne (by omega), j3], by rw [up_ne (by omega), j4], ?_, fun c k q => by rw [up_ne (by omega)]; exact j6 c k q⟩, rfl, wv (by omega) (by omega) (by omega), trivial⟩); rw [kwl_s, if_pos (zcmp_0.mp (Classical.not_not.mp c5)), up_sm])⟩))⟩⟩
  exact q
set_option maxRecDepth 10000 in
theorem v_X9_scanNumber {sl : Nat} {si : Nat → Int} {fm : ZV} {K : Nat → PH → ZL → List ZV → Prop} {Q : PH → List ZV → Prop} {h : PH}   (H : K 7 (uph h 2 9 0) [(1, (0, 0)), (0, (2, 2))] []) : vc (zz sl si fm) (fun p => Nat.beq p 7 || Nat.beq p 82) K Q mX9_scanNumber 7 0 mX9_scanNumber.2.2.2.2.2.2 h [(0, (2, 2))] [] := H
set_option maxRecDepth 10000 in
theorem v_X9_scanNumber_7 {sl : Nat} {si : Nat → Int} {fm : ZV} {K : Nat → PH → ZL → List ZV → Prop} {Q : PH → List ZV → Prop} {h : PH}   {k : Int} (H : ((900 : Int) ≤ k → K 82 h [(0, (2, 2)), (1, (0, k))] []) ∧ (¬ ((900 : Int) ≤ k) → R32 (h 2 4) → R32 (h 2 3) → ((h 2 3) ≤ (h 2 4) → K 82 h [(0, (2, 2)), (1, (0, k))] []) ∧ (¬ ((h 2 3) ≤ (h 2 4)) → R32 (h 2 4) → 0 ≤ (h 2 4) ∧ (h 2 4) < (900 : Nat) → R32 (h 3 (h 2 4).toNat) → ((h 3 (h 2 4).toNat) < 48 → K 82 h [(2, (0, (h 3 (h 2 4).toNat))), (0, (2, 2)), (1, (0, k))] []) ∧ (¬ ((h 3 (h 2 4).toNat) < 48) → ((h 3 (h 2 4).toNat) ≤ 57 → R32 (h 2 9) → R32 (h 2 4) → K 7 (uph (uph h 2 9 (w32 ((w32 ((w32 ((h 2 9) * 10)) + (h 3 (h 2 4).toNat))) - 48))) 2 4 (w32 ((h 2 4) + 1))) [(1, (0, w32 (k + 1))), (2, (0, (h 3 (h 2 4).toNat))), (0, (2, 2))] []) ∧ (¬ ((h 3 (h 2 4).toNat) ≤ 57) → K 82 h [(2, (0, (h 3 (h 2 4).toNat))), (0, (2, 2)), (1, (0, k))] []))))) : vc (zz sl si fm) (fun p => Nat.beq p 7 || Nat.beq p 82) K Q mX9_scanNumber 40 7 (ax_jmp mX9_scanNumber.2.2.2.2.2.2 7) h [(0, (2, 2)), (1, (0, k))] [] := H
set_option maxRecDepth 10000 in
theorem v_X9_scanNumber_82 {sl : Nat} {si : Nat → Int} {fm : ZV} {K : Nat → PH → ZL → List ZV → Prop} {Q : PH → List ZV → Prop} {h : PH}   (H : R32 (h 2 4) → R32 (h 2 6) → ((w32 ((h 2 4) - (h 2 6))) ≤ 4 → Q (uph h 2 5 3) []) ∧ (¬ ((w32 ((h 2 4) - (h 2 6))) ≤ 4) → Q (uph h 2 5 1) [])) : vc (zz sl si fm) (fun p => Nat.beq p 7 || Nat.beq p 82) K Q mX9_scanNumber 14 82 (ax_jmp mX9_scanNumber.2.2.2.2.2.2 82) h [(0, (2, 2))] [] := H
theorem c_X9_scanNumber {sl : Nat} {si : Nat → Int} {fm : ZV} {h h' : PH} {T : TX} {s : Nat} (hX : CXt T h) (hsT : s < T.2) (h4 : h 2 4 = (s : Int)) (h6 : h 2 6 = (s : Int)) (hl : dgt (T.1 s)) (hc : CP (zz sl si fm) mX9_scanNumber h [(2, 2)] h' []) : h' 2 4 = (run dgt T s : Int) ∧ h' 2 5 = (if 4 < run dgt T s - s then 1 else 3) ∧ h' 2 9 = nv T s (run dgt T s - s) ∧ (∀ c k : Nat, ¬ (c = 2 ∧ (k = 4 ∨ k = 5 ∨ k = 9)) → h' c k = h c k) := by
  have q : (fun (xh : PH) (r : List ZV) => xh 2 4 = (run dgt T s : Int) ∧ xh 2 5 = (if 4 < run dgt T s - s then 1 else 3) ∧ xh 2 9 = nv T s (run dgt T s - s) ∧ (∀ c k : Nat, ¬ (c = 2 ∧ (k = 4 ∨ k = 5 ∨ k = 9)) → xh c k = h c k)) h' [] := by
    refine cp_vc (cut := (fun p => Nat.beq p 7 || Nat.beq p 82)) (K := fun p hx lv st => (p = 7 ∧ lK (fun u : Nat => [(0, (2, 2)), (1, (0, (u : Int)))]) (fun u hx => s + u ≤ T.2 ∧ (∀ t : Nat, s ≤ t → t < s + u → dgt (T.1 t)) ∧ hx 2 4 = ((s + u : Nat) : Int) ∧ hx 2 9 = nv T s u ∧ (∀ c k : Nat, ¬ (c = 2 ∧ (k = 4 ∨ k = 9)) → hx c k = h c k)) p hx lv st) ∨ (p = 82 ∧ lK (fun e : Nat => [(0, (2, 2))]) (fun e hx => Run dgt T s e ∧ hx 2 4 = (e : Int) ∧ hx 2 9 = nv T s (e - s) ∧ (∀ c k : Nat, ¬ (c = 2 ∧ (k = 4 ∨ k = 9)) → hx c k = h c k)) p hx lv st)) (Q := fun (xh : PH) (r : List ZV) => xh 2 4 = (run dgt T s : Int) ∧ xh 2 5 = (if 4 < run dgt T s - s then 1 else 3) ∧ xh 2 9 = nv T s (run dgt T s - s) ∧ (∀ c k : Nat, ¬ (c = 2 ∧ (k = 4 ∨ k = 5 ∨ k = 9)) → xh c k = h c k)) (v_X9_scanNumber ?_) (fun pc hx lv st hcut hK => ?_) hc
    · exact (by exact Or.inl ⟨rfl, rfl, 0, ⟨by omega, fun t q1 q2 => by omega, by rw [up_ne (by omega), h4]; rfl, by rw [up_sm]; rfl, fun c k q => by rw [up_ne (by omega)]⟩, rfl, rfl, trivial⟩)
    · rcases hK with ⟨rfl, rfl, u, hJ, hs⟩ | ⟨rfl, rfl, e, hJ, hs⟩
      · obtain ⟨j1, j2, j3, j5, j6⟩ := hJ
        have hT := hX.1.1
        have x3 : hx 2 3 = (T.2 : Int) := by rw [j6 2 3 (by omega)]; exact hX.2.1
        have xb : s + u < T.2 → hx 3 (hx 2 4).toNat = T.1 (s + u) := fun q => by rw [j3, Int.toNat_natCast, j6 3 _ (by omega)]; exact hX.2.2.1 _ q
        exact ⟨_, _, hs, v_X9_scanNumber_7 ⟨fun c1 => (by refine Or.inr ⟨rfl, rfl, s + u, ⟨⟨by omega, by omega, j2, fun q z => ?_⟩, j3, by rw [j5, show s + u - s = u by omega], j6⟩, rfl, trivial⟩; first | omega | (have := xb q; unfold dgt at z; omega)), fun c1 => (fun r2 => (fun r3 => ⟨fun c4 => (by refine Or.inr ⟨rfl, rfl, s + u, ⟨⟨by omega, by omega, j2, fun q z => ?_⟩, j3, by rw [j5, show s + u - s = u by omega], j6⟩, rfl, trivial⟩; first | omega | (have := xb q; unfold dgt at z; omega)), fun c4 => (fun r5 => (fun b6 r7 => ⟨fun c8 => (by refine Or.inr ⟨rfl, rfl, s + u, ⟨⟨by omega, by omega, j2, fun q z => ?_⟩, j3, by rw [j5, show s + u - s = u by omega], j6⟩, rfl, trivial⟩; first | omega | (have := xb q; unfold dgt at z; omega)), fun c8 => ⟨fun c9 => (fun r10 => (fun r11 => (by have B := xb (by omega); refine Or.inl ⟨rfl, rfl, u + 1, ⟨by omega, fun t q1 q2 => ?_, ?_, ?_, fun c k q => ?_⟩, rfl, wv (by omega) (by omega) (by omega), trivial⟩; (by_cases e : t = s + u; (rw [e]; exact ⟨by omega, by omega⟩); exact j2 t q1 (by omega)); (rw [up_sm, j3, w32_id (by omega) (by omega)]; omega); (rw [up_ne (by omega), up_sm, nv_s, j5, B]); (rw [up_ne (by omega), up_ne (by omega)]; exact j6 c k q)))), fun c9 => (by refine Or.inr ⟨rfl, rfl, s + u, ⟨⟨by omega, by omega, j2, fun q z => ?_⟩, j3, by rw [j5, show s + u - s = u by omega], j6⟩, rfl, trivial⟩; first | omega | (have := xb q; unfold dgt at z; omega))⟩⟩))⟩))⟩⟩
      · obtain ⟨j1, j2, j4, j5⟩ := hJ
        have hT := hX.1.1
        have eE := run_eq j1
        subst eE
        have jb := j1.2.1
        have ja := j1.1
        have x6 : hx 2 6 = (s : Int) := by rw [j5 2 6 (by omega)]; exact h6
        have w6 : w32 (hx 2 4 - hx 2 6) = (run dgt T s : Int) - s := by rw [j2, x6]; exact w32_id (by omega) (by omega)
        exact ⟨_, _, hs, v_X9_scanNumber_82 (fun r1 => (fun r2 => ⟨fun c3 => (by exact ⟨by rw [up_ne (by omega), j2], by rw [up_sm, if_neg (by omega)], by rw [up_ne (by omega), j4], fun c k q => by rw [up_ne (by omega)]; exact j5 c k (by omega)⟩), fun c3 => (by exact ⟨by rw [up_ne (by omega), j2], by rw [up_sm, if_pos (by omega)], by rw [up_ne (by omega), j4], fun c k q => by rw [up_ne (by omega)]; exact j5 c k (by omega)⟩)⟩))⟩
  exact q
/-- the next token, out of what is written -/
theorem CTk.of {T : TX} {h h' : PH} {i e : Nat} (hX : CXt T h) (hr : Run blk T i e) (hF : ∀ c k : Nat, ¬ (c = 2 ∧ 4 ≤ k ∧ k ≤ 9) → h' c k = h c k) (a4 : h' 2 4 = (nx T e : Int)) (a5 : h' 2 5 = kd T e) (a6 : h' 2 6 = (e : Int)) (a7 : kd T e = 2 → h' 2 7 = wc T e ∧ h' 2 8 = kw T e) (a9 : kd T e = 3 ∨ kd T e = 4 → h' 2 9 = vl T e) : CTk T h' (sk T i) := by
  have e1 : sk T i = e := run_eq hr
  rw [e1]
  exact ⟨hX.kp (fun c k q => hF c k (by omega)), hr.2.1, a4, a5, a6, a7, a9⟩
set_option maxRecDepth 10000 in
theorem v_X9_advance {sl : Nat} {si : Nat → Int} {fm : ZV} {K : Nat → PH → ZL → List ZV → Prop} {Q : PH → List ZV → Prop} {h : PH}   (H : K 2 h [(1, (0, 0)), (0, (2, 2))] []) : vc (zz sl si fm) (fun p => Nat.beq p 2 || Nat.beq p 51) K Q mX9_advance 4 0 mX9_advance.2.2.2.2.2.2 h [(0, (2, 2))] [] := H
set_option maxRecDepth 10000 in
theorem v_X9_advance_2 {sl : Nat} {si : Nat → Int} {fm : ZV} {K : Nat → PH → ZL → List ZV → Prop} {Q : PH → List ZV → Prop} {h : PH}   {k : Int} (H : ((900 : Int) ≤ k → K 51 h [(0, (2, 2)), (1, (0, k))] []) ∧ (¬ ((900 : Int) ≤ k) → R32 (h 2 4) → R32 (h 2 3) → ((h 2 3) ≤ (h 2 4) → K 51 h [(0, (2, 2)), (1, (0, k))] []) ∧ (¬ ((h 2 3) ≤ (h 2 4)) → R32 (h 2 4) → 0 ≤ (h 2 4) ∧ (h 2 4) < (900 : Nat) → R32 (h 3 (h 2 4).toNat) → ∀ h1 v1, CP (zz sl si fm) mX9_isBlank h [(0, (h 3 (h 2 4).toNat))] h1 [(0, v1)] → v1 = 0 ∨ v1 = 1 → (v1 = 0 → K 51 h1 [(0, (2, 2)), (1, (0, k))] []) ∧ (¬ (v1 = 0) → R32 (h1 2 4) → K 2 (uph h1 2 4 (w32 ((h1 2 4) + 1))) [(1, (0, w32 (k + 1))), (0, (2, 2))] [])))) : vc (zz sl si fm) (fun p => Nat.beq p 2 || Nat.beq p 51) K Q mX9_advance 25 2 (ax_jmp mX9_advance.2.2.2.2.2.2 2) h [(0, (2, 2)), (1, (0, k))] [] := H
set_option maxRecDepth 10000 in
theorem v_X9_advance_51 {sl : Nat} {si : Nat → Int} {fm : ZV} {K : Nat → PH → ZL → List ZV → Prop} {Q : PH → List ZV → Prop} {h : PH}   (H : R32 (h 2 4) → R32 (h 2 4) → R32 (h 2 3) → ((h 2 4) < (h 2 3) → R32 (h 2 4) → 0 ≤ (h 2 4) ∧ (h 2 4) < (900 : Nat) → R32 (h 3 (h 2 4).toNat) → ∀ h1 v1, CP (zz sl si fm) mX9_isLetter (uph h 2 6 (h 2 4)) [(0, (h 3 (h 2 4).toNat))] h1 [(0, v1)] → v1 = 0 ∨ v1 = 1 → (v1 = 0 → R32 (h1 2 4) → 0 ≤ (h1 2 4) ∧ (h1 2 4) < (900 : Nat) → R32 (h1 3 (h1 2 4).toNat) → ∀ h2 v2, CP (zz sl si fm) mX9_isDigit h1 [(0, (h1 3 (h1 2 4).toNat))] h2 [(0, v2)] → v2 = 0 ∨ v2 = 1 → (v2 = 0 → R32 (h2 2 4) → 0 ≤ (h2 2 4) ∧ (h2 2 4) < (900 : Nat) → R32 (h2 3 (h2 2 4).toNat) → R32 ((h2 3 (h2 2 4).toNat)) → ∀ h3 v3, CP (zz sl si fm) mX9_isSign (uph h2 2 9 (h2 3 (h2 2 4).toNat)) [(0, (h2 3 (h2 2 4).toNat))] h3 [(0, v3)] → v3 = 0 ∨ v3 = 1 → (v3 = 0 → R32 (h3 2 4) → Q (uph (uph h3 2 5 1) 2 4 (w32 ((h3 2 4) + 1))) []) ∧ (¬ (v3 = 0) → R32 (h3 2 4) → Q (uph (uph h3 2 5 4) 2 4 (w32 ((h3 2 4) + 1))) [])) ∧ (¬ (v2 = 0) → ∀ h4, CP (zz sl si fm) mX9_scanNumber h2 [(2, 2)] h4 [] → Q h4 [])) ∧ (¬ (v1 = 0) → ∀ h5, CP (zz sl si fm) mX9_scanWord h1 [(2, 2)] h5 [] → Q h5 [])) ∧ (¬ ((h 2 4) < (h 2 3)) → Q (uph (uph h 2 6 (h 2 4)) 2 5 0) [])) : vc (zz sl si fm) (fun p => Nat.beq p 2 || Nat.beq p 51) K Q mX9_advance 47 51 (ax_jmp mX9_advance.2.2.2.2.2.2 51) h [(0, (2, 2))] [] := H
theorem c_X9_advance {sl : Nat} {si : Nat → Int} {fm : ZV} {h h' : PH} {T : TX} {i : Nat} (hX : CXt T h) (hi : i ≤ T.2) (h4 : h 2 4 = (i : Int)) (hc : CP (zz sl si fm) mX9_advance h [(2, 2)] h' []) : CTk T h' (sk T i) ∧ (∀ c k : Nat, ¬ (c = 2 ∧ 4 ≤ k ∧ k ≤ 9) → h' c k = h c k) := by
  have q : (fun (xh : PH) (r : List ZV) => CTk T xh (sk T i) ∧ (∀ c k : Nat, ¬ (c = 2 ∧ 4 ≤ k ∧ k ≤ 9) → xh c k = h c k)) h' [] := by
    refine cp_vc (cut := (fun p => Nat.beq p 2 || Nat.beq p 51)) (K := fun p hx lv st => (p = 2 ∧ lK (fun u : Nat => [(0, (2, 2)), (1, (0, (u : Int)))]) (fun u hx => i + u ≤ T.2 ∧ (∀ t : Nat, i ≤ t → t < i + u → blk (T.1 t)) ∧ hx 2 4 = ((i + u : Nat) : Int) ∧ (∀ c k : Nat, ¬ (c = 2 ∧ k = 4) → hx c k = h c k)) p hx lv st) ∨ (p = 51 ∧ lK (fun e : Nat => [(0, (2, 2))]) (fun e hx => Run blk T i e ∧ hx 2 4 = (e : Int) ∧ (∀ c k : Nat, ¬ (c = 2 ∧ k = 4) → hx c k = h c k)) p hx lv st)) (Q := fun (xh : PH) (r : List ZV) => CTk T xh (sk T i) ∧ (∀ c k : Nat, ¬ (c = 2 ∧ 4 ≤ k ∧ k ≤ 9) → xh c k = h c k)) (v_X9_advance ?_) (fun pc hx lv st hcut hK => ?_) hc
    · exact (by exact Or.inl ⟨rfl, rfl, 0, ⟨by omega, fun t q1 q2 => by omega, by rw [h4]; rfl, fun c k q => rfl⟩, rfl, rfl, trivial⟩)
    · rcases hK with ⟨rfl, rfl, u, hJ, hs⟩ | ⟨rfl, rfl, e, hJ, hs⟩
      · obtain ⟨j1, j2, j3, j6⟩ := hJ
        have hT := hX.1.1
        have x3 : hx 2 3 = (T.2 : Int) := by rw [j6 2 3 (by omega)]; exact hX.2.1
        have xb : i + u < T.2 → hx 3 (hx 2 4).toNat = T.1 (i + u) := fun q => by rw [j3, Int.toNat_natCast, j6 3 _ (by omega)]; exact hX.2.2.1 _ q
        exact ⟨_, _, hs, v_X9_advance_2 ⟨fun c1 => (by refine Or.inr ⟨rfl, rfl, i + u, ⟨⟨by omega, by omega, j2, fun q z => ?_⟩, j3, j6⟩, rfl, trivial⟩; first | omega | (have := xb q; rw [this] at e1; unfold blk at z; omega)), fun c1 => (fun r2 => (fun r3 => ⟨fun c4 => (by refine Or.inr ⟨rfl, rfl, i + u, ⟨⟨by omega, by omega, j2, fun q z => ?_⟩, j3, j6⟩, rfl, trivial⟩; first | omega | (have := xb q; rw [this] at e1; unfold blk at z; omega)), fun c4 => (fun r5 => (fun b6 r7 => (fun h1 v1 p1 q1 => by obtain ⟨t1, e1⟩ := c_X9_isBlank p1; have t1 := t1.symm; subst t1; exact ⟨fun c8 => (by refine Or.inr ⟨rfl, rfl, i + u, ⟨⟨by omega, by omega, j2, fun q z => ?_⟩, j3, j6⟩, rfl, trivial⟩; first | omega | (have := xb q; rw [this] at e1; unfold blk at z; omega)), fun c8 => (fun r9 => (by have B := xb (by omega); rw [B] at e1; refine Or.inl ⟨rfl, rfl, u + 1, ⟨by omega, fun t q1 q2 => ?_, ?_, fun c k q => ?_⟩, rfl, wv (by omega) (by omega) (by omega), trivial⟩; (by_cases e : t = i + u; (rw [e]; unfold blk; omega); exact j2 t q1 (by omega)); (rw [up_sm, j3, w32_id (by omega) (by omega)]; omega); (rw [up_ne (by omega)]; exact j6 c k q)))⟩)))⟩))⟩⟩
      · obtain ⟨j1, j2, j6⟩ := hJ
        have hT := hX.1.1
        have je := j1.2.1
        have x3 : hx 2 3 = (T.2 : Int) := by rw [j6 2 3 (by omega)]; exact hX.2.1
        have xb : e < T.2 → hx 3 (hx 2 4).toNat = T.1 e := fun q => by rw [j2, Int.toNat_natCast, j6 3 _ (by omega)]; exact hX.2.2.1 _ q
        have hX1 : CXt T (uph hx 2 6 (hx 2 4)) := hX.kp (fun c k q => by rw [up_ne (by omega)]; exact j6 c k (by omega))
        have s4 : (uph hx 2 6 (hx 2 4)) 2 4 = (e : Int) := by rw [up_ne (by omega), j2]
        have s6 : (uph hx 2 6 (hx 2 4)) 2 6 = (e : Int) := by rw [up_sm, j2]
        have sb : e < T.2 → (uph hx 2 6 (hx 2 4)) 3 ((uph hx 2 6 (hx 2 4)) 2 4).toNat = T.1 e := fun q => by rw [s4, up_ne (by omega), ← j2]; exact xb q
        have FF : ∀ c k : Nat, ¬ (c = 2 ∧ 4 ≤ k ∧ k ≤ 9) → (uph hx 2 6 (hx 2 4)) c k = h c k := fun c k q => by rw [up_ne (by omega)]; exact j6 c k (by omega)
        exact ⟨_, _, hs, v_X9_advance_51 (fun r1 => (fun r2 => (fun r3 => ⟨fun c4 => (fun r5 => (fun b6 r7 => (fun h1 v1 p1 q1 => by obtain ⟨t1, e1⟩ := c_X9_isLetter p1; have t1 := t1.symm; subst t1; exact ⟨fun c8 => (fun r9 => (fun b10 r11 => (fun h2 v2 p2 q2 => by obtain ⟨t2, e2⟩ := c_X9_isDigit p2; have t2 := t2.symm; subst t2; exact ⟨fun c12 => (fun r13 => (fun b14 r15 => (fun r16 => (fun h3 v3 p3 q3 => by obtain ⟨t3, e3⟩ := c_X9_isSign p3; have t3 := t3.symm; subst t3; exact ⟨fun c17 => (fun r18 => (by have B := xb (by omega); have B2 := sb (by omega); rw [B] at e1; rw [B2] at e2 e3; have n1 : nx T e = e + 1 := (by (unfold nx; rw [if_neg (by omega), if_neg (by unfold ltr; omega), if_neg (by unfold dgt; omega)])); have n2 : kd T e = 1 := (by (unfold kd; rw [if_neg (by omega), if_neg (by unfold ltr; omega), if_neg (by unfold dgt; omega), if_neg (by unfold sgn; omega)])); have FG : ∀ c k : Nat, ¬ (c = 2 ∧ 4 ≤ k ∧ k ≤ 9) → (uph (uph (uph (uph hx 2 6 (hx 2 4)) 2 9 ((uph hx 2 6 (hx 2 4)) 3 ((uph hx 2 6 (hx 2 4)) 2 4).toNat)) 2 5 1) 2 4 (w32 ((uph (uph hx 2 6 (hx 2 4)) 2 9 ((uph hx 2 6 (hx 2 4)) 3 ((uph hx 2 6 (hx 2 4)) 2 4).toNat)) 2 4 + 1))) c k = h c k := (fun c k q => by rw [up_ne (by omega), up_ne (by omega), up_ne (by omega)]; exact FF c k q); exact ⟨CTk.of hX j1 FG (by rw [up_sm, up_ne (by omega), s4, w32_id (by omega) (by omega), n1]; omega) (by rw [up_ne (by omega), up_sm, n2]) (by rw [up_ne (by omega), up_ne (by omega), up_ne (by omega), s6]) (fun z => by omega) (fun z => by rw [up_ne (by omega), up_ne (by omega), up_sm, B2]; unfold vl; rw [if_neg (by unfold dgt; omega)]), FG⟩)), fun c17 => (fun r19 => (by have B := xb (by omega); have B2 := sb (by omega); rw [B] at e1; rw [B2] at e2 e3; have n1 : nx T e = e + 1 := (by (unfold nx; rw [if_neg (by omega), if_neg (by unfold ltr; omega), if_neg (by unfold dgt; omega)])); have n2 : kd T e = 4 := (by (unfold kd; rw [if_neg (by omega), if_neg (by unfold ltr; omega), if_neg (by unfold dgt; omega), if_pos (by unfold sgn; omega)])); have FG : ∀ c k : Nat, ¬ (c = 2 ∧ 4 ≤ k ∧ k ≤ 9) → (uph (uph (uph (uph hx 2 6 (hx 2 4)) 2 9 ((uph hx 2 6 (hx 2 4)) 3 ((uph hx 2 6 (hx 2 4)) 2 4).toNat)) 2 5 4) 2 4 (w32 ((uph (uph hx 2 6 (hx 2 4)) 2 9 ((uph hx 2 6 (hx 2 4)) 3 ((uph hx 2 6 (hx 2 4)) 2 4).toNat)) 2 4 + 1))) c k = h c k := (fun c k q => by rw [up_ne (by omega), up_ne (by omega), up_ne (by omega)]; exact FF c k q); exact ⟨CTk.of hX j1 FG (by rw [up_sm, up_ne (by omega), s4, w32_id (by omega) (by omega), n1]; omega) (by rw [up_ne (by omega), up_sm, n2]) (by rw [up_ne (by omega), up_ne (by omega), up_ne (by omega), s6]) (fun z => by omega) (fun z => by rw [up_ne (by omega), up_ne (by omega), up_sm, B2]; unfold vl; rw [if_neg (by unfold dgt; omega)]), FG⟩))⟩)))), fun c12 => (fun h4 p4 => (by have B := xb (by omega); have B2 := sb (by omega); rw [B] at e1; rw [B2] at e2; obtain ⟨d1, d2, d3, d4⟩ := c_X9_scanNumber hX1 (by omega) s4 s6 (show dgt (T.1 e) from ⟨by omega, by omega⟩) p4; have n1 : nx T e = run dgt T e := (by (unfold nx; rw [if_neg (by omega), if_neg (by unfold ltr; omega), if_pos (show dgt (T.1 e) from ⟨by omega, by omega⟩)])); have n2 : kd T e = if 4 < run dgt T e - e then 1 else 3 := (by (unfold kd; rw [if_neg (by omega), if_neg (by unfold ltr; omega), if_pos (show dgt (T.1 e) from ⟨by omega, by omega⟩), n1])); have FG : ∀ c k : Nat, ¬ (c = 2 ∧ 4 ≤ k ∧ k ≤ 9) → h4 c k = h c k := (fun c k q => by rw [d4 c k (by omega)]; exact FF c k q); exact ⟨CTk.of hX j1 FG (by rw [d1, n1]) (by rw [d2, n2]) (by rw [d4 2 6 (by omega), s6]) (fun z => by exfalso; rw [n2] at z; split at z <;> omega) (fun _ => by unfold vl; rw [d3, n1, if_pos (show dgt (T.1 e) from ⟨by omega, by omega⟩)]), FG⟩))⟩))), fun c8 => (fun h5 p5 => (by have B := xb (by omega); rw [B] at e1; obtain ⟨d1, d2, d3, d4, d5⟩ := c_X9_scanWord hX1 (by omega) s4 s6 (show ltr (T.1 e) from ⟨by omega, by omega⟩) p5; have n1 : nx T e = run ltr T e := (by (unfold nx; rw [if_neg (by omega), if_pos (show ltr (T.1 e) from ⟨by omega, by omega⟩)])); have n2 : kd T e = 2 := (by (unfold kd; rw [if_neg (by omega), if_pos (show ltr (T.1 e) from ⟨by omega, by omega⟩)])); have FG : ∀ c k : Nat, ¬ (c = 2 ∧ 4 ≤ k ∧ k ≤ 9) → h5 c k = h c k := (fun c k q => by rw [d5 c k (by omega)]; exact FF c k q); have n3 : wc T e = wW T e := (by (unfold wc wW; rw [n1])); exact ⟨CTk.of hX j1 FG (by rw [d1, n1]) (by rw [d2, n2]) (by rw [d5 2 6 (by omega), s6]) (fun _ => ⟨by rw [d3, n3], by unfold kw; rw [d4, n3]⟩) (fun z => by exfalso; rw [n2] at z; omega), FG⟩))⟩))), fun c4 => (by have n1 : nx T e = e := (by (unfold nx; rw [if_pos (by omega)])); have n2 : kd T e = 0 := (by (unfold kd; rw [if_pos (by omega)])); have FG : ∀ c k : Nat, ¬ (c = 2 ∧ 4 ≤ k ∧ k ≤ 9) → (uph (uph hx 2 6 (hx 2 4)) 2 5 0) c k = h c k := (fun c k q => by rw [up_ne (by omega)]; exact FF c k q); exact ⟨CTk.of hX j1 FG (by rw [up_ne (by omega), s4, n1]) (by rw [up_sm, n2]) (by rw [up_ne (by omega), s6]) (fun z => by omega) (fun z => by omega), FG⟩)⟩)))⟩
  exact q
end
section
/-! 45z.52.spec -/
/-! A LAND's text, as what it does to a LAND -/
abbrev isW (T : TX) (s : Nat) (w : Int) : Prop := kd T s = 2 ∧ kw T s = w
abbrev isN (T : TX) (s : Nat) : Prop := kd T s = 2 ∧ kw T s = -1 ∧ wc T s ≠ 0
abbrev isG (T : TX) (s : Nat) (c : Int) : Prop := kd T s = 4 ∧ vl T s = c
noncomputable def fltk (T : TX) (k : Int) (s : Nat) : Int := if kd T s = 1 then 1 else k
abbrev PR : Type := (Int × Nat) ⊕ (Nat × PH)
noncomputable def bad (T : TX) (k : Int) (s : Nat) : PR := .inl (fltk T k s, s)
/-- the first of n that is x, or -1 -/
def fd (g : Nat → Int) (x : Int) : Nat → Int
  | 0 => -1
  | n + 1 => if fd g x n = -1 then (if g n = x then (n : Int) else -1) else fd g x n
theorem fd_no {g : Nat → Int} {x : Int} : ∀ (n : Nat), (∀ i, i < n → g i ≠ x) → fd g x n = -1
  | 0, _ => rfl
  | n + 1, h => by
    show (if fd g x n = -1 then (if g n = x then (n : Int) else -1) else fd g x n) = -1
    rw [if_pos (fd_no n (fun i hi => h i (by omega))), if_neg (h n (by omega))]
theorem fd_at {g : Nat → Int} {x : Int} : ∀ (n u : Nat), u < n → (∀ i, i < u → g i ≠ x) → g u = x → fd g x n = u
  | 0, u, h, _, _ => by omega
  | n + 1, u, h, h1, h2 => by
    show (if fd g x n = -1 then (if g n = x then (n : Int) else -1) else fd g x n) = u
    by_cases e : u = n
    · rw [if_pos (fd_no n (fun i hi => h1 i (by omega))), if_pos (by rw [← e]; exact h2), e]
    · rw [if_neg (by rw [fd_at n u (by omega) h1 h2]; omega), fd_at n u (by omega) h1 h2]
theorem fd_b {g : Nat → Int} {x : Int} : ∀ (n : Nat), -1 ≤ fd g x n ∧ fd g x n < n
  | 0 => ⟨by show (-1 : Int) ≤ -1; omega, by show (-1 : Int) < ((0 : Nat) : Int); omega⟩
  | n + 1 => by
    have := fd_b (g := g) (x := x) n
    show -1 ≤ (if fd g x n = -1 then (if g n = x then (n : Int) else -1) else fd g x n) ∧ (if fd g x n = -1 then (if g n = x then (n : Int) else -1) else fd g x n) < ((n + 1 : Nat) : Int)
    split
    · split <;> omega
    · omega
noncomputable def nmH (T : TX) (L : PH) (s : Nat) : Int := fd (L 9) (wc T s) (L 1 0).toNat
noncomputable def nmP (T : TX) (L : PH) (s : Nat) : Int := fd (L 10) (wc T s) (L 0 4).toNat
/-- a HOUSE's number at a token, or -1; a PERSON's -/
noncomputable def ho (T : TX) (L : PH) (s : Nat) : Int := if isN T s then nmH T L s else -1
noncomputable def pe (T : TX) (L : PH) (s : Nat) : Int := if isN T s then nmP T L s else -1
noncomputable def noN (T : TX) (s : Nat) : PR := bad T (if isN T s then 3 else 2) s
noncomputable def semi (T : TX) (s : Nat) (L : PH) : PR := if isG T s 59 then .inr (nt T s, L) else bad T 2 s
noncomputable def pNew (T : TX) (s : Nat) (L : PH) (k : PR) : PR := if isN T s then (if nmH T L s ≠ -1 ∨ nmP T L s ≠ -1 then bad T 3 s else k) else bad T 2 s
noncomputable def tk (T : TX) (s : Nat) (w : Int) : Nat := if isW T s w then nt T s else s
noncomputable def pHouse (T : TX) (s : Nat) (L : PH) : PR := if 7 ≤ L 1 0 then bad T 6 s else pNew T (nt T s) L (semi T (tk T (nt T (nt T s)) 1) (if isW T (nt T (nt T s)) 1 then uph (uph (uph L 9 (L 1 0).toNat (wc T (nt T s))) 1 0 (L 1 0 + 1)) 1 1 (zor (L 1 1) (zshl 1 (L 1 0))) else uph (uph L 9 (L 1 0).toNat (wc T (nt T s))) 1 0 (L 1 0 + 1)))
def hang (L : PH) (x y : Int) : PH := uph (uph L 2 x.toNat (zor (L 2 x.toNat) (zshl 1 y))) 2 y.toNat (zor (uph L 2 x.toNat (zor (L 2 x.toNat) (zshl 1 y)) 2 y.toNat) (zshl 1 x))
noncomputable def pDoor (T : TX) (s : Nat) (L : PH) : PR := if ho T L (nt T s) = -1 then noN T (nt T s) else if ho T L (nt T (nt T s)) = -1 then noN T (nt T (nt T s)) else if ho T L (nt T s) = ho T L (nt T (nt T s)) then bad T 5 (nt T (nt T s)) else semi T (nt T (nt T (nt T s))) (hang L (ho T L (nt T s)) (ho T L (nt T (nt T s))))
noncomputable def sbt (T : TX) (s : Nat) (w p : Int) : Int := if isW T s w then zshl 1 p else 0
/-- a PERSON behind its HOUSE x: what is said of it -/
noncomputable def pPers2 (T : TX) (s : Nat) (L : PH) (x : Int) : PR := semi T (tk T (tk T (tk T s 5) 6) 7) (uph (uph (uph (uph (uph (uph L 11 (L 0 4).toNat x) 12 (L 0 4).toNat x) 0 7 (zor (L 0 7) (sbt T s 5 (L 0 4)))) 0 8 (zor (L 0 8) (sbt T (tk T s 5) 6 (L 0 4)))) 0 9 (zor (L 0 9) (sbt T (tk T (tk T s 5) 6) 7 (L 0 4)))) 0 4 (L 0 4 + 1))
noncomputable def pPerson (T : TX) (s : Nat) (L : PH) : PR := if 8 ≤ L 0 4 then bad T 6 s else pNew T (nt T s) L (if isW T (nt T (nt T s)) 4 then (if ho T L (nt T (nt T (nt T s))) = -1 then noN T (nt T (nt T (nt T s))) else pPers2 T (nt T (nt T (nt T (nt T s)))) (uph L 10 (L 0 4).toNat (wc T (nt T s))) (ho T L (nt T (nt T (nt T s))))) else bad T 2 (nt T (nt T s)))
/-- two different PERSONS -/
noncomputable def pTwo (T : TX) (s : Nat) (L : PH) (k : Int → Int → PR) : PR := if pe T L (nt T s) = -1 then noN T (nt T s) else if pe T L (nt T (nt T s)) = -1 then noN T (nt T (nt T s)) else if pe T L (nt T (nt T s)) = pe T L (nt T s) then bad T 5 (nt T (nt T s)) else k (pe T L (nt T s)) (pe T L (nt T (nt T s)))
def owe (L : PH) (x y v : Int) : PH := uph (uph L 8 x.toNat (L 8 x.toNat + (v - L 7 (8 * x.toNat + y.toNat)))) 7 (8 * x.toNat + y.toNat) v
noncomputable def pOwes (T : TX) (s : Nat) (L : PH) : PR := pTwo T s L (fun x y => if kd T (nt T (nt T (nt T s))) = 3 then (if 0 ≤ vl T (nt T (nt T (nt T s))) ∧ vl T (nt T (nt T (nt T s))) ≤ 99 then semi T (nt T (nt T (nt T (nt T s)))) (owe L x y (vl T (nt T (nt T (nt T s))))) else bad T 4 (nt T (nt T (nt T s)))) else bad T 2 (nt T (nt T (nt T s))))
noncomputable def pHeir (T : TX) (s : Nat) (L : PH) : PR := pTwo T s L (fun x y => if fd (fun k => L 13 (3 * x.toNat + k)) y (L 14 x.toNat).toNat ≠ -1 then bad T 5 (nt T (nt T s)) else if 3 ≤ L 14 x.toNat then bad T 6 (nt T (nt T s)) else semi T (nt T (nt T (nt T s))) (uph (uph L 13 (3 * x.toNat + (L 14 x.toNat).toNat) y) 14 x.toNat (L 14 x.toNat + 1)))
noncomputable def pPart (T : TX) (s : Nat) (L : PH) : PR := if isW T s 0 then pHouse T s L else if isW T s 2 then pDoor T s L else if isW T s 3 then pPerson T s L else if isW T s 8 then pOwes T s L else if isW T s 9 then pHeir T s L else bad T 2 s
noncomputable def pl (T : TX) : Nat → Nat → PH → PR
  | 0, s, L => .inr (s, L)
  | f + 1, s, L => if kd T s = 0 then .inr (s, L) else (match pPart T s L with
    | .inl q => .inl q
    | .inr q => pl T f q.1 q.2)
/-- n numbers from i on together -/
def rs (g : Nat → Int) (i : Nat) : Nat → Int
  | 0 => 0
  | n + 1 => rs g i n + g (i + n)
theorem rs_cg {g g' : Nat → Int} {i : Nat} : ∀ (n : Nat), (∀ k, i ≤ k → k < i + n → g k = g' k) → rs g i n = rs g' i n
  | 0, _ => rfl
  | n + 1, h => by
    show rs g i n + g (i + n) = rs g' i n + g' (i + n)
    rw [rs_cg n (fun k a b => h k a (by omega)), h (i + n) (by omega) (by omega)]
theorem rs_up {g : Nat → Int} {i a : Nat} {v : Int} : ∀ (n : Nat), rs (fun k => if k = a then v else g k) i n = rs g i n + (if i ≤ a ∧ a < i + n then v - g a else 0)
  | 0 => by rw [if_neg (by omega)]; rfl
  | n + 1 => by
    show rs (fun k => if k = a then v else g k) i n + (if i + n = a then v else g (i + n)) = rs g i n + g (i + n) + _
    rw [rs_up n]
    by_cases e : i + n = a
    · rw [if_pos e, if_neg (by omega), if_pos (by omega), ← e]
      omega
    · rw [if_neg e]
      by_cases e2 : i ≤ a ∧ a < i + n
      · rw [if_pos e2, if_pos (by omega)]
        omega
      · rw [if_neg e2, if_neg (by omega)]
        omega
theorem rs_b {g : Nat → Int} {i : Nat} {lo hi : Int} : ∀ (n : Nat), (∀ k, i ≤ k → k < i + n → lo ≤ g k ∧ g k ≤ hi) → lo * n ≤ rs g i n ∧ rs g i n ≤ hi * n
  | 0, _ => by
    show lo * ((0 : Nat) : Int) ≤ 0 ∧ 0 ≤ hi * ((0 : Nat) : Int)
    simp
  | n + 1, h => by
    have a := rs_b n (fun k a b => h k a (by omega))
    have b := h (i + n) (by omega) (by omega)
    show lo * ((n + 1 : Nat) : Int) ≤ rs g i n + g (i + n) ∧ rs g i n + g (i + n) ≤ hi * ((n + 1 : Nat) : Int)
    rw [Int.natCast_add, Int.mul_add, Int.mul_add]
    omega
/-- a bit of a set; a set of numbers below n -/
def bt (v : Int) (i : Nat) : Int := zand (zshr v i) 1
theorem bt_or : ∀ s : Nat, s < 256 → ∀ n : Nat, n < 8 → (0 ≤ zor (s : Int) (zshl 1 (n : Int)) ∧ zor (s : Int) (zshl 1 (n : Int)) < 256 ∧ zor (s : Int) 0 = s) ∧ ∀ j : Nat, j < 8 → bt (zor (s : Int) (zshl 1 (n : Int))) j = if j = n then 1 else bt s j := by decide +kernel
def SB (v n : Int) : Prop := 0 ≤ v ∧ v < 256 ∧ ∀ i : Nat, i < 8 → n ≤ (i : Int) → bt v i = 0
theorem SB.mo {v n m : Int} (h : SB v n) (hm : n ≤ m) : SB v m := ⟨h.1, h.2.1, fun i hi hn => h.2.2 i hi (by omega)⟩
theorem SB.add {v n : Int} (h : SB v n) (h0 : 0 ≤ n) (h8 : n < 8) : SB (zor v (zshl 1 n)) (n + 1) ∧ ∀ j : Nat, j < 8 → bt (zor v (zshl 1 n)) j = if (j : Int) = n then 1 else bt v j := by
  obtain ⟨a, b⟩ := bt_or v.toNat (by have := h.1; have := h.2.1; omega) n.toNat (by omega)
  rw [Int.toNat_of_nonneg h.1, Int.toNat_of_nonneg h0] at a b
  refine ⟨⟨a.1, a.2.1, fun i hi hn => ?_⟩, fun j hj => ?_⟩
  · rw [b i hi, if_neg (by omega)]
    exact h.2.2 i hi (by omega)
  · rw [b j hj]
    by_cases e : (j : Int) = n
    · rw [if_pos e, if_pos (by omega)]
    · rw [if_neg e, if_neg (by omega)]
theorem SB.or0 {v n : Int} (h : SB v n) : zor v 0 = v := by
  obtain ⟨a, -⟩ := bt_or v.toNat (by have := h.1; have := h.2.1; omega) 0 (by omega)
  have c := a.2.2
  rw [Int.toNat_of_nonneg h.1] at c
  exact c
theorem SB.z (n : Int) : SB 0 n := ⟨by omega, by omega, fun i hi _ => by
  have : ∀ i : Nat, i < 8 → bt 0 i = 0 := by decide +kernel
  exact this i hi⟩
/-- what fits of a LAND's numbers while it is read -/
def WS (L : PH) : Prop := SB (L 1 1) (L 1 0) ∧ SB (L 0 7) (L 0 4) ∧ SB (L 0 8) (L 0 4) ∧ SB (L 0 9) (L 0 4)
def WL (L : PH) : Prop := (0 ≤ L 1 0 ∧ L 1 0 ≤ 7) ∧ (0 ≤ L 0 4 ∧ L 0 4 ≤ 8) ∧ (∀ p : Nat, p < 8 → 0 ≤ L 14 p ∧ L 14 p ≤ 3) ∧ (∀ p : Nat, p < 8 → L 8 p = rs (L 7) (8 * p) 8) ∧ (∀ a : Nat, a < 64 → 0 ≤ L 7 a ∧ L 7 a ≤ 99) ∧ WS L
theorem WL.s {L : PH} (h : WL L) : WS L := h.2.2.2.2.2
theorem WS.kp {L L' : PH} (h : WS L) (hF : ∀ j k : Nat, j = 0 ∨ j = 1 → L' j k = L j k) : WS L' := by
  unfold WS
  rw [hF 1 1 (by omega), hF 1 0 (by omega), hF 0 7 (by omega), hF 0 8 (by omega), hF 0 9 (by omega), hF 0 4 (by omega)]
  exact h
theorem WS.of {L : PH} {a n d f k p : Int} (e1 : L 1 1 = a) (e2 : L 1 0 = n) (e3 : L 0 7 = d) (e4 : L 0 8 = f) (e5 : L 0 9 = k) (e6 : L 0 4 = p) (h : SB a n ∧ SB d p ∧ SB f p ∧ SB k p) : WS L := by
  unfold WS
  rw [e1, e2, e3, e4, e5, e6]
  exact h
theorem WL.kp {L L' : PH} (hW : WL L) (hF : ∀ j k : Nat, j = 14 ∨ j = 8 ∨ j = 7 → L' j k = L j k) (h1 : 0 ≤ L' 1 0 ∧ L' 1 0 ≤ 7) (h2 : 0 ≤ L' 0 4 ∧ L' 0 4 ≤ 8) (h3 : WS L') : WL L' := ⟨h1, h2, fun p hp => by rw [hF 14 p (by omega)]; exact hW.2.2.1 p hp, fun p hp => by rw [hF 8 p (by omega), hW.2.2.2.1 p hp]; exact rs_cg 8 (fun k _ _ => (hF 7 k (by omega)).symm), fun a ha => by rw [hF 7 a (by omega)]; exact hW.2.2.2.2.1 a ha, h3⟩
theorem WL.tot {L : PH} (hW : WL L) {p : Nat} (hp : p < 8) : 0 ≤ L 8 p ∧ L 8 p ≤ 792 := by
  rw [hW.2.2.2.1 p hp]
  have := rs_b (g := L 7) (i := 8 * p) (lo := 0) (hi := 99) 8 (fun k a b => hW.2.2.2.2.1 k (by omega))
  omega
theorem WL.ow {L : PH} (hW : WL L) {x y v : Int} (hx : 0 ≤ x ∧ x < 8) (hy : 0 ≤ y ∧ y < 8) (hv : 0 ≤ v ∧ v ≤ 99) : WL (owe L x y v) := by
  generalize ha : x.toNat = X
  generalize hb : y.toNat = Y
  have h8 : ∀ k, owe L x y v 8 k = if k = X then L 8 X + (v - L 7 (8 * X + Y)) else L 8 k := fun k => by
    unfold owe
    rw [ha, hb, up_ne (by omega), up_rd]
    by_cases e : k = X
    · rw [if_pos ⟨rfl, e⟩, if_pos e]
    · rw [if_neg (fun q => e q.2), if_neg e]
  have h7 : owe L x y v 7 = fun k => if k = 8 * X + Y then v else L 7 k := funext (fun k => by
    unfold owe
    rw [ha, hb, up_rd]
    by_cases e : k = 8 * X + Y
    · rw [if_pos ⟨rfl, e⟩, if_pos e]
    · rw [if_neg (fun q => e q.2), if_neg e, up_ne (by omega)])
  have hO : ∀ j k, j ≠ 8 → j ≠ 7 → owe L x y v j k = L j k := fun j k a b => by
    unfold owe
    rw [up_ne (by omega), up_ne (by omega)]
  refine ⟨by rw [hO 1 0 (by omega) (by omega)]; exact hW.1, by rw [hO 0 4 (by omega) (by omega)]; exact hW.2.1, fun p hp => by rw [hO 14 p (by omega) (by omega)]; exact hW.2.2.1 p hp, fun p hp => ?_, fun a h => ?_, hW.s.kp (fun j k q => hO j k (by omega) (by omega))⟩
  · rw [h8, h7, rs_up]
    by_cases e : p = X
    · subst e
      rw [if_pos rfl, if_pos (by omega), hW.2.2.2.1 p hp]
    · rw [if_neg e, if_neg (by omega), hW.2.2.2.1 p hp]
      omega
  · rw [h7]
    dsimp only
    by_cases e : a = 8 * X + Y
    · rw [if_pos e]; exact hv
    · rw [if_neg e]; exact hW.2.2.2.2.1 a h
/-- a LAND of the class, at cells from b on -/
def inL (j k : Nat) : Prop := (j = 0 ∧ (k = 4 ∨ k = 7 ∨ k = 8 ∨ k = 9 ∨ k = 12 ∨ k = 13)) ∨ (j = 1 ∧ k < 2) ∨ (j = 2 ∧ k < 7) ∨ (j = 3 ∧ k < 49) ∨ (j = 4 ∧ k < 49) ∨ (j = 7 ∧ k < 64) ∨ (j = 8 ∧ k < 8) ∨ (j = 9 ∧ k < 7) ∨ (j = 10 ∧ k < 8) ∨ (j = 11 ∧ k < 8) ∨ (j = 12 ∧ k < 8) ∨ (j = 13 ∧ k < 24) ∨ (j = 14 ∧ k < 8) ∨ (j = 15 ∧ k < 7)
theorem il1 {k : Nat} (h : k < 2) : inL 1 k := Or.inr (Or.inl ⟨rfl, h⟩)
theorem il2 {k : Nat} (h : k < 7) : inL 2 k := Or.inr (Or.inr (Or.inl ⟨rfl, h⟩))
theorem il3 {k : Nat} (h : k < 49) : inL 3 k := Or.inr (Or.inr (Or.inr (Or.inl ⟨rfl, h⟩)))
theorem il4 {k : Nat} (h : k < 49) : inL 4 k := Or.inr (Or.inr (Or.inr (Or.inr (Or.inl ⟨rfl, h⟩))))
theorem il7 {k : Nat} (h : k < 64) : inL 7 k := Or.inr (Or.inr (Or.inr (Or.inr (Or.inr (Or.inl ⟨rfl, h⟩)))))
theorem il8 {k : Nat} (h : k < 8) : inL 8 k := Or.inr (Or.inr (Or.inr (Or.inr (Or.inr (Or.inr (Or.inl ⟨rfl, h⟩))))))
theorem il9 {k : Nat} (h : k < 7) : inL 9 k := Or.inr (Or.inr (Or.inr (Or.inr (Or.inr (Or.inr (Or.inr (Or.inl ⟨rfl, h⟩)))))))
theorem il10 {k : Nat} (h : k < 8) : inL 10 k := Or.inr (Or.inr (Or.inr (Or.inr (Or.inr (Or.inr (Or.inr (Or.inr (Or.inl ⟨rfl, h⟩))))))))
theorem il11 {k : Nat} (h : k < 8) : inL 11 k := Or.inr (Or.inr (Or.inr (Or.inr (Or.inr (Or.inr (Or.inr (Or.inr (Or.inr (Or.inl ⟨rfl, h⟩)))))))))
theorem il13 {k : Nat} (h : k < 24) : inL 13 k := Or.inr (Or.inr (Or.inr (Or.inr (Or.inr (Or.inr (Or.inr (Or.inr (Or.inr (Or.inr (Or.inr (Or.inl ⟨rfl, h⟩)))))))))))
theorem il14 {k : Nat} (h : k < 8) : inL 14 k := Or.inr (Or.inr (Or.inr (Or.inr (Or.inr (Or.inr (Or.inr (Or.inr (Or.inr (Or.inr (Or.inr (Or.inr (Or.inl ⟨rfl, h⟩))))))))))))
theorem il15 {k : Nat} (h : k < 7) : inL 15 k := Or.inr (Or.inr (Or.inr (Or.inr (Or.inr (Or.inr (Or.inr (Or.inr (Or.inr (Or.inr (Or.inr (Or.inr (Or.inr (⟨rfl, h⟩)))))))))))))
def CL (b : Nat) (h L : PH) : Prop := ∀ j k : Nat, inL j k → h (b + j) k = L j k
theorem CL.up {b : Nat} {h L : PH} (hL : CL b h L) (j k : Nat) (v : Int) : CL b (uph h (b + j) k v) (uph L j k v) := fun j' k' hi => by
  rw [up_rd, up_rd]
  by_cases e : j' = j ∧ k' = k
  · rw [if_pos e, if_pos ⟨by omega, e.2⟩]
  · rw [if_neg e, if_neg (fun q => e ⟨by omega, q.2⟩)]
    exact hL j' k' hi
theorem CL.fr {b : Nat} {h h' L : PH} (hL : CL b h L) (hF : ∀ c k : Nat, b ≤ c → c ≤ b + 15 → h' c k = h c k) : CL b h' L := fun j k hi => by
  rw [hF (b + j) k (by omega) (by unfold inL at hi; omega)]
  exact hL j k hi
/-- no FAULT yet, at a token; a FAULT -/
def CN (T : TX) (h : PH) (s : Nat) : Prop := CTk T h s ∧ h 2 10 = 0 ∧ h 2 11 = -1
def CF (h : PH) (a : Int) (s : Nat) : Prop := h 2 10 = a ∧ h 2 11 = (s : Int) ∧ a ≠ 0
def FT (h h' : PH) : Prop := ∀ c k : Nat, ¬ (c = 2 ∧ 4 ≤ k ∧ k ≤ 11) → h' c k = h c k
def FP (h h' : PH) : Prop := ∀ c k : Nat, ¬ ((c = 2 ∧ 4 ≤ k ∧ k ≤ 11) ∨ (27 ≤ c ∧ c ≤ 42)) → h' c k = h c k
theorem FT.tr {h h1 h2 : PH} (a : FT h h1) (b : FT h1 h2) : FT h h2 := fun c k q => by rw [b c k q, a c k q]
theorem FP.tr {h h1 h2 : PH} (a : FP h h1) (b : FP h1 h2) : FP h h2 := fun c k q => by rw [b c k q, a c k q]
theorem FT.P {h h' : PH} (a : FT h h') : FP h h' := fun c k q => a c k (by omega)
theorem FP.rf (h : PH) : FP h h := fun _ _ _ => rfl
theorem FT.rf (h : PH) : FT h h := fun _ _ _ => rfl
theorem FP.up {h h' : PH} (a : FP h h') {c k : Nat} {v : Int} (hc : 27 ≤ c ∧ c ≤ 42) : FP h (uph h' c k v) := fun c' k' q => by rw [up_ne (by omega)]; exact a c' k' q
theorem FT.L {b : Nat} {h h' L : PH} (a : FT h h') (hL : CL b h L) (hb : 3 ≤ b) : CL b h' L := hL.fr (fun c k _ _ => a c k (by omega))
theorem CN.kp {T : TX} {h h' : PH} {s : Nat} (hX : CN T h s) (hF : ∀ c k : Nat, c = 2 ∨ c = 3 ∨ c = 4 → h' c k = h c k) : CN T h' s := ⟨hX.1.kp (fun c k q => hF c k (by omega)), by rw [hF 2 10 (by omega)]; exact hX.2.1, by rw [hF 2 11 (by omega)]; exact hX.2.2⟩
theorem CN.up {T : TX} {h : PH} {s : Nat} (hX : CN T h s) {c k : Nat} {v : Int} (hc : 5 ≤ c) : CN T (uph h c k v) s := hX.kp (fun c' k' q => up_ne (by omega))
/-- a part is read: a FAULT, or a token and a LAND -/
def CO (T : TX) (b : Nat) (v : Int) (h : PH) (r : PR) : Prop := match r with
  | .inl q => v = 0 ∧ CF h q.1 q.2
  | .inr q => v = 1 ∧ CN T h q.1 ∧ CL b h q.2 ∧ WL q.2
end
section
/-! 45z.53.ctok -/
set_option maxRecDepth 10000 in
theorem v_X9_goesOn {sl : Nat} {si : Nat → Int} {fm : ZV} {K : Nat → PH → ZL → List ZV → Prop} {Q : PH → List ZV → Prop} {h : PH} (H : R32 (h 2 10) → ((h 2 10) ≠ 0 → Q h [(0, 0)]) ∧ (¬ ((h 2 10) ≠ 0) → R32 (h 2 5) → ((h 2 5) = 0 → Q h [(0, 0)]) ∧ (¬ ((h 2 5) = 0) → Q h [(0, 1)]))) : vc (zz sl si fm) (fun _ => false) K Q mX9_goesOn 11 0 mX9_goesOn.2.2.2.2.2.2 h [(0, (2, 2))] [] := H
theorem c_X9_goesOn {sl : Nat} {si : Nat → Int} {fm : ZV} {h h' : PH} {v : Int} (hc : CP (zz sl si fm) mX9_goesOn h [(2, 2)] h' [(0, v)]) : h' = h ∧ (v = 1 ↔ h 2 10 = 0 ∧ h 2 5 ≠ 0) := by
  have q := cp_vc (K := fun _ _ _ _ => True) (Q := fun xh r => xh = h ∧ ∀ v, r = [(0, v)] → (v = 1 ↔ h 2 10 = 0 ∧ h 2 5 ≠ 0)) (v_X9_goesOn (fun r1 => ⟨fun c2 => (by exact ⟨rfl, fun v e => by cases e; omega⟩), fun c2 => (fun r3 => ⟨fun c4 => (by exact ⟨rfl, fun v e => by cases e; omega⟩), fun c4 => (by exact ⟨rfl, fun v e => by cases e; omega⟩)⟩)⟩)) (fun _ _ _ _ z _ => Bool.noConfusion z) hc
  exact ⟨q.1, q.2 v rfl⟩
set_option maxRecDepth 10000 in
theorem v_X9_isWord {sl : Nat} {si : Nat → Int} {fm : ZV} {K : Nat → PH → ZL → List ZV → Prop} {Q : PH → List ZV → Prop} {h : PH} {a : Int} (H : R32 (h 2 5) → ((h 2 5) ≠ 2 → Q h [(0, 0)]) ∧ (¬ ((h 2 5) ≠ 2) → R32 (h 2 8) → ((h 2 8) ≠ a → Q h [(0, 0)]) ∧ (¬ ((h 2 8) ≠ a) → Q h [(0, 1)]))) : vc (zz sl si fm) (fun _ => false) K Q mX9_isWord 13 0 mX9_isWord.2.2.2.2.2.2 h [(0, (2, 2)), (1, (0, a))] [] := H
theorem c_X9_isWord {sl : Nat} {si : Nat → Int} {fm : ZV} {h h' : PH} {a : Int} {v : Int} (hc : CP (zz sl si fm) mX9_isWord h [(2, 2), (0, a)] h' [(0, v)]) : h' = h ∧ (v = 1 ↔ h 2 5 = 2 ∧ h 2 8 = a) := by
  have q := cp_vc (K := fun _ _ _ _ => True) (Q := fun xh r => xh = h ∧ ∀ v, r = [(0, v)] → (v = 1 ↔ h 2 5 = 2 ∧ h 2 8 = a)) (v_X9_isWord (fun r1 => ⟨fun c2 => (by exact ⟨rfl, fun v e => by cases e; omega⟩), fun c2 => (fun r3 => ⟨fun c4 => (by exact ⟨rfl, fun v e => by cases e; omega⟩), fun c4 => (by exact ⟨rfl, fun v e => by cases e; omega⟩)⟩)⟩)) (fun _ _ _ _ z _ => Bool.noConfusion z) hc
  exact ⟨q.1, q.2 v rfl⟩
set_option maxRecDepth 10000 in
theorem v_X9_isName {sl : Nat} {si : Nat → Int} {fm : ZV} {K : Nat → PH → ZL → List ZV → Prop} {Q : PH → List ZV → Prop} {h : PH} (H : R32 (h 2 5) → ((h 2 5) ≠ 2 → Q h [(0, 0)]) ∧ (¬ ((h 2 5) ≠ 2) → R32 (h 2 8) → ((h 2 8) ≠ (-1) → Q h [(0, 0)]) ∧ (¬ ((h 2 8) ≠ (-1)) → R64 (h 2 7) → ((zcmp (h 2 7) 0) = 0 → Q h [(0, 0)]) ∧ (¬ ((zcmp (h 2 7) 0) = 0) → Q h [(0, 1)])))) : vc (zz sl si fm) (fun _ => false) K Q mX9_isName 18 0 mX9_isName.2.2.2.2.2.2 h [(0, (2, 2))] [] := H
theorem c_X9_isName {sl : Nat} {si : Nat → Int} {fm : ZV} {h h' : PH} {v : Int} (hc : CP (zz sl si fm) mX9_isName h [(2, 2)] h' [(0, v)]) : h' = h ∧ (v = 1 ↔ h 2 5 = 2 ∧ h 2 8 = -1 ∧ h 2 7 ≠ 0) := by
  have q := cp_vc (K := fun _ _ _ _ => True) (Q := fun xh r => xh = h ∧ ∀ v, r = [(0, v)] → (v = 1 ↔ h 2 5 = 2 ∧ h 2 8 = -1 ∧ h 2 7 ≠ 0)) (v_X9_isName (fun r1 => ⟨fun c2 => (by exact ⟨rfl, fun v e => by cases e; (have z := @zcmp_0 (h 2 7) 0; omega)⟩), fun c2 => (fun r3 => ⟨fun c4 => (by exact ⟨rfl, fun v e => by cases e; (have z := @zcmp_0 (h 2 7) 0; omega)⟩), fun c4 => (fun r5 => ⟨fun c6 => (by exact ⟨rfl, fun v e => by cases e; (have z := @zcmp_0 (h 2 7) 0; omega)⟩), fun c6 => (by exact ⟨rfl, fun v e => by cases e; (have z := @zcmp_0 (h 2 7) 0; omega)⟩)⟩)⟩)⟩)) (fun _ _ _ _ z _ => Bool.noConfusion z) hc
  exact ⟨q.1, q.2 v rfl⟩
theorem wd_iff {T : TX} {h : PH} {s : Nat} {a : Int} (hN : CN T h s) : (h 2 5 = 2 ∧ h 2 8 = a) ↔ isW T s a := by
  obtain ⟨⟨-, -, -, e, -, f, -⟩, -⟩ := hN
  constructor
  · intro q
    have k : kd T s = 2 := by rw [← e]; exact q.1
    exact ⟨k, by rw [← (f k).2]; exact q.2⟩
  · intro q
    exact ⟨by rw [e]; exact q.1, by rw [(f q.1).2]; exact q.2⟩
theorem nm_iff {T : TX} {h : PH} {s : Nat} (hN : CN T h s) : (h 2 5 = 2 ∧ h 2 8 = -1 ∧ h 2 7 ≠ 0) ↔ isN T s := by
  obtain ⟨⟨-, -, -, e, -, f, -⟩, -⟩ := hN
  constructor
  · intro q
    have k : kd T s = 2 := by rw [← e]; exact q.1
    exact ⟨k, by rw [← (f k).2]; exact q.2.1, by rw [← (f k).1]; exact q.2.2⟩
  · intro q
    exact ⟨by rw [e]; exact q.1, by rw [(f q.1).2]; exact q.2.1, by rw [(f q.1).1]; exact q.2.2⟩
theorem CN.ek {T : TX} {h : PH} {s : Nat} (hN : CN T h s) : h 2 5 = kd T s := hN.1.2.2.2.1
theorem CN.ev {T : TX} {h : PH} {s : Nat} (hN : CN T h s) (q : kd T s = 3 ∨ kd T s = 4) : h 2 9 = vl T s := hN.1.2.2.2.2.2.2 q
theorem CN.en {T : TX} {h : PH} {s : Nat} (hN : CN T h s) (q : kd T s = 2) : h 2 7 = wc T s := (hN.1.2.2.2.2.2.1 q).1
theorem CN.es {T : TX} {h : PH} {s : Nat} (hN : CN T h s) : h 2 6 = (s : Int) := hN.1.2.2.2.2.1
/-- the next token -/
theorem c_adv {sl : Nat} {si : Nat → Int} {fm : ZV} {h h' : PH} {T : TX} {s : Nat} (hN : CN T h s) (hc : CP (zz sl si fm) mX9_advance h [(2, 2)] h' []) : CN T h' (nt T s) ∧ FT h h' := by
  obtain ⟨a, b⟩ := c_X9_advance hN.1.1 (nx_b hN.1.2.1).2.1 hN.1.2.2.1 hc
  exact ⟨⟨a, by rw [b 2 10 (by omega)]; exact hN.2.1, by rw [b 2 11 (by omega)]; exact hN.2.2⟩, fun c k q => b c k (by omega)⟩
set_option maxRecDepth 10000 in
theorem v_X9_fail {sl : Nat} {si : Nat → Int} {fm : ZV} {K : Nat → PH → ZL → List ZV → Prop} {Q : PH → List ZV → Prop} {h : PH} {a : Int} (H : R32 (h 2 10) → ((h 2 10) ≠ 0 → Q h [(0, 0)]) ∧ (¬ ((h 2 10) ≠ 0) → R32 (h 2 5) → ((h 2 5) ≠ 1 → R32 (h 2 6) → Q (uph (uph h 2 10 a) 2 11 (h 2 6)) [(0, 0)]) ∧ (¬ ((h 2 5) ≠ 1) → R32 (h 2 6) → Q (uph (uph h 2 10 1) 2 11 (h 2 6)) [(0, 0)]))) : vc (zz sl si fm) (fun _ => false) K Q mX9_fail 19 0 mX9_fail.2.2.2.2.2.2 h [(0, (2, 2)), (1, (0, a))] [] := H
theorem c_X9_fail {sl : Nat} {si : Nat → Int} {fm : ZV} {h h' : PH} {a : Int} {v : Int} (hc : CP (zz sl si fm) mX9_fail h [(2, 2), (0, a)] h' [(0, v)]) : v = 0 ∧ (h 2 10 ≠ 0 → h' = h) ∧ (h 2 10 = 0 → h' = uph (uph h 2 10 (if h 2 5 = 1 then 1 else a)) 2 11 (h 2 6)) := by
  have q := cp_vc (K := fun _ _ _ _ => True) (Q := fun (xh : PH) (r : List ZV) => ∀ v : Int, r = [(0, v)] → (v = 0 ∧ (h 2 10 ≠ 0 → xh = h) ∧ (h 2 10 = 0 → xh = uph (uph h 2 10 (if h 2 5 = 1 then 1 else a)) 2 11 (h 2 6)))) (v_X9_fail (fun r1 => ⟨fun c2 => (by (intro v e; cases e; (refine ⟨rfl, fun z => ?_, fun z => ?_⟩ <;> first | rfl | (exfalso; omega) | (rw [if_pos (by omega)]) | (rw [if_neg (by omega)])))), fun c2 => (fun r3 => ⟨fun c4 => (fun r5 => (by (intro v e; cases e; (refine ⟨rfl, fun z => ?_, fun z => ?_⟩ <;> first | rfl | (exfalso; omega) | (rw [if_pos (by omega)]) | (rw [if_neg (by omega)]))))), fun c4 => (fun r6 => (by (intro v e; cases e; (refine ⟨rfl, fun z => ?_, fun z => ?_⟩ <;> first | rfl | (exfalso; omega) | (rw [if_pos (by omega)]) | (rw [if_neg (by omega)])))))⟩)⟩)) (fun _ _ _ _ z _ => Bool.noConfusion z) hc
  exact q v rfl
theorem c_fl {sl : Nat} {si : Nat → Int} {fm : ZV} {h h' : PH} {T : TX} {s : Nat} {a v : Int} (hN : CN T h s) (ha : a ≠ 0) (hc : CP (zz sl si fm) mX9_fail h [(2, 2), (0, a)] h' [(0, v)]) : v = 0 ∧ CF h' (fltk T a s) s ∧ FT h h' := by
  obtain ⟨e1, -, e2⟩ := c_X9_fail hc
  have e := e2 hN.2.1
  subst e
  refine ⟨e1, ⟨?_, ?_, ?_⟩, fun c k q => by rw [up_ne (by omega), up_ne (by omega)]⟩
  · rw [up_ne (by omega), up_sm, hN.ek]; rfl
  · rw [up_sm, hN.es]
  · unfold fltk
    split <;> omega
set_option maxRecDepth 10000 in
theorem v_X9_takeWord {sl : Nat} {si : Nat → Int} {fm : ZV} {K : Nat → PH → ZL → List ZV → Prop} {Q : PH → List ZV → Prop} {h : PH}   {a : Int} (H : ∀ h1 v1, CP (zz sl si fm) mX9_isWord h [(2, 2), (0, a)] h1 [(0, v1)] → v1 = 0 ∨ v1 = 1 → (v1 ≠ 0 → ∀ h2, CP (zz sl si fm) mX9_advance h1 [(2, 2)] h2 [] → Q h2 [(0, 1)]) ∧ (¬ (v1 ≠ 0) → ∀ h3 v3, CP (zz sl si fm) mX9_fail h1 [(2, 2), (0, 2)] h3 [(0, v3)] → v3 = 0 ∨ v3 = 1 → Q h3 [(0, v3)])) : vc (zz sl si fm) (fun _ => false) K Q mX9_takeWord 10 0 mX9_takeWord.2.2.2.2.2.2 h [(0, (2, 2)), (1, (0, a))] [] := H
set_option maxHeartbeats 600000 in
theorem c_X9_takeWord {sl : Nat} {si : Nat → Int} {fm : ZV} {h h' : PH} {T : TX} {s : Nat} {a : Int} {v : Int} (hN : CN T h s) (hc : CP (zz sl si fm) mX9_takeWord h [(2, 2), (0, a)] h' [(0, v)]) : (v = 1 → isW T s a ∧ CN T h' (nt T s)) ∧ (v = 0 → ¬ isW T s a ∧ CF h' (fltk T 2 s) s) ∧ FT h h' := by
  have q : (fun (xh : PH) (r : List ZV) => ∀ v : Int, r = [(0, v)] → ((v = 1 → isW T s a ∧ CN T xh (nt T s)) ∧ (v = 0 → ¬ isW T s a ∧ CF xh (fltk T 2 s) s) ∧ FT h xh)) h' [(0, v)] := by
    refine cp_vc (cut := (fun _ => false)) (K := fun p hx lv st => False) (Q := fun (xh : PH) (r : List ZV) => ∀ v : Int, r = [(0, v)] → ((v = 1 → isW T s a ∧ CN T xh (nt T s)) ∧ (v = 0 → ¬ isW T s a ∧ CF xh (fltk T 2 s) s) ∧ FT h xh)) (v_X9_takeWord ?_) (fun pc hx lv st hcut hK => ?_) hc
    · exact (fun h1 v1 p1 q1 => by obtain ⟨t1, e1⟩ := c_X9_isWord p1; have t1 := t1.symm; subst t1; exact ⟨fun c1 => (fun h2 p2 => (by intro v e; cases e; obtain ⟨a1, a2⟩ := c_adv hN p2; exact ⟨fun _ => ⟨(wd_iff hN).mp (e1.mp (by omega)), a1⟩, fun z => by omega, a2⟩)), fun c1 => (fun h3 v3 p3 q3 => (by intro v e; cases e; obtain ⟨a1, a2, a3⟩ := c_fl hN (by omega) p3; exact ⟨fun z => by omega, fun _ => ⟨fun z => by have := e1.mpr ((wd_iff hN).mpr z); omega, a2⟩, a3⟩))⟩)
    · exact hK.elim
  exact q v rfl
set_option maxRecDepth 10000 in
theorem v_X9_takeSemicolon {sl : Nat} {si : Nat → Int} {fm : ZV} {K : Nat → PH → ZL → List ZV → Prop} {Q : PH → List ZV → Prop} {h : PH}   (H : R32 (h 2 5) → ((h 2 5) ≠ 4 → ∀ h1 v1, CP (zz sl si fm) mX9_fail h [(2, 2), (0, 2)] h1 [(0, v1)] → v1 = 0 ∨ v1 = 1 → Q h1 [(0, v1)]) ∧ (¬ ((h 2 5) ≠ 4) → R32 (h 2 9) → ((h 2 9) = 59 → ∀ h2, CP (zz sl si fm) mX9_advance h [(2, 2)] h2 [] → Q h2 [(0, 1)]) ∧ (¬ ((h 2 9) = 59) → ∀ h3 v3, CP (zz sl si fm) mX9_fail h [(2, 2), (0, 2)] h3 [(0, v3)] → v3 = 0 ∨ v3 = 1 → Q h3 [(0, v3)]))) : vc (zz sl si fm) (fun _ => false) K Q mX9_takeSemicolon 14 0 mX9_takeSemicolon.2.2.2.2.2.2 h [(0, (2, 2))] [] := H
set_option maxHeartbeats 600000 in
theorem c_X9_takeSemicolon {sl : Nat} {si : Nat → Int} {fm : ZV} {h h' : PH} {T : TX} {s : Nat} {v : Int} (hN : CN T h s) (hc : CP (zz sl si fm) mX9_takeSemicolon h [(2, 2)] h' [(0, v)]) : (v = 1 → isG T s 59 ∧ CN T h' (nt T s)) ∧ (v = 0 → ¬ isG T s 59 ∧ CF h' (fltk T 2 s) s) ∧ FT h h' := by
  have q : (fun (xh : PH) (r : List ZV) => ∀ v : Int, r = [(0, v)] → ((v = 1 → isG T s 59 ∧ CN T xh (nt T s)) ∧ (v = 0 → ¬ isG T s 59 ∧ CF xh (fltk T 2 s) s) ∧ FT h xh)) h' [(0, v)] := by
    refine cp_vc (cut := (fun _ => false)) (K := fun p hx lv st => False) (Q := fun (xh : PH) (r : List ZV) => ∀ v : Int, r = [(0, v)] → ((v = 1 → isG T s 59 ∧ CN T xh (nt T s)) ∧ (v = 0 → ¬ isG T s 59 ∧ CF xh (fltk T 2 s) s) ∧ FT h xh)) (v_X9_takeSemicolon ?_) (fun pc hx lv st hcut hK => ?_) hc
    · exact (fun r1 => ⟨fun c2 => (fun h1 v1 p1 q1 => (by intro v e; cases e; rw [hN.ek] at c2; obtain ⟨a1, a2, a3⟩ := c_fl hN (by omega) p1; exact ⟨fun z => by omega, fun _ => ⟨fun z => c2 z.1, a2⟩, a3⟩)), fun c2 => (fun r3 => ⟨fun c4 => (fun h2 p2 => (by intro v e; cases e; rw [hN.ek] at c2; have k4 := Classical.not_not.mp c2; rw [hN.ev (Or.inr k4)] at c4; obtain ⟨a1, a2⟩ := c_adv hN p2; exact ⟨fun _ => ⟨⟨k4, c4⟩, a1⟩, fun z => by omega, a2⟩)), fun c4 => (fun h3 v3 p3 q3 => (by intro v e; cases e; rw [hN.ek] at c2; have k4 := Classical.not_not.mp c2; rw [hN.ev (Or.inr k4)] at c4; obtain ⟨a1, a2, a3⟩ := c_fl hN (by omega) p3; exact ⟨fun z => by omega, fun _ => ⟨fun z => c4 z.2, a2⟩, a3⟩))⟩)⟩)
    · exact hK.elim
  exact q v rfl
set_option maxRecDepth 10000 in
theorem v_X9_takeNumber {sl : Nat} {si : Nat → Int} {fm : ZV} {K : Nat → PH → ZL → List ZV → Prop} {Q : PH → List ZV → Prop} {h : PH}   {a b : Int} (H : R32 (h 2 5) → ((h 2 5) = 3 → R32 (h 2 9) → ((h 2 9) < a → ∀ h1 v1, CP (zz sl si fm) mX9_fail h [(2, 2), (0, 4)] h1 [(0, v1)] → v1 = 0 ∨ v1 = 1 → Q h1 [(0, (-1))]) ∧ (¬ ((h 2 9) < a) → R32 (h 2 9) → ((h 2 9) ≤ b → R32 (h 2 9) → ∀ h2, CP (zz sl si fm) mX9_advance h [(2, 2)] h2 [] → Q h2 [(0, (h 2 9))]) ∧ (¬ ((h 2 9) ≤ b) → ∀ h3 v3, CP (zz sl si fm) mX9_fail h [(2, 2), (0, 4)] h3 [(0, v3)] → v3 = 0 ∨ v3 = 1 → Q h3 [(0, (-1))]))) ∧ (¬ ((h 2 5) = 3) → ∀ h4 v4, CP (zz sl si fm) mX9_fail h [(2, 2), (0, 2)] h4 [(0, v4)] → v4 = 0 ∨ v4 = 1 → Q h4 [(0, (-1))])) : vc (zz sl si fm) (fun _ => false) K Q mX9_takeNumber 21 0 mX9_takeNumber.2.2.2.2.2.2 h [(0, (2, 2)), (1, (0, a)), (2, (0, b))] [] := H
set_option maxHeartbeats 600000 in
theorem c_X9_takeNumber {sl : Nat} {si : Nat → Int} {fm : ZV} {h h' : PH} {T : TX} {s : Nat} {a b : Int} {v : Int} (hN : CN T h s) (hab : 0 ≤ a) (hc : CP (zz sl si fm) mX9_takeNumber h [(2, 2), (0, a), (0, b)] h' [(0, v)]) : (v ≠ -1 → kd T s = 3 ∧ a ≤ vl T s ∧ vl T s ≤ b ∧ v = vl T s ∧ CN T h' (nt T s)) ∧ (v = -1 → (kd T s ≠ 3 ∧ CF h' (fltk T 2 s) s) ∨ (kd T s = 3 ∧ ¬ (a ≤ vl T s ∧ vl T s ≤ b) ∧ CF h' (fltk T 4 s) s)) ∧ FT h h' := by
  have q : (fun (xh : PH) (r : List ZV) => ∀ v : Int, r = [(0, v)] → ((v ≠ -1 → kd T s = 3 ∧ a ≤ vl T s ∧ vl T s ≤ b ∧ v = vl T s ∧ CN T xh (nt T s)) ∧ (v = -1 → (kd T s ≠ 3 ∧ CF xh (fltk T 2 s) s) ∨ (kd T s = 3 ∧ ¬ (a ≤ vl T s ∧ vl T s ≤ b) ∧ CF xh (fltk T 4 s) s)) ∧ FT h xh)) h' [(0, v)] := by
    refine cp_vc (cut := (fun _ => false)) (K := fun p hx lv st => False) (Q := fun (xh : PH) (r : List ZV) => ∀ v : Int, r = [(0, v)] → ((v ≠ -1 → kd T s = 3 ∧ a ≤ vl T s ∧ vl T s ≤ b ∧ v = vl T s ∧ CN T xh (nt T s)) ∧ (v = -1 → (kd T s ≠ 3 ∧ CF xh (fltk T 2 s) s) ∨ (kd T s = 3 ∧ ¬ (a ≤ vl T s ∧ vl T s ≤ b) ∧ CF xh (fltk T 4 s) s)) ∧ FT h xh)) (v_X9_takeNumber ?_) (fun pc hx lv st hcut hK => ?_) hc
    · exact (fun r1 => ⟨fun c2 => (fun r3 => ⟨fun c4 => (fun h1 v1 p1 q1 => (by intro v e; cases e; rw [hN.ek] at c2; rw [hN.ev (Or.inl c2)] at c4; obtain ⟨a1, a2, a3⟩ := c_fl hN (by omega) p1; exact ⟨fun z => by omega, fun _ => Or.inr ⟨c2, by omega, a2⟩, a3⟩)), fun c4 => (fun r5 => ⟨fun c6 => (fun r7 => (fun h2 p2 => (by intro v e; cases e; rw [hN.ek] at c2; rw [hN.ev (Or.inl c2)] at c4 c6; obtain ⟨a1, a2⟩ := c_adv hN p2; exact ⟨fun _ => ⟨c2, by omega, by omega, hN.ev (Or.inl c2), a1⟩, fun z => by rw [hN.ev (Or.inl c2)] at z; omega, a2⟩))), fun c6 => (fun h3 v3 p3 q3 => (by intro v e; cases e; rw [hN.ek] at c2; rw [hN.ev (Or.inl c2)] at c4 c6; obtain ⟨a1, a2, a3⟩ := c_fl hN (by omega) p3; exact ⟨fun z => by omega, fun _ => Or.inr ⟨c2, by omega, a2⟩, a3⟩))⟩)⟩), fun c2 => (fun h4 v4 p4 q4 => (by intro v e; cases e; rw [hN.ek] at c2; obtain ⟨a1, a2, a3⟩ := c_fl hN (by omega) p4; exact ⟨fun z => by omega, fun _ => Or.inl ⟨c2, a2⟩, a3⟩))⟩)
    · exact hK.elim
  exact q v rfl
theorem fd_cg {g g' : Nat → Int} {x : Int} : ∀ (n : Nat), (∀ i, i < n → g i = g' i) → fd g x n = fd g' x n
  | 0, _ => rfl
  | n + 1, h => by
    show (if fd g x n = -1 then (if g n = x then (n : Int) else -1) else fd g x n) = (if fd g' x n = -1 then (if g' n = x then (n : Int) else -1) else fd g' x n)
    rw [fd_cg n (fun i hi => h i (by omega)), h n (by omega)]
set_option maxRecDepth 10000 in
theorem v_X1_houseNamed {sl : Nat} {si : Nat → Int} {fm : ZV} {K : Nat → PH → ZL → List ZV → Prop} {Q : PH → List ZV → Prop} {h : PH} {x : Int} (H : K 2 h [(3, (0, 0)), (0, (2, 27)), (1, (1, x))] []) : vc (zz sl si fm) (fun p => Nat.beq p 2) K Q mX1_houseNamed 4 0 mX1_houseNamed.2.2.2.2.2.2 h [(0, (2, 27)), (1, (1, x))] [] := H
set_option maxRecDepth 10000 in
theorem v_X1_houseNamed_2 {sl : Nat} {si : Nat → Int} {fm : ZV} {K : Nat → PH → ZL → List ZV → Prop} {Q : PH → List ZV → Prop} {h : PH} {x : Int} {k : Int} (H : R32 (h 28 0) → ((h 28 0) ≤ k → Q h [(0, (-1))]) ∧ (¬ ((h 28 0) ≤ k) → 0 ≤ k ∧ k < (7 : Nat) → R64 (h 36 k.toNat) → ((zcmp (h 36 k.toNat) x) ≠ 0 → K 2 h [(3, (0, w32 (k + 1))), (0, (2, 27)), (1, (1, x))] []) ∧ (¬ ((zcmp (h 36 k.toNat) x) ≠ 0) → Q h [(0, k)]))) : vc (zz sl si fm) (fun p => Nat.beq p 2) K Q mX1_houseNamed 16 2 (ax_jmp mX1_houseNamed.2.2.2.2.2.2 2) h [(0, (2, 27)), (1, (1, x)), (3, (0, k))] [] := H
set_option maxHeartbeats 600000 in
theorem c_X1_houseNamed {sl : Nat} {si : Nat → Int} {fm : ZV} {h h' : PH} {x : Int} {v : Int} (hc : CP (zz sl si fm) mX1_houseNamed h [(2, 27), (1, x)] h' [(0, v)]) : h' = h ∧ v = fd (h 36) x (h 28 0).toNat := by
  have q : (fun (xh : PH) (r : List ZV) => ∀ v : Int, r = [(0, v)] → (xh = h ∧ v = fd (h 36) x (h 28 0).toNat)) h' [(0, v)] := by
    refine cp_vc (cut := (fun p => Nat.beq p 2)) (K := fun p hx lv st => (p = 2 ∧ lK (fun u : Nat => [(0, (2, 27)), (1, (1, x)), (3, (0, (u : Int)))]) (fun u hx => hx = h ∧ ∀ i : Nat, i < u → h 36 i ≠ x) p hx lv st)) (Q := fun (xh : PH) (r : List ZV) => ∀ v : Int, r = [(0, v)] → (xh = h ∧ v = fd (h 36) x (h 28 0).toNat)) (v_X1_houseNamed ?_) (fun pc hx lv st hcut hK => ?_) hc
    · exact (by exact ⟨rfl, rfl, 0, ⟨rfl, fun i q => by omega⟩, rfl, rfl, rfl, trivial⟩)
    · rcases hK with ⟨rfl, rfl, u, hJ, hs⟩
      · obtain ⟨rfl, j2⟩ := hJ
        exact ⟨_, _, hs, v_X1_houseNamed_2 (fun r1 => ⟨fun c2 => (by intro v e; cases e; exact ⟨rfl, (fd_no _ (fun i hi => j2 i (by omega))).symm⟩), fun c2 => (fun b3 r4 => ⟨fun c5 => (by refine ⟨rfl, rfl, u + 1, ⟨rfl, fun i hi => ?_⟩, rfl, rfl, wv (by omega) (by omega) (by omega), trivial⟩; by_cases e : i = u; (rw [e]; rw [Int.toNat_natCast] at c5; exact fun z => c5 (zcmp_0.mpr z)); exact j2 i (by omega)), fun c5 => (by intro v e; cases e; rw [Int.toNat_natCast] at c5; exact ⟨rfl, (fd_at _ u (by omega) j2 (zcmp_0.mp (Classical.not_not.mp c5))).symm⟩)⟩)⟩)⟩
  exact q v rfl
set_option maxRecDepth 10000 in
theorem v_X9_houseHere {sl : Nat} {si : Nat → Int} {fm : ZV} {K : Nat → PH → ZL → List ZV → Prop} {Q : PH → List ZV → Prop} {h : PH}    (H : ∀ h1 v1, CP (zz sl si fm) mX9_isName h [(2, 2)] h1 [(0, v1)] → v1 = 0 ∨ v1 = 1 → (v1 = 0 → (((-1) : Int) ≠ (-1) → Q h1 [(0, (-1))]) ∧ (¬ (((-1) : Int) ≠ (-1)) → ∀ h2 v2, CP (zz sl si fm) mX9_isName h1 [(2, 2)] h2 [(0, v2)] → v2 = 0 ∨ v2 = 1 → (v2 = 0 → ∀ h3 v3, CP (zz sl si fm) mX9_fail h2 [(2, 2), (0, 2)] h3 [(0, v3)] → v3 = 0 ∨ v3 = 1 → Q h3 [(0, (-1))]) ∧ (¬ (v2 = 0) → ∀ h4 v4, CP (zz sl si fm) mX9_fail h2 [(2, 2), (0, 3)] h4 [(0, v4)] → v4 = 0 ∨ v4 = 1 → Q h4 [(0, (-1))]))) ∧ (¬ (v1 = 0) → R64 (h1 2 7) → ∀ h5 v5, CP (zz sl si fm) mX1_houseNamed h1 [(2, 27), (1, (h1 2 7))] h5 [(0, v5)] → R32 v5 → (v5 ≠ (-1) → Q h5 [(0, v5)]) ∧ (¬ (v5 ≠ (-1)) → ∀ h6 v6, CP (zz sl si fm) mX9_isName h5 [(2, 2)] h6 [(0, v6)] → v6 = 0 ∨ v6 = 1 → (v6 = 0 → ∀ h7 v7, CP (zz sl si fm) mX9_fail h6 [(2, 2), (0, 2)] h7 [(0, v7)] → v7 = 0 ∨ v7 = 1 → Q h7 [(0, v5)]) ∧ (¬ (v6 = 0) → ∀ h8 v8, CP (zz sl si fm) mX9_fail h6 [(2, 2), (0, 3)] h8 [(0, v8)] → v8 = 0 ∨ v8 = 1 → Q h8 [(0, v5)])))) : vc (zz sl si fm) (fun _ => false) K Q mX9_houseHere 24 0 mX9_houseHere.2.2.2.2.2.2 h [(0, (2, 2)), (1, (2, 27))] [] := H
set_option maxHeartbeats 600000 in
theorem c_X9_houseHere {sl : Nat} {si : Nat → Int} {fm : ZV} {h h' : PH} {T : TX} {s : Nat} {L : PH} {v : Int} (hN : CN T h s) (hL : CL 27 h L) (hW : WL L) (hc : CP (zz sl si fm) mX9_houseHere h [(2, 2), (2, 27)] h' [(0, v)]) : v = ho T L s ∧ (v ≠ -1 → h' = h) ∧ (v = -1 → CF h' (fltk T (if isN T s then 3 else 2) s) s) ∧ FT h h' := by
  have q : (fun (xh : PH) (r : List ZV) => ∀ v : Int, r = [(0, v)] → (v = ho T L s ∧ (v ≠ -1 → xh = h) ∧ (v = -1 → CF xh (fltk T (if isN T s then 3 else 2) s) s) ∧ FT h xh)) h' [(0, v)] := by
    refine cp_vc (cut := (fun _ => false)) (K := fun p hx lv st => False) (Q := fun (xh : PH) (r : List ZV) => ∀ v : Int, r = [(0, v)] → (v = ho T L s ∧ (v ≠ -1 → xh = h) ∧ (v = -1 → CF xh (fltk T (if isN T s then 3 else 2) s) s) ∧ FT h xh)) (v_X9_houseHere ?_) (fun pc hx lv st hcut hK => ?_) hc
    · exact (fun h1 v1 p1 q1 => by obtain ⟨t1, e1⟩ := c_X9_isName p1; have t1 := t1.symm; subst t1; exact ⟨fun c1 => ⟨fun c2 => (by exact absurd rfl c2), fun c2 => (fun h2 v2 p2 q2 => by obtain ⟨t2, e2⟩ := c_X9_isName p2; have t2 := t2.symm; subst t2; exact ⟨fun c3 => (fun h3 v3 p3 q3 => (by intro v e; cases e; have w1 : ¬ isN T s := fun z => (by have := e1.mpr ((nm_iff hN).mpr z); omega); have w4 : ho T L s = -1 := if_neg w1; obtain ⟨a1, a2, a3⟩ := c_fl hN (by omega) p3; exact ⟨w4.symm, fun z => absurd rfl z, fun _ => by rw [if_neg w1]; exact a2, a3⟩)), fun c3 => (fun h4 v4 p4 q4 => (by exfalso; omega))⟩)⟩, fun c1 => (fun r4 => (fun h5 v5 p5 q5 => by obtain ⟨t5, e5⟩ := c_X1_houseNamed p5; have t5 := t5.symm; subst t5; exact ⟨fun c5 => (by have w1 := (nm_iff hN).mp (e1.mp (by omega)); have w2 : h 28 0 = L 1 0 := hL 1 0 (il1 (by decide)); have w3 : fd (h 36) (h 2 7) (h 28 0).toNat = nmH T L s := (by (rw [hN.en w1.1, w2]; unfold nmH; exact fd_cg _ (fun i hi => hL 9 i (il9 (by have := hW.1; have := hW.2.1; omega))))); have w4 : ho T L s = nmH T L s := if_pos w1; intro v e; cases e; exact ⟨by rw [w4, ← w3]; exact e5, fun _ => rfl, fun z => absurd z c5, FT.rf _⟩), fun c5 => (fun h6 v6 p6 q6 => by obtain ⟨t6, e6⟩ := c_X9_isName p6; have t6 := t6.symm; subst t6; exact ⟨fun c6 => (fun h7 v7 p7 q7 => (by exfalso; omega)), fun c6 => (fun h8 v8 p8 q8 => (by have w1 := (nm_iff hN).mp (e1.mp (by omega)); have w2 : h 28 0 = L 1 0 := hL 1 0 (il1 (by decide)); have w3 : fd (h 36) (h 2 7) (h 28 0).toNat = nmH T L s := (by (rw [hN.en w1.1, w2]; unfold nmH; exact fd_cg _ (fun i hi => hL 9 i (il9 (by have := hW.1; have := hW.2.1; omega))))); have w4 : ho T L s = nmH T L s := if_pos w1; intro v e; cases e; obtain ⟨a1, a2, a3⟩ := c_fl hN (by omega) p8; exact ⟨by rw [w4, ← w3]; exact e5, fun z => absurd z c5, fun _ => by rw [if_pos w1]; exact a2, a3⟩))⟩)⟩))⟩)
    · exact hK.elim
  exact q v rfl
set_option maxRecDepth 10000 in
theorem v_X9_takeHouse {sl : Nat} {si : Nat → Int} {fm : ZV} {K : Nat → PH → ZL → List ZV → Prop} {Q : PH → List ZV → Prop} {h : PH}    (H : ∀ h1 v1, CP (zz sl si fm) mX9_houseHere h [(2, 2), (2, 27)] h1 [(0, v1)] → R32 v1 → (v1 = (-1) → Q h1 [(0, v1)]) ∧ (¬ (v1 = (-1)) → ∀ h2, CP (zz sl si fm) mX9_advance h1 [(2, 2)] h2 [] → Q h2 [(0, v1)])) : vc (zz sl si fm) (fun _ => false) K Q mX9_takeHouse 13 0 mX9_takeHouse.2.2.2.2.2.2 h [(0, (2, 2)), (1, (2, 27))] [] := H
set_option maxHeartbeats 600000 in
theorem c_X9_takeHouse {sl : Nat} {si : Nat → Int} {fm : ZV} {h h' : PH} {T : TX} {s : Nat} {L : PH} {v : Int} (hN : CN T h s) (hL : CL 27 h L) (hW : WL L) (hc : CP (zz sl si fm) mX9_takeHouse h [(2, 2), (2, 27)] h' [(0, v)]) : v = ho T L s ∧ (v ≠ -1 → CN T h' (nt T s)) ∧ (v = -1 → CF h' (fltk T (if isN T s then 3 else 2) s) s) ∧ FT h h' := by
  have q : (fun (xh : PH) (r : List ZV) => ∀ v : Int, r = [(0, v)] → (v = ho T L s ∧ (v ≠ -1 → CN T xh (nt T s)) ∧ (v = -1 → CF xh (fltk T (if isN T s then 3 else 2) s) s) ∧ FT h xh)) h' [(0, v)] := by
    refine cp_vc (cut := (fun _ => false)) (K := fun p hx lv st => False) (Q := fun (xh : PH) (r : List ZV) => ∀ v : Int, r = [(0, v)] → (v = ho T L s ∧ (v ≠ -1 → CN T xh (nt T s)) ∧ (v = -1 → CF xh (fltk T (if isN T s then 3 else 2) s) s) ∧ FT h xh)) (v_X9_takeHouse ?_) (fun pc hx lv st hcut hK => ?_) hc
    · exact (fun h1 v1 p1 q1 => ⟨fun c1 => (by intro v e; cases e; obtain ⟨d1, d2, d3, d4⟩ := c_X9_houseHere hN hL hW p1; exact ⟨d1, fun z => absurd c1 z, d3, d4⟩), fun c1 => (fun h2 p2 => (by intro v e; cases e; obtain ⟨d1, d2, d3, d4⟩ := c_X9_houseHere hN hL hW p1; have d5 := d2 c1; subst d5; obtain ⟨a1, a2⟩ := c_adv hN p2; exact ⟨d1, fun _ => a1, fun z => absurd z c1, a2⟩))⟩)
    · exact hK.elim
  exact q v rfl
set_option maxRecDepth 10000 in
theorem v_X1_personNamed {sl : Nat} {si : Nat → Int} {fm : ZV} {K : Nat → PH → ZL → List ZV → Prop} {Q : PH → List ZV → Prop} {h : PH} {x : Int} (H : K 2 h [(3, (0, 0)), (0, (2, 27)), (1, (1, x))] []) : vc (zz sl si fm) (fun p => Nat.beq p 2) K Q mX1_personNamed 4 0 mX1_personNamed.2.2.2.2.2.2 h [(0, (2, 27)), (1, (1, x))] [] := H
set_option maxRecDepth 10000 in
theorem v_X1_personNamed_2 {sl : Nat} {si : Nat → Int} {fm : ZV} {K : Nat → PH → ZL → List ZV → Prop} {Q : PH → List ZV → Prop} {h : PH} {x : Int} {k : Int} (H : R32 (h 27 4) → ((h 27 4) ≤ k → Q h [(0, (-1))]) ∧ (¬ ((h 27 4) ≤ k) → 0 ≤ k ∧ k < (8 : Nat) → R64 (h 37 k.toNat) → ((zcmp (h 37 k.toNat) x) ≠ 0 → K 2 h [(3, (0, w32 (k + 1))), (0, (2, 27)), (1, (1, x))] []) ∧ (¬ ((zcmp (h 37 k.toNat) x) ≠ 0) → Q h [(0, k)]))) : vc (zz sl si fm) (fun p => Nat.beq p 2) K Q mX1_personNamed 15 2 (ax_jmp mX1_personNamed.2.2.2.2.2.2 2) h [(0, (2, 27)), (1, (1, x)), (3, (0, k))] [] := H
set_option maxHeartbeats 600000 in
theorem c_X1_personNamed {sl : Nat} {si : Nat → Int} {fm : ZV} {h h' : PH} {x : Int} {v : Int} (hc : CP (zz sl si fm) mX1_personNamed h [(2, 27), (1, x)] h' [(0, v)]) : h' = h ∧ v = fd (h 37) x (h 27 4).toNat := by
  have q : (fun (xh : PH) (r : List ZV) => ∀ v : Int, r = [(0, v)] → (xh = h ∧ v = fd (h 37) x (h 27 4).toNat)) h' [(0, v)] := by
    refine cp_vc (cut := (fun p => Nat.beq p 2)) (K := fun p hx lv st => (p = 2 ∧ lK (fun u : Nat => [(0, (2, 27)), (1, (1, x)), (3, (0, (u : Int)))]) (fun u hx => hx = h ∧ ∀ i : Nat, i < u → h 37 i ≠ x) p hx lv st)) (Q := fun (xh : PH) (r : List ZV) => ∀ v : Int, r = [(0, v)] → (xh = h ∧ v = fd (h 37) x (h 27 4).toNat)) (v_X1_personNamed ?_) (fun pc hx lv st hcut hK => ?_) hc
    · exact (by exact ⟨rfl, rfl, 0, ⟨rfl, fun i q => by omega⟩, rfl, rfl, rfl, trivial⟩)
    · rcases hK with ⟨rfl, rfl, u, hJ, hs⟩
      · obtain ⟨rfl, j2⟩ := hJ
        exact ⟨_, _, hs, v_X1_personNamed_2 (fun r1 => ⟨fun c2 => (by intro v e; cases e; exact ⟨rfl, (fd_no _ (fun i hi => j2 i (by omega))).symm⟩), fun c2 => (fun b3 r4 => ⟨fun c5 => (by refine ⟨rfl, rfl, u + 1, ⟨rfl, fun i hi => ?_⟩, rfl, rfl, wv (by omega) (by omega) (by omega), trivial⟩; by_cases e : i = u; (rw [e]; rw [Int.toNat_natCast] at c5; exact fun z => c5 (zcmp_0.mpr z)); exact j2 i (by omega)), fun c5 => (by intro v e; cases e; rw [Int.toNat_natCast] at c5; exact ⟨rfl, (fd_at _ u (by omega) j2 (zcmp_0.mp (Classical.not_not.mp c5))).symm⟩)⟩)⟩)⟩
  exact q v rfl
set_option maxRecDepth 10000 in
theorem v_X9_personHere {sl : Nat} {si : Nat → Int} {fm : ZV} {K : Nat → PH → ZL → List ZV → Prop} {Q : PH → List ZV → Prop} {h : PH}    (H : ∀ h1 v1, CP (zz sl si fm) mX9_isName h [(2, 2)] h1 [(0, v1)] → v1 = 0 ∨ v1 = 1 → (v1 = 0 → (((-1) : Int) ≠ (-1) → Q h1 [(0, (-1))]) ∧ (¬ (((-1) : Int) ≠ (-1)) → ∀ h2 v2, CP (zz sl si fm) mX9_isName h1 [(2, 2)] h2 [(0, v2)] → v2 = 0 ∨ v2 = 1 → (v2 = 0 → ∀ h3 v3, CP (zz sl si fm) mX9_fail h2 [(2, 2), (0, 2)] h3 [(0, v3)] → v3 = 0 ∨ v3 = 1 → Q h3 [(0, (-1))]) ∧ (¬ (v2 = 0) → ∀ h4 v4, CP (zz sl si fm) mX9_fail h2 [(2, 2), (0, 3)] h4 [(0, v4)] → v4 = 0 ∨ v4 = 1 → Q h4 [(0, (-1))]))) ∧ (¬ (v1 = 0) → R64 (h1 2 7) → ∀ h5 v5, CP (zz sl si fm) mX1_personNamed h1 [(2, 27), (1, (h1 2 7))] h5 [(0, v5)] → R32 v5 → (v5 ≠ (-1) → Q h5 [(0, v5)]) ∧ (¬ (v5 ≠ (-1)) → ∀ h6 v6, CP (zz sl si fm) mX9_isName h5 [(2, 2)] h6 [(0, v6)] → v6 = 0 ∨ v6 = 1 → (v6 = 0 → ∀ h7 v7, CP (zz sl si fm) mX9_fail h6 [(2, 2), (0, 2)] h7 [(0, v7)] → v7 = 0 ∨ v7 = 1 → Q h7 [(0, v5)]) ∧ (¬ (v6 = 0) → ∀ h8 v8, CP (zz sl si fm) mX9_fail h6 [(2, 2), (0, 3)] h8 [(0, v8)] → v8 = 0 ∨ v8 = 1 → Q h8 [(0, v5)])))) : vc (zz sl si fm) (fun _ => false) K Q mX9_personHere 24 0 mX9_personHere.2.2.2.2.2.2 h [(0, (2, 2)), (1, (2, 27))] [] := H
set_option maxHeartbeats 600000 in
theorem c_X9_personHere {sl : Nat} {si : Nat → Int} {fm : ZV} {h h' : PH} {T : TX} {s : Nat} {L : PH} {v : Int} (hN : CN T h s) (hL : CL 27 h L) (hW : WL L) (hc : CP (zz sl si fm) mX9_personHere h [(2, 2), (2, 27)] h' [(0, v)]) : v = pe T L s ∧ (v ≠ -1 → h' = h) ∧ (v = -1 → CF h' (fltk T (if isN T s then 3 else 2) s) s) ∧ FT h h' := by
  have q : (fun (xh : PH) (r : List ZV) => ∀ v : Int, r = [(0, v)] → (v = pe T L s ∧ (v ≠ -1 → xh = h) ∧ (v = -1 → CF xh (fltk T (if isN T s then 3 else 2) s) s) ∧ FT h xh)) h' [(0, v)] := by
    refine cp_vc (cut := (fun _ => false)) (K := fun p hx lv st => False) (Q := fun (xh : PH) (r : List ZV) => ∀ v : Int, r = [(0, v)] → (v = pe T L s ∧ (v ≠ -1 → xh = h) ∧ (v = -1 → CF xh (fltk T (if isN T s then 3 else 2) s) s) ∧ FT h xh)) (v_X9_personHere ?_) (fun pc hx lv st hcut hK => ?_) hc
    · exact (fun h1 v1 p1 q1 => by obtain ⟨t1, e1⟩ := c_X9_isName p1; have t1 := t1.symm; subst t1; exact ⟨fun c1 => ⟨fun c2 => (by exact absurd rfl c2), fun c2 => (fun h2 v2 p2 q2 => by obtain ⟨t2, e2⟩ := c_X9_isName p2; have t2 := t2.symm; subst t2; exact ⟨fun c3 => (fun h3 v3 p3 q3 => (by intro v e; cases e; have w1 : ¬ isN T s := fun z => (by have := e1.mpr ((nm_iff hN).mpr z); omega); have w4 : pe T L s = -1 := if_neg w1; obtain ⟨a1, a2, a3⟩ := c_fl hN (by omega) p3; exact ⟨w4.symm, fun z => absurd rfl z, fun _ => by rw [if_neg w1]; exact a2, a3⟩)), fun c3 => (fun h4 v4 p4 q4 => (by exfalso; omega))⟩)⟩, fun c1 => (fun r4 => (fun h5 v5 p5 q5 => by obtain ⟨t5, e5⟩ := c_X1_personNamed p5; have t5 := t5.symm; subst t5; exact ⟨fun c5 => (by have w1 := (nm_iff hN).mp (e1.mp (by omega)); have w2 : h 27 4 = L 0 4 := hL 0 4 (Or.inl ⟨rfl, Or.inl rfl⟩); have w3 : fd (h 37) (h 2 7) (h 27 4).toNat = nmP T L s := (by (rw [hN.en w1.1, w2]; unfold nmP; exact fd_cg _ (fun i hi => hL 10 i (il10 (by have := hW.1; have := hW.2.1; omega))))); have w4 : pe T L s = nmP T L s := if_pos w1; intro v e; cases e; exact ⟨by rw [w4, ← w3]; exact e5, fun _ => rfl, fun z => absurd z c5, FT.rf _⟩), fun c5 => (fun h6 v6 p6 q6 => by obtain ⟨t6, e6⟩ := c_X9_isName p6; have t6 := t6.symm; subst t6; exact ⟨fun c6 => (fun h7 v7 p7 q7 => (by exfalso; omega)), fun c6 => (fun h8 v8 p8 q8 => (by have w1 := (nm_iff hN).mp (e1.mp (by omega)); have w2 : h 27 4 = L 0 4 := hL 0 4 (Or.inl ⟨rfl, Or.inl rfl⟩); have w3 : fd (h 37) (h 2 7) (h 27 4).toNat = nmP T L s := (by (rw [hN.en w1.1, w2]; unfold nmP; exact fd_cg _ (fun i hi => hL 10 i (il10 (by have := hW.1; have := hW.2.1; omega))))); have w4 : pe T L s = nmP T L s := if_pos w1; intro v e; cases e; obtain ⟨a1, a2, a3⟩ := c_fl hN (by omega) p8; exact ⟨by rw [w4, ← w3]; exact e5, fun z => absurd z c5, fun _ => by rw [if_pos w1]; exact a2, a3⟩))⟩)⟩))⟩)
    · exact hK.elim
  exact q v rfl
set_option maxRecDepth 10000 in
theorem v_X9_takePerson {sl : Nat} {si : Nat → Int} {fm : ZV} {K : Nat → PH → ZL → List ZV → Prop} {Q : PH → List ZV → Prop} {h : PH}    (H : ∀ h1 v1, CP (zz sl si fm) mX9_personHere h [(2, 2), (2, 27)] h1 [(0, v1)] → R32 v1 → (v1 = (-1) → Q h1 [(0, v1)]) ∧ (¬ (v1 = (-1)) → ∀ h2, CP (zz sl si fm) mX9_advance h1 [(2, 2)] h2 [] → Q h2 [(0, v1)])) : vc (zz sl si fm) (fun _ => false) K Q mX9_takePerson 13 0 mX9_takePerson.2.2.2.2.2.2 h [(0, (2, 2)), (1, (2, 27))] [] := H
set_option maxHeartbeats 600000 in
theorem c_X9_takePerson {sl : Nat} {si : Nat → Int} {fm : ZV} {h h' : PH} {T : TX} {s : Nat} {L : PH} {v : Int} (hN : CN T h s) (hL : CL 27 h L) (hW : WL L) (hc : CP (zz sl si fm) mX9_takePerson h [(2, 2), (2, 27)] h' [(0, v)]) : v = pe T L s ∧ (v ≠ -1 → CN T h' (nt T s)) ∧ (v = -1 → CF h' (fltk T (if isN T s then 3 else 2) s) s) ∧ FT h h' := by
  have q : (fun (xh : PH) (r : List ZV) => ∀ v : Int, r = [(0, v)] → (v = pe T L s ∧ (v ≠ -1 → CN T xh (nt T s)) ∧ (v = -1 → CF xh (fltk T (if isN T s then 3 else 2) s) s) ∧ FT h xh)) h' [(0, v)] := by
    refine cp_vc (cut := (fun _ => false)) (K := fun p hx lv st => False) (Q := fun (xh : PH) (r : List ZV) => ∀ v : Int, r = [(0, v)] → (v = pe T L s ∧ (v ≠ -1 → CN T xh (nt T s)) ∧ (v = -1 → CF xh (fltk T (if isN T s then 3 else 2) s) s) ∧ FT h xh)) (v_X9_takePerson ?_) (fun pc hx lv st hcut hK => ?_) hc
    · exact (fun h1 v1 p1 q1 => ⟨fun c1 => (by intro v e; cases e; obtain ⟨d1, d2, d3, d4⟩ := c_X9_personHere hN hL hW p1; exact ⟨d1, fun z => absurd c1 z, d3, d4⟩), fun c1 => (fun h2 p2 => (by intro v e; cases e; obtain ⟨d1, d2, d3, d4⟩ := c_X9_personHere hN hL hW p1; have d5 := d2 c1; subst d5; obtain ⟨a1, a2⟩ := c_adv hN p2; exact ⟨d1, fun _ => a1, fun z => absurd z c1, a2⟩))⟩)
    · exact hK.elim
  exact q v rfl
set_option maxRecDepth 10000 in
theorem v_X2_takeIf {sl : Nat} {si : Nat → Int} {fm : ZV} {K : Nat → PH → ZL → List ZV → Prop} {Q : PH → List ZV → Prop} {h : PH}   {a : Int} (H : ∀ h1 v1, CP (zz sl si fm) mX9_isWord h [(2, 2), (0, a)] h1 [(0, v1)] → v1 = 0 ∨ v1 = 1 → (v1 = 0 → Q h1 [(0, v1)]) ∧ (¬ (v1 = 0) → ∀ h2, CP (zz sl si fm) mX9_advance h1 [(2, 2)] h2 [] → Q h2 [(0, v1)])) : vc (zz sl si fm) (fun _ => false) K Q mX2_takeIf 14 0 mX2_takeIf.2.2.2.2.2.2 h [(0, (2, 49)), (1, (0, a))] [] := H
set_option maxHeartbeats 600000 in
theorem c_X2_takeIf {sl : Nat} {si : Nat → Int} {fm : ZV} {h h' : PH} {T : TX} {s : Nat} {a : Int} {v : Int} (hN : CN T h s) (hc : CP (zz sl si fm) mX2_takeIf h [(2, 49), (0, a)] h' [(0, v)]) : (v = 1 ↔ isW T s a) ∧ CN T h' (tk T s a) ∧ FT h h' := by
  have q : (fun (xh : PH) (r : List ZV) => ∀ v : Int, r = [(0, v)] → ((v = 1 ↔ isW T s a) ∧ CN T xh (tk T s a) ∧ FT h xh)) h' [(0, v)] := by
    refine cp_vc (cut := (fun _ => false)) (K := fun p hx lv st => False) (Q := fun (xh : PH) (r : List ZV) => ∀ v : Int, r = [(0, v)] → ((v = 1 ↔ isW T s a) ∧ CN T xh (tk T s a) ∧ FT h xh)) (v_X2_takeIf ?_) (fun pc hx lv st hcut hK => ?_) hc
    · exact (fun h1 v1 p1 q1 => by obtain ⟨t1, e1⟩ := c_X9_isWord p1; have t1 := t1.symm; subst t1; exact ⟨fun c1 => (by intro v e; cases e; have w : ¬ isW T s a := fun z => (by have := e1.mpr ((wd_iff hN).mpr z); omega); exact ⟨⟨fun z => by omega, fun z => absurd z w⟩, by unfold tk; rw [if_neg w]; exact hN, FT.rf _⟩), fun c1 => (fun h2 p2 => (by intro v e; cases e; have w : isW T s a := (wd_iff hN).mp (e1.mp (by omega)); obtain ⟨a1, a2⟩ := c_adv hN p2; exact ⟨⟨fun _ => w, fun z => by omega⟩, by unfold tk; rw [if_pos w]; exact a1, a2⟩))⟩)
    · exact hK.elim
  exact q v rfl
set_option maxRecDepth 10000 in
theorem v_X2_isNewName {sl : Nat} {si : Nat → Int} {fm : ZV} {K : Nat → PH → ZL → List ZV → Prop} {Q : PH → List ZV → Prop} {h : PH}    (H : ∀ h1 v1, CP (zz sl si fm) mX9_isName h [(2, 2)] h1 [(0, v1)] → v1 = 0 ∨ v1 = 1 → (v1 ≠ 0 → R64 (h1 2 7) → ∀ h2 v2, CP (zz sl si fm) mX1_houseNamed h1 [(2, 27), (1, (h1 2 7))] h2 [(0, v2)] → R32 v2 → (v2 ≠ (-1) → ((1 : Int) = 0 → Q h2 [(0, 1)]) ∧ (¬ ((1 : Int) = 0) → ∀ h3 v3, CP (zz sl si fm) mX9_fail h2 [(2, 2), (0, 3)] h3 [(0, v3)] → v3 = 0 ∨ v3 = 1 → Q h3 [(0, v3)])) ∧ (¬ (v2 ≠ (-1)) → R64 (h2 2 7) → ∀ h4 v4, CP (zz sl si fm) mX1_personNamed h2 [(2, 27), (1, (h2 2 7))] h4 [(0, v4)] → R32 v4 → (v4 = (-1) → ((0 : Int) = 0 → Q h4 [(0, 1)]) ∧ (¬ ((0 : Int) = 0) → ∀ h5 v5, CP (zz sl si fm) mX9_fail h4 [(2, 2), (0, 3)] h5 [(0, v5)] → v5 = 0 ∨ v5 = 1 → Q h5 [(0, v5)])) ∧ (¬ (v4 = (-1)) → ((1 : Int) = 0 → Q h4 [(0, 1)]) ∧ (¬ ((1 : Int) = 0) → ∀ h6 v6, CP (zz sl si fm) mX9_fail h4 [(2, 2), (0, 3)] h6 [(0, v6)] → v6 = 0 ∨ v6 = 1 → Q h6 [(0, v6)])))) ∧ (¬ (v1 ≠ 0) → ∀ h7 v7, CP (zz sl si fm) mX9_fail h1 [(2, 2), (0, 2)] h7 [(0, v7)] → v7 = 0 ∨ v7 = 1 → Q h7 [(0, v7)])) : vc (zz sl si fm) (fun _ => false) K Q mX2_isNewName 33 0 mX2_isNewName.2.2.2.2.2.2 h [(0, (2, 49))] [] := H
set_option maxHeartbeats 600000 in
theorem c_X2_isNewName {sl : Nat} {si : Nat → Int} {fm : ZV} {h h' : PH} {T : TX} {s : Nat} {L : PH} {v : Int} (hN : CN T h s) (hL : CL 27 h L) (hW : WL L) (hc : CP (zz sl si fm) mX2_isNewName h [(2, 49)] h' [(0, v)]) : (v = 1 → isN T s ∧ nmH T L s = -1 ∧ nmP T L s = -1 ∧ h' = h) ∧ (v = 0 → ∃ f, (∀ k, pNew T s L k = .inl f) ∧ CF h' f.1 f.2) ∧ FT h h' := by
  have q : (fun (xh : PH) (r : List ZV) => ∀ v : Int, r = [(0, v)] → ((v = 1 → isN T s ∧ nmH T L s = -1 ∧ nmP T L s = -1 ∧ xh = h) ∧ (v = 0 → ∃ f, (∀ k, pNew T s L k = .inl f) ∧ CF xh f.1 f.2) ∧ FT h xh)) h' [(0, v)] := by
    refine cp_vc (cut := (fun _ => false)) (K := fun p hx lv st => False) (Q := fun (xh : PH) (r : List ZV) => ∀ v : Int, r = [(0, v)] → ((v = 1 → isN T s ∧ nmH T L s = -1 ∧ nmP T L s = -1 ∧ xh = h) ∧ (v = 0 → ∃ f, (∀ k, pNew T s L k = .inl f) ∧ CF xh f.1 f.2) ∧ FT h xh)) (v_X2_isNewName ?_) (fun pc hx lv st hcut hK => ?_) hc
    · exact (fun h1 v1 p1 q1 => by obtain ⟨t1, e1⟩ := c_X9_isName p1; have t1 := t1.symm; subst t1; exact ⟨fun c1 => (fun r2 => (fun h2 v2 p2 q2 => by obtain ⟨t2, e2⟩ := c_X1_houseNamed p2; have t2 := t2.symm; subst t2; exact ⟨fun c3 => ⟨fun c4 => (by exfalso; omega), fun c4 => (fun h3 v3 p3 q3 => (by have w1 := (nm_iff hN).mp (e1.mp (by omega)); have w2 : h 28 0 = L 1 0 := hL 1 0 (il1 (by decide)); have w3 : fd (h 36) (h 2 7) (h 28 0).toNat = nmH T L s := (by (rw [hN.en w1.1, w2]; unfold nmH; exact fd_cg _ (fun i hi => hL 9 i (il9 (by have := hW.1; omega))))); have w5 : h 27 4 = L 0 4 := hL 0 4 (Or.inl ⟨rfl, Or.inl rfl⟩); have w6 : fd (h 37) (h 2 7) (h 27 4).toNat = nmP T L s := (by (rw [hN.en w1.1, w5]; unfold nmP; exact fd_cg _ (fun i hi => hL 10 i (il10 (by have := hW.2.1; omega))))); intro v e; cases e; obtain ⟨a1, a2, a3⟩ := c_fl hN (by omega) p3; exact ⟨fun z => by omega, fun _ => ⟨(fltk T 3 s, s), fun k => by unfold pNew; rw [if_pos w1, if_pos (Or.inl (by rw [← w3, ← e2]; exact c3))]; rfl, a2⟩, a3⟩))⟩, fun c3 => (fun r5 => (fun h4 v4 p4 q4 => by obtain ⟨t4, e4⟩ := c_X1_personNamed p4; have t4 := t4.symm; subst t4; exact ⟨fun c6 => ⟨fun c7 => (by have w1 := (nm_iff hN).mp (e1.mp (by omega)); have w2 : h 28 0 = L 1 0 := hL 1 0 (il1 (by decide)); have w3 : fd (h 36) (h 2 7) (h 28 0).toNat = nmH T L s := (by (rw [hN.en w1.1, w2]; unfold nmH; exact fd_cg _ (fun i hi => hL 9 i (il9 (by have := hW.1; omega))))); have w5 : h 27 4 = L 0 4 := hL 0 4 (Or.inl ⟨rfl, Or.inl rfl⟩); have w6 : fd (h 37) (h 2 7) (h 27 4).toNat = nmP T L s := (by (rw [hN.en w1.1, w5]; unfold nmP; exact fd_cg _ (fun i hi => hL 10 i (il10 (by have := hW.2.1; omega))))); intro v e; cases e; exact ⟨fun _ => ⟨w1, by rw [← w3, ← e2]; omega, by rw [← w6, ← e4]; omega, rfl⟩, fun z => by omega, FT.rf _⟩), fun c7 => (fun h5 v5 p5 q5 => (by exfalso; omega))⟩, fun c6 => ⟨fun c8 => (by exfalso; omega), fun c8 => (fun h6 v6 p6 q6 => (by have w1 := (nm_iff hN).mp (e1.mp (by omega)); have w2 : h 28 0 = L 1 0 := hL 1 0 (il1 (by decide)); have w3 : fd (h 36) (h 2 7) (h 28 0).toNat = nmH T L s := (by (rw [hN.en w1.1, w2]; unfold nmH; exact fd_cg _ (fun i hi => hL 9 i (il9 (by have := hW.1; omega))))); have w5 : h 27 4 = L 0 4 := hL 0 4 (Or.inl ⟨rfl, Or.inl rfl⟩); have w6 : fd (h 37) (h 2 7) (h 27 4).toNat = nmP T L s := (by (rw [hN.en w1.1, w5]; unfold nmP; exact fd_cg _ (fun i hi => hL 10 i (il10 (by have := hW.2.1; omega))))); intro v e; cases e; obtain ⟨a1, a2, a3⟩ := c_fl hN (by omega) p6; exact ⟨fun z => by omega, fun _ => ⟨(fltk T 3 s, s), fun k => by unfold pNew; rw [if_pos w1, if_pos (Or.inr (by rw [← w6, ← e4]; exact c6))]; rfl, a2⟩, a3⟩))⟩⟩))⟩)), fun c1 => (fun h7 v7 p7 q7 => (by intro v e; cases e; have w1 : ¬ isN T s := fun z => (by have := e1.mpr ((nm_iff hN).mpr z); omega); obtain ⟨a1, a2, a3⟩ := c_fl hN (by omega) p7; exact ⟨fun z => by omega, fun _ => ⟨(fltk T 2 s, s), fun k => by unfold pNew; rw [if_neg w1]; rfl, a2⟩, a3⟩))⟩)
    · exact hK.elim
  exact q v rfl
/-- a semicolon ends a part -/
theorem c_sm {sl : Nat} {si : Nat → Int} {fm : ZV} {h h' : PH} {T : TX} {s b : Nat} {L : PH} {v : Int} (hN : CN T h s) (hL : CL b h L) (hb : 3 ≤ b) (hW : WL L) (hv : v = 0 ∨ v = 1) (hc : CP (zz sl si fm) mX9_takeSemicolon h [(2, 2)] h' [(0, v)]) : CO T b v h' (semi T s L) ∧ FT h h' := by
  obtain ⟨a1, a2, a3⟩ := c_X9_takeSemicolon hN hc
  refine ⟨?_, a3⟩
  unfold semi
  rcases hv with e | e
  · obtain ⟨b1, b2⟩ := a2 e
    rw [if_neg b1]
    exact ⟨e, b2⟩
  · obtain ⟨b1, b2⟩ := a1 e
    rw [if_pos b1]
    exact ⟨e, b2, a3.L hL hb, hW⟩
end
