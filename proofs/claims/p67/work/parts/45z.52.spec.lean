/-! A LAND's text, as what it does to a LAND -/
abbrev isW (T : TX) (s : Nat) (w : Int) : Prop := kd T s = 2 ∧ kw T s = w
abbrev isN (T : TX) (s : Nat) : Prop := kd T s = 2 ∧ kw T s = -1 ∧ wc T s ≠ 0
abbrev isG (T : TX) (s : Nat) (c : Int) : Prop := kd T s = 4 ∧ vl T s = c
noncomputable def fltk (T : TX) (k : Int) (s : Nat) : Int := if kd T s = 1 then 1 else k
abbrev PR : Type := (Int × Nat) ⊕ (Nat × PH)
noncomputable def bad (T : TX) (k : Int) (s : Nat) : PR := .inl (fltk T k s, s)
/-- the first of n that is x, or -1 -/
def fd (g : Nat → Int) (x : Int) : Nat → Int
  | 0 => -1
  | n + 1 => if fd g x n = -1 then (if g n = x then (n : Int) else -1) else fd g x n
theorem fd_no {g : Nat → Int} {x : Int} : ∀ (n : Nat), (∀ i, i < n → g i ≠ x) → fd g x n = -1
  | 0, _ => rfl
  | n + 1, h => by
    show (if fd g x n = -1 then (if g n = x then (n : Int) else -1) else fd g x n) = -1
    rw [if_pos (fd_no n (fun i hi => h i (by omega))), if_neg (h n (by omega))]
theorem fd_at {g : Nat → Int} {x : Int} : ∀ (n u : Nat), u < n → (∀ i, i < u → g i ≠ x) → g u = x → fd g x n = u
  | 0, u, h, _, _ => by omega
  | n + 1, u, h, h1, h2 => by
    show (if fd g x n = -1 then (if g n = x then (n : Int) else -1) else fd g x n) = u
    by_cases e : u = n
    · rw [if_pos (fd_no n (fun i hi => h1 i (by omega))), if_pos (by rw [← e]; exact h2), e]
    · rw [if_neg (by rw [fd_at n u (by omega) h1 h2]; omega), fd_at n u (by omega) h1 h2]
theorem fd_b {g : Nat → Int} {x : Int} : ∀ (n : Nat), -1 ≤ fd g x n ∧ fd g x n < n
  | 0 => ⟨by show (-1 : Int) ≤ -1; omega, by show (-1 : Int) < ((0 : Nat) : Int); omega⟩
  | n + 1 => by
    have := fd_b (g := g) (x := x) n
    show -1 ≤ (if fd g x n = -1 then (if g n = x then (n : Int) else -1) else fd g x n) ∧ (if fd g x n = -1 then (if g n = x then (n : Int) else -1) else fd g x n) < ((n + 1 : Nat) : Int)
    split
    · split <;> omega
    · omega
noncomputable def nmH (T : TX) (L : PH) (s : Nat) : Int := fd (L 9) (wc T s) (L 1 0).toNat
noncomputable def nmP (T : TX) (L : PH) (s : Nat) : Int := fd (L 10) (wc T s) (L 0 4).toNat
/-- a HOUSE's number at a token, or -1; a PERSON's -/
noncomputable def ho (T : TX) (L : PH) (s : Nat) : Int := if isN T s then nmH T L s else -1
noncomputable def pe (T : TX) (L : PH) (s : Nat) : Int := if isN T s then nmP T L s else -1
noncomputable def noN (T : TX) (s : Nat) : PR := bad T (if isN T s then 3 else 2) s
noncomputable def semi (T : TX) (s : Nat) (L : PH) : PR := if isG T s 59 then .inr (nt T s, L) else bad T 2 s
noncomputable def pNew (T : TX) (s : Nat) (L : PH) (k : PR) : PR := if isN T s then (if nmH T L s ≠ -1 ∨ nmP T L s ≠ -1 then bad T 3 s else k) else bad T 2 s
noncomputable def tk (T : TX) (s : Nat) (w : Int) : Nat := if isW T s w then nt T s else s
noncomputable def pHouse (T : TX) (s : Nat) (L : PH) : PR := if 7 ≤ L 1 0 then bad T 6 s else pNew T (nt T s) L (semi T (tk T (nt T (nt T s)) 1) (if isW T (nt T (nt T s)) 1 then uph (uph (uph L 9 (L 1 0).toNat (wc T (nt T s))) 1 0 (L 1 0 + 1)) 1 1 (zor (L 1 1) (zshl 1 (L 1 0))) else uph (uph L 9 (L 1 0).toNat (wc T (nt T s))) 1 0 (L 1 0 + 1)))
def hang (L : PH) (x y : Int) : PH := uph (uph L 2 x.toNat (zor (L 2 x.toNat) (zshl 1 y))) 2 y.toNat (zor (uph L 2 x.toNat (zor (L 2 x.toNat) (zshl 1 y)) 2 y.toNat) (zshl 1 x))
noncomputable def pDoor (T : TX) (s : Nat) (L : PH) : PR := if ho T L (nt T s) = -1 then noN T (nt T s) else if ho T L (nt T (nt T s)) = -1 then noN T (nt T (nt T s)) else if ho T L (nt T s) = ho T L (nt T (nt T s)) then bad T 5 (nt T (nt T s)) else semi T (nt T (nt T (nt T s))) (hang L (ho T L (nt T s)) (ho T L (nt T (nt T s))))
noncomputable def sbt (T : TX) (s : Nat) (w p : Int) : Int := if isW T s w then zshl 1 p else 0
/-- a PERSON behind its HOUSE x: what is said of it -/
noncomputable def pPers2 (T : TX) (s : Nat) (L : PH) (x : Int) : PR := semi T (tk T (tk T (tk T s 5) 6) 7) (uph (uph (uph (uph (uph (uph L 11 (L 0 4).toNat x) 12 (L 0 4).toNat x) 0 7 (zor (L 0 7) (sbt T s 5 (L 0 4)))) 0 8 (zor (L 0 8) (sbt T (tk T s 5) 6 (L 0 4)))) 0 9 (zor (L 0 9) (sbt T (tk T (tk T s 5) 6) 7 (L 0 4)))) 0 4 (L 0 4 + 1))
noncomputable def pPerson (T : TX) (s : Nat) (L : PH) : PR := if 8 ≤ L 0 4 then bad T 6 s else pNew T (nt T s) L (if isW T (nt T (nt T s)) 4 then (if ho T L (nt T (nt T (nt T s))) = -1 then noN T (nt T (nt T (nt T s))) else pPers2 T (nt T (nt T (nt T (nt T s)))) (uph L 10 (L 0 4).toNat (wc T (nt T s))) (ho T L (nt T (nt T (nt T s))))) else bad T 2 (nt T (nt T s)))
/-- two different PERSONS -/
noncomputable def pTwo (T : TX) (s : Nat) (L : PH) (k : Int → Int → PR) : PR := if pe T L (nt T s) = -1 then noN T (nt T s) else if pe T L (nt T (nt T s)) = -1 then noN T (nt T (nt T s)) else if pe T L (nt T (nt T s)) = pe T L (nt T s) then bad T 5 (nt T (nt T s)) else k (pe T L (nt T s)) (pe T L (nt T (nt T s)))
def owe (L : PH) (x y v : Int) : PH := uph (uph L 8 x.toNat (L 8 x.toNat + (v - L 7 (8 * x.toNat + y.toNat)))) 7 (8 * x.toNat + y.toNat) v
noncomputable def pOwes (T : TX) (s : Nat) (L : PH) : PR := pTwo T s L (fun x y => if kd T (nt T (nt T (nt T s))) = 3 then (if 0 ≤ vl T (nt T (nt T (nt T s))) ∧ vl T (nt T (nt T (nt T s))) ≤ 99 then semi T (nt T (nt T (nt T (nt T s)))) (owe L x y (vl T (nt T (nt T (nt T s))))) else bad T 4 (nt T (nt T (nt T s)))) else bad T 2 (nt T (nt T (nt T s))))
noncomputable def pHeir (T : TX) (s : Nat) (L : PH) : PR := pTwo T s L (fun x y => if fd (fun k => L 13 (3 * x.toNat + k)) y (L 14 x.toNat).toNat ≠ -1 then bad T 5 (nt T (nt T s)) else if 3 ≤ L 14 x.toNat then bad T 6 (nt T (nt T s)) else semi T (nt T (nt T (nt T s))) (uph (uph L 13 (3 * x.toNat + (L 14 x.toNat).toNat) y) 14 x.toNat (L 14 x.toNat + 1)))
noncomputable def pPart (T : TX) (s : Nat) (L : PH) : PR := if isW T s 0 then pHouse T s L else if isW T s 2 then pDoor T s L else if isW T s 3 then pPerson T s L else if isW T s 8 then pOwes T s L else if isW T s 9 then pHeir T s L else bad T 2 s
noncomputable def pl (T : TX) : Nat → Nat → PH → PR
  | 0, s, L => .inr (s, L)
  | f + 1, s, L => if kd T s = 0 then .inr (s, L) else (match pPart T s L with
    | .inl q => .inl q
    | .inr q => pl T f q.1 q.2)
/-- n numbers from i on together -/
def rs (g : Nat → Int) (i : Nat) : Nat → Int
  | 0 => 0
  | n + 1 => rs g i n + g (i + n)
theorem rs_cg {g g' : Nat → Int} {i : Nat} : ∀ (n : Nat), (∀ k, i ≤ k → k < i + n → g k = g' k) → rs g i n = rs g' i n
  | 0, _ => rfl
  | n + 1, h => by
    show rs g i n + g (i + n) = rs g' i n + g' (i + n)
    rw [rs_cg n (fun k a b => h k a (by omega)), h (i + n) (by omega) (by omega)]
theorem rs_up {g : Nat → Int} {i a : Nat} {v : Int} : ∀ (n : Nat), rs (fun k => if k = a then v else g k) i n = rs g i n + (if i ≤ a ∧ a < i + n then v - g a else 0)
  | 0 => by rw [if_neg (by omega)]; rfl
  | n + 1 => by
    show rs (fun k => if k = a then v else g k) i n + (if i + n = a then v else g (i + n)) = rs g i n + g (i + n) + _
    rw [rs_up n]
    by_cases e : i + n = a
    · rw [if_pos e, if_neg (by omega), if_pos (by omega), ← e]
      omega
    · rw [if_neg e]
      by_cases e2 : i ≤ a ∧ a < i + n
      · rw [if_pos e2, if_pos (by omega)]
        omega
      · rw [if_neg e2, if_neg (by omega)]
        omega
theorem rs_b {g : Nat → Int} {i : Nat} {lo hi : Int} : ∀ (n : Nat), (∀ k, i ≤ k → k < i + n → lo ≤ g k ∧ g k ≤ hi) → lo * n ≤ rs g i n ∧ rs g i n ≤ hi * n
  | 0, _ => by
    show lo * ((0 : Nat) : Int) ≤ 0 ∧ 0 ≤ hi * ((0 : Nat) : Int)
    simp
  | n + 1, h => by
    have a := rs_b n (fun k a b => h k a (by omega))
    have b := h (i + n) (by omega) (by omega)
    show lo * ((n + 1 : Nat) : Int) ≤ rs g i n + g (i + n) ∧ rs g i n + g (i + n) ≤ hi * ((n + 1 : Nat) : Int)
    rw [Int.natCast_add, Int.mul_add, Int.mul_add]
    omega
/-- a bit of a set; a set of numbers below n -/
def bt (v : Int) (i : Nat) : Int := zand (zshr v i) 1
theorem bt_or : ∀ s : Nat, s < 256 → ∀ n : Nat, n < 8 → (0 ≤ zor (s : Int) (zshl 1 (n : Int)) ∧ zor (s : Int) (zshl 1 (n : Int)) < 256 ∧ zor (s : Int) 0 = s) ∧ ∀ j : Nat, j < 8 → bt (zor (s : Int) (zshl 1 (n : Int))) j = if j = n then 1 else bt s j := by decide +kernel
def SB (v n : Int) : Prop := 0 ≤ v ∧ v < 256 ∧ ∀ i : Nat, i < 8 → n ≤ (i : Int) → bt v i = 0
theorem SB.mo {v n m : Int} (h : SB v n) (hm : n ≤ m) : SB v m := ⟨h.1, h.2.1, fun i hi hn => h.2.2 i hi (by omega)⟩
theorem SB.add {v n : Int} (h : SB v n) (h0 : 0 ≤ n) (h8 : n < 8) : SB (zor v (zshl 1 n)) (n + 1) ∧ ∀ j : Nat, j < 8 → bt (zor v (zshl 1 n)) j = if (j : Int) = n then 1 else bt v j := by
  obtain ⟨a, b⟩ := bt_or v.toNat (by have := h.1; have := h.2.1; omega) n.toNat (by omega)
  rw [Int.toNat_of_nonneg h.1, Int.toNat_of_nonneg h0] at a b
  refine ⟨⟨a.1, a.2.1, fun i hi hn => ?_⟩, fun j hj => ?_⟩
  · rw [b i hi, if_neg (by omega)]
    exact h.2.2 i hi (by omega)
  · rw [b j hj]
    by_cases e : (j : Int) = n
    · rw [if_pos e, if_pos (by omega)]
    · rw [if_neg e, if_neg (by omega)]
theorem SB.or0 {v n : Int} (h : SB v n) : zor v 0 = v := by
  obtain ⟨a, -⟩ := bt_or v.toNat (by have := h.1; have := h.2.1; omega) 0 (by omega)
  have c := a.2.2
  rw [Int.toNat_of_nonneg h.1] at c
  exact c
theorem SB.z (n : Int) : SB 0 n := ⟨by omega, by omega, fun i hi _ => by
  have : ∀ i : Nat, i < 8 → bt 0 i = 0 := by decide +kernel
  exact this i hi⟩
/-- what fits of a LAND's numbers while it is read -/
def WS (L : PH) : Prop := SB (L 1 1) (L 1 0) ∧ SB (L 0 7) (L 0 4) ∧ SB (L 0 8) (L 0 4) ∧ SB (L 0 9) (L 0 4)
def WL (L : PH) : Prop := (0 ≤ L 1 0 ∧ L 1 0 ≤ 7) ∧ (0 ≤ L 0 4 ∧ L 0 4 ≤ 8) ∧ (∀ p : Nat, p < 8 → 0 ≤ L 14 p ∧ L 14 p ≤ 3) ∧ (∀ p : Nat, p < 8 → L 8 p = rs (L 7) (8 * p) 8) ∧ (∀ a : Nat, a < 64 → 0 ≤ L 7 a ∧ L 7 a ≤ 99) ∧ WS L
theorem WL.s {L : PH} (h : WL L) : WS L := h.2.2.2.2.2
theorem WS.kp {L L' : PH} (h : WS L) (hF : ∀ j k : Nat, j = 0 ∨ j = 1 → L' j k = L j k) : WS L' := by
  unfold WS
  rw [hF 1 1 (by omega), hF 1 0 (by omega), hF 0 7 (by omega), hF 0 8 (by omega), hF 0 9 (by omega), hF 0 4 (by omega)]
  exact h
theorem WS.of {L : PH} {a n d f k p : Int} (e1 : L 1 1 = a) (e2 : L 1 0 = n) (e3 : L 0 7 = d) (e4 : L 0 8 = f) (e5 : L 0 9 = k) (e6 : L 0 4 = p) (h : SB a n ∧ SB d p ∧ SB f p ∧ SB k p) : WS L := by
  unfold WS
  rw [e1, e2, e3, e4, e5, e6]
  exact h
theorem WL.kp {L L' : PH} (hW : WL L) (hF : ∀ j k : Nat, j = 14 ∨ j = 8 ∨ j = 7 → L' j k = L j k) (h1 : 0 ≤ L' 1 0 ∧ L' 1 0 ≤ 7) (h2 : 0 ≤ L' 0 4 ∧ L' 0 4 ≤ 8) (h3 : WS L') : WL L' := ⟨h1, h2, fun p hp => by rw [hF 14 p (by omega)]; exact hW.2.2.1 p hp, fun p hp => by rw [hF 8 p (by omega), hW.2.2.2.1 p hp]; exact rs_cg 8 (fun k _ _ => (hF 7 k (by omega)).symm), fun a ha => by rw [hF 7 a (by omega)]; exact hW.2.2.2.2.1 a ha, h3⟩
theorem WL.tot {L : PH} (hW : WL L) {p : Nat} (hp : p < 8) : 0 ≤ L 8 p ∧ L 8 p ≤ 792 := by
  rw [hW.2.2.2.1 p hp]
  have := rs_b (g := L 7) (i := 8 * p) (lo := 0) (hi := 99) 8 (fun k a b => hW.2.2.2.2.1 k (by omega))
  omega
theorem WL.ow {L : PH} (hW : WL L) {x y v : Int} (hx : 0 ≤ x ∧ x < 8) (hy : 0 ≤ y ∧ y < 8) (hv : 0 ≤ v ∧ v ≤ 99) : WL (owe L x y v) := by
  generalize ha : x.toNat = X
  generalize hb : y.toNat = Y
  have h8 : ∀ k, owe L x y v 8 k = if k = X then L 8 X + (v - L 7 (8 * X + Y)) else L 8 k := fun k => by
    unfold owe
    rw [ha, hb, up_ne (by omega), up_rd]
    by_cases e : k = X
    · rw [if_pos ⟨rfl, e⟩, if_pos e]
    · rw [if_neg (fun q => e q.2), if_neg e]
  have h7 : owe L x y v 7 = fun k => if k = 8 * X + Y then v else L 7 k := funext (fun k => by
    unfold owe
    rw [ha, hb, up_rd]
    by_cases e : k = 8 * X + Y
    · rw [if_pos ⟨rfl, e⟩, if_pos e]
    · rw [if_neg (fun q => e q.2), if_neg e, up_ne (by omega)])
  have hO : ∀ j k, j ≠ 8 → j ≠ 7 → owe L x y v j k = L j k := fun j k a b => by
    unfold owe
    rw [up_ne (by omega), up_ne (by omega)]
  refine ⟨by rw [hO 1 0 (by omega) (by omega)]; exact hW.1, by rw [hO 0 4 (by omega) (by omega)]; exact hW.2.1, fun p hp => by rw [hO 14 p (by omega) (by omega)]; exact hW.2.2.1 p hp, fun p hp => ?_, fun a h => ?_, hW.s.kp (fun j k q => hO j k (by omega) (by omega))⟩
  · rw [h8, h7, rs_up]
    by_cases e : p = X
    · subst e
      rw [if_pos rfl, if_pos (by omega), hW.2.2.2.1 p hp]
    · rw [if_neg e, if_neg (by omega), hW.2.2.2.1 p hp]
      omega
  · rw [h7]
    dsimp only
    by_cases e : a = 8 * X + Y
    · rw [if_pos e]; exact hv
    · rw [if_neg e]; exact hW.2.2.2.2.1 a h
/-- a LAND of the class, at cells from b on -/
def inL (j k : Nat) : Prop := (j = 0 ∧ (k = 4 ∨ k = 7 ∨ k = 8 ∨ k = 9 ∨ k = 12 ∨ k = 13)) ∨ (j = 1 ∧ k < 2) ∨ (j = 2 ∧ k < 7) ∨ (j = 3 ∧ k < 49) ∨ (j = 4 ∧ k < 49) ∨ (j = 7 ∧ k < 64) ∨ (j = 8 ∧ k < 8) ∨ (j = 9 ∧ k < 7) ∨ (j = 10 ∧ k < 8) ∨ (j = 11 ∧ k < 8) ∨ (j = 12 ∧ k < 8) ∨ (j = 13 ∧ k < 24) ∨ (j = 14 ∧ k < 8) ∨ (j = 15 ∧ k < 7)
theorem il2 {k : Nat} (h : k < 7) : inL 2 k := Or.inr (Or.inr (Or.inl ⟨rfl, h⟩))
theorem il3 {k : Nat} (h : k < 49) : inL 3 k := Or.inr (Or.inr (Or.inr (Or.inl ⟨rfl, h⟩)))
theorem il4 {k : Nat} (h : k < 49) : inL 4 k := Or.inr (Or.inr (Or.inr (Or.inr (Or.inl ⟨rfl, h⟩))))
theorem il7 {k : Nat} (h : k < 64) : inL 7 k := Or.inr (Or.inr (Or.inr (Or.inr (Or.inr (Or.inl ⟨rfl, h⟩)))))
theorem il8 {k : Nat} (h : k < 8) : inL 8 k := Or.inr (Or.inr (Or.inr (Or.inr (Or.inr (Or.inr (Or.inl ⟨rfl, h⟩))))))
theorem il9 {k : Nat} (h : k < 7) : inL 9 k := Or.inr (Or.inr (Or.inr (Or.inr (Or.inr (Or.inr (Or.inr (Or.inl ⟨rfl, h⟩)))))))
theorem il10 {k : Nat} (h : k < 8) : inL 10 k := Or.inr (Or.inr (Or.inr (Or.inr (Or.inr (Or.inr (Or.inr (Or.inr (Or.inl ⟨rfl, h⟩))))))))
theorem il11 {k : Nat} (h : k < 8) : inL 11 k := Or.inr (Or.inr (Or.inr (Or.inr (Or.inr (Or.inr (Or.inr (Or.inr (Or.inr (Or.inl ⟨rfl, h⟩)))))))))
theorem il13 {k : Nat} (h : k < 24) : inL 13 k := Or.inr (Or.inr (Or.inr (Or.inr (Or.inr (Or.inr (Or.inr (Or.inr (Or.inr (Or.inr (Or.inr (Or.inl ⟨rfl, h⟩)))))))))))
theorem il14 {k : Nat} (h : k < 8) : inL 14 k := Or.inr (Or.inr (Or.inr (Or.inr (Or.inr (Or.inr (Or.inr (Or.inr (Or.inr (Or.inr (Or.inr (Or.inr (Or.inl ⟨rfl, h⟩))))))))))))
theorem il15 {k : Nat} (h : k < 7) : inL 15 k := Or.inr (Or.inr (Or.inr (Or.inr (Or.inr (Or.inr (Or.inr (Or.inr (Or.inr (Or.inr (Or.inr (Or.inr (Or.inr (⟨rfl, h⟩)))))))))))))
def CL (b : Nat) (h L : PH) : Prop := ∀ j k : Nat, inL j k → h (b + j) k = L j k
theorem CL.up {b : Nat} {h L : PH} (hL : CL b h L) (j k : Nat) (v : Int) : CL b (uph h (b + j) k v) (uph L j k v) := fun j' k' hi => by
  rw [up_rd, up_rd]
  by_cases e : j' = j ∧ k' = k
  · rw [if_pos e, if_pos ⟨by omega, e.2⟩]
  · rw [if_neg e, if_neg (fun q => e ⟨by omega, q.2⟩)]
    exact hL j' k' hi
theorem CL.fr {b : Nat} {h h' L : PH} (hL : CL b h L) (hF : ∀ c k : Nat, b ≤ c → c ≤ b + 15 → h' c k = h c k) : CL b h' L := fun j k hi => by
  rw [hF (b + j) k (by omega) (by unfold inL at hi; omega)]
  exact hL j k hi
/-- no FAULT yet, at a token; a FAULT -/
def CN (T : TX) (h : PH) (s : Nat) : Prop := CTk T h s ∧ h 2 10 = 0 ∧ h 2 11 = -1
def CF (h : PH) (a : Int) (s : Nat) : Prop := h 2 10 = a ∧ h 2 11 = (s : Int) ∧ a ≠ 0
def FT (h h' : PH) : Prop := ∀ c k : Nat, ¬ (c = 2 ∧ 4 ≤ k ∧ k ≤ 11) → h' c k = h c k
def FP (h h' : PH) : Prop := ∀ c k : Nat, ¬ ((c = 2 ∧ 4 ≤ k ∧ k ≤ 11) ∨ (27 ≤ c ∧ c ≤ 42)) → h' c k = h c k
theorem FT.tr {h h1 h2 : PH} (a : FT h h1) (b : FT h1 h2) : FT h h2 := fun c k q => by rw [b c k q, a c k q]
theorem FP.tr {h h1 h2 : PH} (a : FP h h1) (b : FP h1 h2) : FP h h2 := fun c k q => by rw [b c k q, a c k q]
theorem FT.P {h h' : PH} (a : FT h h') : FP h h' := fun c k q => a c k (by omega)
theorem FP.rf (h : PH) : FP h h := fun _ _ _ => rfl
theorem FT.rf (h : PH) : FT h h := fun _ _ _ => rfl
theorem FP.up {h h' : PH} (a : FP h h') {c k : Nat} {v : Int} (hc : 27 ≤ c ∧ c ≤ 42) : FP h (uph h' c k v) := fun c' k' q => by rw [up_ne (by omega)]; exact a c' k' q
theorem FT.L {b : Nat} {h h' L : PH} (a : FT h h') (hL : CL b h L) (hb : 3 ≤ b) : CL b h' L := hL.fr (fun c k _ _ => a c k (by omega))
theorem CN.kp {T : TX} {h h' : PH} {s : Nat} (hX : CN T h s) (hF : ∀ c k : Nat, c = 2 ∨ c = 3 ∨ c = 4 → h' c k = h c k) : CN T h' s := ⟨hX.1.kp (fun c k q => hF c k (by omega)), by rw [hF 2 10 (by omega)]; exact hX.2.1, by rw [hF 2 11 (by omega)]; exact hX.2.2⟩
theorem CN.up {T : TX} {h : PH} {s : Nat} (hX : CN T h s) {c k : Nat} {v : Int} (hc : 5 ≤ c) : CN T (uph h c k v) s := hX.kp (fun c' k' q => up_ne (by omega))
/-- a part is read: a FAULT, or a token and a LAND -/
def CO (T : TX) (b : Nat) (v : Int) (h : PH) (r : PR) : Prop := match r with
  | .inl q => v = 0 ∧ CF h q.1 q.2
  | .inr q => v = 1 ∧ CN T h q.1 ∧ CL b h q.2 ∧ WL q.2
