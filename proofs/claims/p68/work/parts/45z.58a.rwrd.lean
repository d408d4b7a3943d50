section
/-! 45z.58a.rwrd -/
/-! words and names of both sides -/
theorem kps_ok : ∀ n : Nat, n < 24 → kps.getD n 0 < kps.getD (n + 1) 0 ∧ kps.getD (n + 1) 0 ≤ kps.getD n 0 + 8 ∧ kps.getD (n + 1) 0 ≤ 124 ∧ sxl.getD (kps.getD (n + 1) 0 - 1) 0 = 32 ∧ kps.getD n 0 + 1 < kps.getD (n + 1) 0 := by decide +kernel
theorem sx_lt : ∀ n : Nat, n < 24 → ∀ d : Nat, d < 8 → kps.getD n 0 + d + 1 < kps.getD (n + 1) 0 → 97 ≤ sxl.getD (kps.getD n 0 + d) 0 ∧ sxl.getD (kps.getD n 0 + d) 0 ≤ 122 := by decide +kernel
/-- five bits a letter, letter by letter -/
def c5n (g : Nat → Int) : Nat → Int
  | 0 => 0
  | m + 1 => c5n g m * 32 + (g m - 96)
theorem c5n_cg {g g' : Nat → Int} : ∀ (m : Nat), (∀ i, i < m → g i = g' i) → c5n g m = c5n g' m
  | 0, _ => rfl
  | m + 1, h => by
    show c5n g m * 32 + (g m - 96) = c5n g' m * 32 + (g' m - 96)
    rw [c5n_cg m (fun i hi => h i (by omega)), h m (by omega)]
theorem c5n_b {g : Nat → Int} : ∀ (m : Nat), (∀ i, i < m → 97 ≤ g i ∧ g i ≤ 122) → 0 ≤ c5n g m ∧ c5n g m < 32 ^ m ∧ (1 ≤ m → 1 ≤ c5n g m)
  | 0, _ => by
    show (0 : Int) ≤ 0 ∧ (0 : Int) < 32 ^ 0 ∧ _
    omega
  | m + 1, h => by
    have a := c5n_b m (fun i hi => h i (by omega))
    have b := h m (by omega)
    have e : (32 : Int) ^ (m + 1) = 32 ^ m * 32 := Int.pow_succ _ _
    show 0 ≤ c5n g m * 32 + (g m - 96) ∧ c5n g m * 32 + (g m - 96) < 32 ^ (m + 1) ∧ _
    rw [e]
    refine ⟨by omega, by omega, fun _ => ?_⟩
    show 1 ≤ c5n g m * 32 + (g m - 96)
    omega
theorem c5n_in {g g' : Nat → Int} : ∀ (m m' : Nat), (∀ i, i < m → 97 ≤ g i ∧ g i ≤ 122) → (∀ i, i < m' → 97 ≤ g' i ∧ g' i ≤ 122) → c5n g m = c5n g' m' → m = m' ∧ ∀ i, i < m → g i = g' i
  | 0, 0, _, _, _ => ⟨rfl, fun i hi => by omega⟩
  | 0, m' + 1, _, h', e => by
    have := (c5n_b (m' + 1) h').2.2 (by omega)
    rw [← e] at this
    exact absurd this (by show ¬ (1 : Int) ≤ 0; omega)
  | m + 1, 0, h, _, e => by
    have := (c5n_b (m + 1) h).2.2 (by omega)
    rw [e] at this
    exact absurd this (by show ¬ (1 : Int) ≤ 0; omega)
  | m + 1, m' + 1, h, h', e => by
    have e : c5n g m * 32 + (g m - 96) = c5n g' m' * 32 + (g' m' - 96) := e
    have a := h m (by omega)
    have a' := h' m' (by omega)
    obtain ⟨q1, q2⟩ := c5n_in m m' (fun i hi => h i (by omega)) (fun i hi => h' i (by omega)) (by omega)
    subst q1
    refine ⟨rfl, fun i hi => ?_⟩
    by_cases z : i = m
    · rw [z]; omega
    · exact q2 i (by omega)
theorem c5_n {T : TX} {s : Nat} : ∀ (m : Nat), m ≤ 8 → (∀ t, s ≤ t → t < s + m → ltr (T.1 t)) → c5 T s m = c5n (fun i => T.1 (s + i)) m
  | 0, _, _ => rfl
  | m + 1, hm, h => by
    have a := c5_n m (by omega) (fun t h1 h2 => h t h1 (by omega))
    have b := h (s + m) (by omega) (by omega)
    unfold ltr at b
    have d := c5n_b (g := fun i => T.1 (s + i)) m (fun i hi => by have := h (s + i) (by omega) (by omega); unfold ltr at this; exact this)
    have p : (32 : Int) ^ m ≤ 34359738368 := by
      rcases (show m = 0 ∨ m = 1 ∨ m = 2 ∨ m = 3 ∨ m = 4 ∨ m = 5 ∨ m = 6 ∨ m = 7 by omega) with q | q | q | q | q | q | q | q <;> rw [q] <;> decide
    rw [c5_s, a, w64_id (z := c5n (fun i => T.1 (s + i)) m * 32) (by omega) (by omega), w64_id (z := c5n (fun i => T.1 (s + i)) m * 32 + T.1 (s + m)) (by omega) (by omega), w64_id (z := c5n (fun i => T.1 (s + i)) m * 32 + T.1 (s + m) - 97) (by omega) (by omega), w64_id (by omega) (by omega)]
    show _ = c5n (fun i => T.1 (s + i)) m * 32 + (T.1 (s + m) - 96)
    omega
/-- the letters of a word -/
theorem wd_lt {T : TX} {s : Nat} (hs : s ≤ T.2) (hk : kd T s = 2) : s < T.2 ∧ nx T s = run ltr T s ∧ Run ltr T s (nx T s) ∧ ltr (T.1 s) := by
  unfold kd at hk
  by_cases h : T.2 ≤ s
  · rw [if_pos h] at hk; omega
  · rw [if_neg h] at hk
    by_cases h1 : ltr (T.1 s)
    · have n1 : nx T s = run ltr T s := by unfold nx; rw [if_neg h, if_pos h1]
      exact ⟨by omega, n1, by rw [n1]; exact run_ok ltr hs, h1⟩
    · rw [if_neg h1] at hk
      split at hk
      · split at hk <;> omega
      · split at hk <;> omega
/-- a word is the n-th of the reference's where its number is -/
theorem wd_eq {T : TX} {s n : Nat} (hs : s ≤ T.2) (hk : kd T s = 2) (hn : n < 24) : rwt.getD n 0 = wc T s ↔ (kps.getD (n + 1) 0 - 1 - kps.getD n 0 = nx T s - s ∧ ∀ i : Nat, i < nx T s - s → sxl.getD (kps.getD n 0 + i) 0 = T.1 (s + i)) := by
  obtain ⟨k1, k2, k3, k4, k5⟩ := kps_ok n hn
  obtain ⟨w0, w1, w2, w3⟩ := wd_lt hs hk
  have hx : ∀ i, i < kps.getD (n + 1) 0 - 1 - kps.getD n 0 → 97 ≤ (fun i => sxl.getD (kps.getD n 0 + i) 0) i ∧ (fun i => sxl.getD (kps.getD n 0 + i) 0) i ≤ 122 := fun i hi => sx_lt n hn i (by omega) (by omega)
  have hr : rwt.getD n 0 = c5n (fun i => sxl.getD (kps.getD n 0 + i) 0) (kps.getD (n + 1) 0 - 1 - kps.getD n 0) := by
    have : ∀ n : Nat, n < 24 → rwt.getD n 0 = c5n (fun i => sxl.getD (kps.getD n 0 + i) 0) (kps.getD (n + 1) 0 - 1 - kps.getD n 0) := by decide +kernel
    exact this n hn
  have hw : ∀ t, s ≤ t → t < nx T s → ltr (T.1 t) := w2.2.2.1
  have hp : s < nx T s := (nx_b hs).2.2 (by rw [hk]; decide)
  unfold wc
  by_cases e : nx T s - s ≤ 8
  · rw [if_pos e, hr, c5_n _ e (fun t h1 h2 => hw t h1 (by omega))]
    constructor
    · intro q
      obtain ⟨q1, q2⟩ := c5n_in _ _ hx (fun i hi => hw (s + i) (by omega) (by omega)) q
      exact ⟨q1, fun i hi => q2 i (by omega)⟩
    · intro q
      rw [q.1]
      exact c5n_cg _ (fun i hi => q.2 i hi)
  · rw [if_neg e]
    constructor
    · intro q
      have := (c5n_b _ hx).2.2 (by omega)
      rw [← hr] at this
      omega
    · intro q
      omega
theorem wc_pos {T : TX} {s : Nat} (hs : s ≤ T.2) (hk : kd T s = 2) : wc T s ≠ 0 ↔ nx T s - s ≤ 8 := by
  obtain ⟨w0, w1, w2, w3⟩ := wd_lt hs hk
  have hw : ∀ t, s ≤ t → t < nx T s → ltr (T.1 t) := w2.2.2.1
  have hp : s < nx T s := (nx_b hs).2.2 (by rw [hk]; decide)
  unfold wc
  by_cases e : nx T s - s ≤ 8
  · rw [if_pos e, c5_n _ e (fun t h1 h2 => hw t h1 (by omega))]
    have := (c5n_b (g := fun i => T.1 (s + i)) (nx T s - s) (fun i hi => hw (s + i) (by omega) (by omega))).2.2 (by omega)
    exact ⟨fun _ => e, fun _ => by omega⟩
  · rw [if_neg e]
    exact ⟨fun z => absurd rfl z, fun z => absurd z e⟩
/-- the number of a keyword on both sides -/
def kpm : List Nat := [0, 2, 3, 8, 9, 1, 4, 5, 6, 7, 10, 11, 12, 13, 14, 16, 15, 17, 21, 22, 23, 18, 19, 20]
theorem rw_df : ∀ i : Nat, i < 24 → ∀ j : Nat, j < 24 → rwt.getD i 0 = rwt.getD j 0 → i = j := by decide +kernel
theorem kw_df : ∀ i : Nat, i < 24 → ∀ j : Nat, j < 24 → kwt.getD i 0 = kwt.getD j 0 → i = j := by decide +kernel
theorem rk_kw : ∀ i : Nat, i < 24 → rwt.getD i 0 = kwt.getD (kpm.getD i 0) 0 ∧ kpm.getD i 0 < 24 := by decide +kernel
theorem kp_on : ∀ j : Nat, j < 24 → ∃ i : Nat, i < 24 ∧ kpm.getD i 0 = j := by decide +kernel
theorem fd_is {g : Nat → Int} {x : Int} {n : Nat} (hd : ∀ i, i < n → ∀ j, j < n → g i = g j → i = j) {u : Nat} (hu : u < n) : fd g x n = u ↔ g u = x := by
  constructor
  · intro h
    rcases (show (∀ i, i < n → g i ≠ x) ∨ ∃ i, i < n ∧ g i = x from by
      by_cases q : ∃ i, i < n ∧ g i = x
      · exact Or.inr q
      · exact Or.inl (fun i hi z => q ⟨i, hi, z⟩)) with q | ⟨i, hi, q⟩
    · rw [fd_no n q] at h; omega
    · rw [fd_at n i hi (fun j hj z => by have := hd j (by omega) i hi (by rw [z, q]); omega) q] at h
      have : i = u := by omega
      rw [← this]; exact q
  · intro h
    exact fd_at n u hu (fun j hj z => by have := hd j (by omega) u hu (by rw [z, h]); omega) h
theorem kwl_b {x : Int} : ∀ (n : Nat), -1 ≤ kwl x n ∧ kwl x n < n
  | 0 => by show (-1 : Int) ≤ -1 ∧ (-1 : Int) < ((0 : Nat) : Int); omega
  | n + 1 => by
    have := kwl_b (x := x) n
    show -1 ≤ (if kwt.getD n 0 = x then (n : Int) else kwl x n) ∧ (if kwt.getD n 0 = x then (n : Int) else kwl x n) < ((n + 1 : Nat) : Int)
    split <;> omega
theorem kwl_is {x : Int} : ∀ (n : Nat), n ≤ 24 → ∀ u : Nat, u < n → (kwl x n = u ↔ kwt.getD u 0 = x)
  | 0, _, u, hu => by omega
  | n + 1, hn, u, hu => by
    show (if kwt.getD n 0 = x then (n : Int) else kwl x n) = u ↔ _
    by_cases e : kwt.getD n 0 = x
    · rw [if_pos e]
      constructor
      · intro h
        have : n = u := by omega
        rw [← this]; exact e
      · intro h
        have := kw_df n (by omega) u (by omega) (by rw [e, h])
        omega
    · rw [if_neg e]
      by_cases z : u = n
      · subst z
        have := kwl_b (x := x) u
        exact ⟨fun h => by omega, fun h => absurd h e⟩
      · exact kwl_is n (by omega) u (by omega)
/-- the reference's number of a word -/
noncomputable def rk (T : TX) (s : Nat) : Int := if kd T s = 2 then fd (fun i => rwt.getD i 0) (wc T s) 24 else -1
theorem rk_b (T : TX) (s : Nat) : -1 ≤ rk T s ∧ rk T s < 24 := by
  unfold rk
  split
  · have := fd_b (g := fun i => rwt.getD i 0) (x := wc T s) 24
    omega
  · omega
theorem rk_is {T : TX} {s : Nat} {i : Nat} (hi : i < 24) : rk T s = i ↔ isW T s ((kpm.getD i 0 : Nat) : Int) := by
  unfold rk isW kw
  by_cases e : kd T s = 2
  · rw [if_pos e, fd_is (g := fun i => rwt.getD i 0) rw_df hi, kwl_is 24 (by omega) _ (rk_kw i hi).2, (rk_kw i hi).1]
    exact ⟨fun h => ⟨e, h⟩, fun h => h.2⟩
  · rw [if_neg e]
    exact ⟨fun h => by omega, fun h => absurd h.1 e⟩
theorem rk_no {T : TX} {s : Nat} (hk : kd T s = 2) : rk T s = -1 ↔ kw T s = -1 := by
  constructor
  · intro h
    have b := kwl_b (x := wc T s) 24
    rcases (show kw T s < 0 ∨ 0 ≤ kw T s by omega) with q | q
    · unfold kw at q ⊢; omega
    · obtain ⟨i, h1, h2⟩ := kp_on (kw T s).toNat (by unfold kw; omega)
      have := (rk_is (T := T) (s := s) h1).mpr ⟨hk, by rw [h2]; omega⟩
      omega
  · intro h
    have b := rk_b T s
    rcases (show rk T s < 0 ∨ 0 ≤ rk T s by omega) with q | q
    · omega
    · have := (rk_is (T := T) (s := s) (i := (rk T s).toNat) (by omega)).mp (by omega)
      have := this.2
      omega
set_option maxRecDepth 10000 in
theorem v_X12_inWords {sl : Nat} {si : Nat → Int} {K : Nat → PH → ZL → List ZV → Prop} {Q : PH → List ZV → Prop} {h : PH}   (H : R32 (h 169 12) → ((h 169 12) = 2 → K 14 h [(3, (0, 1)), (2, (0, 0)), (0, (2, 169)), (1, (6, 3))] []) ∧ (¬ ((h 169 12) = 2) → Q h [(0, (-1))])) : vc (zz sl si (7, 0)) (fun p => Nat.beq p 14 || Nat.beq p 25 || Nat.beq p 68) K Q mX12_inWords 10 0 mX12_inWords.2.2.2.2.2.2 h [(0, (2, 169)), (1, (6, 3))] [] := H
set_option maxRecDepth 10000 in
theorem v_X12_inWords_14 {sl : Nat} {si : Nat → Int} {K : Nat → PH → ZL → List ZV → Prop} {Q : PH → List ZV → Prop} {h : PH}   {n k : Int} (H : ∀ h1 v1, CP (zz sl si (7, 0)) mJ0_length_8abf5 h [(6, 3)] h1 [(0, v1)] → R32 v1 → (v1 ≤ k → Q h1 [(0, (-1))]) ∧ (¬ (v1 ≤ k) → K 25 h1 [(4, (0, k)), (0, (2, 169)), (1, (6, 3)), (2, (0, n)), (3, (0, k))] [])) : vc (zz sl si (7, 0)) (fun p => Nat.beq p 14 || Nat.beq p 25 || Nat.beq p 68) K Q mX12_inWords 8 14 (ax_jmp mX12_inWords.2.2.2.2.2.2 14) h [(0, (2, 169)), (1, (6, 3)), (2, (0, n)), (3, (0, k))] [] := H
set_option maxRecDepth 10000 in
theorem v_X12_inWords_25 {sl : Nat} {si : Nat → Int} {K : Nat → PH → ZL → List ZV → Prop} {Q : PH → List ZV → Prop} {h : PH}   {n k e : Int} (H : ∀ h1 v1, CP (zz sl si (7, 0)) mJ0_charAt_5068e h [(6, 3), (0, e)] h1 [(0, v1)] → R32 v1 → (v1 = 32 → R32 (h1 169 14) → R32 (h1 169 13) → ((w32 (e - k)) ≠ (w32 ((h1 169 14) - (h1 169 13))) → K 68 h1 [(6, (0, k)), (5, (0, 0)), (0, (2, 169)), (1, (6, 3)), (2, (0, n)), (3, (0, k)), (4, (0, e))] []) ∧ (¬ ((w32 (e - k)) ≠ (w32 ((h1 169 14) - (h1 169 13)))) → K 68 h1 [(6, (0, k)), (5, (0, 1)), (0, (2, 169)), (1, (6, 3)), (2, (0, n)), (3, (0, k)), (4, (0, e))] [])) ∧ (¬ (v1 = 32) → K 25 h1 [(4, (0, w32 (e + 1))), (0, (2, 169)), (1, (6, 3)), (2, (0, n)), (3, (0, k))] [])) : vc (zz sl si (7, 0)) (fun p => Nat.beq p 14 || Nat.beq p 25 || Nat.beq p 68) K Q mX12_inWords 21 25 (ax_jmp mX12_inWords.2.2.2.2.2.2 25) h [(0, (2, 169)), (1, (6, 3)), (2, (0, n)), (3, (0, k)), (4, (0, e))] [] := H
set_option maxRecDepth 10000 in
theorem v_X12_inWords_68 {sl : Nat} {si : Nat → Int} {K : Nat → PH → ZL → List ZV → Prop} {Q : PH → List ZV → Prop} {h : PH}   {n k e l i : Int} (H : (e ≤ i → (l = 0 → K 14 h [(3, (0, w32 (e + 1))), (2, (0, w32 (n + 1))), (0, (2, 169)), (1, (6, 3)), (4, (0, e)), (5, (0, l)), (6, (0, i))] []) ∧ (¬ (l = 0) → Q h [(0, n)])) ∧ (¬ (e ≤ i) → (l = 0 → (l = 0 → K 14 h [(3, (0, w32 (e + 1))), (2, (0, w32 (n + 1))), (0, (2, 169)), (1, (6, 3)), (4, (0, e)), (5, (0, l)), (6, (0, i))] []) ∧ (¬ (l = 0) → Q h [(0, n)])) ∧ (¬ (l = 0) → ∀ h1 v1, CP (zz sl si (7, 0)) mJ0_charAt_5068e h [(6, 3), (0, i)] h1 [(0, v1)] → R32 v1 → R32 (h1 169 13) → ∀ h2 v2, CP (zz sl si (7, 0)) mX12_byteAt h1 [(2, 169), (0, w32 ((w32 ((h1 169 13) + i)) - k))] h2 [(0, v2)] → R32 v2 → (v1 ≠ v2 → K 68 h2 [(6, (0, w32 (i + 1))), (5, (0, 0)), (0, (2, 169)), (1, (6, 3)), (2, (0, n)), (3, (0, k)), (4, (0, e))] []) ∧ (¬ (v1 ≠ v2) → K 68 h2 [(6, (0, w32 (i + 1))), (5, (0, 1)), (0, (2, 169)), (1, (6, 3)), (2, (0, n)), (3, (0, k)), (4, (0, e))] [])))) : vc (zz sl si (7, 0)) (fun p => Nat.beq p 14 || Nat.beq p 25 || Nat.beq p 68) K Q mX12_inWords 24 68 (ax_jmp mX12_inWords.2.2.2.2.2.2 68) h [(0, (2, 169)), (1, (6, 3)), (2, (0, n)), (3, (0, k)), (4, (0, e)), (5, (0, l)), (6, (0, i))] [] := H
set_option maxHeartbeats 600000 in
theorem c_X12_inWords {sl : Nat} {si : Nat → Int} {h h' : PH} {T : TX} {s : Nat} {v : Int} (hN : RTk T h s) (hc : CP (zz sl si (7, 0)) mX12_inWords h [(2, 169), (6, 3)] h' [(0, v)]) : h' = h ∧ v = rk T s := by
  have q : (fun (xh : PH) (r : List ZV) => ∀ v : Int, r = [(0, v)] → (xh = h ∧ v = rk T s)) h' [(0, v)] := by
    refine cp_vc (cut := (fun p => Nat.beq p 14 || Nat.beq p 25 || Nat.beq p 68)) (K := fun p hx lv st => (p = 14 ∧ lK (fun u : Nat => [(0, (2, 169)), (1, (6, 3)), (2, (0, (u : Int))), (3, (0, ((kps.getD u 0 : Nat) : Int)))]) (fun u hx => hx = h ∧ kd T s = 2 ∧ u ≤ 24 ∧ ∀ j : Nat, j < u → rwt.getD j 0 ≠ wc T s) p hx lv st) ∨ (p = 25 ∧ lK (fun p : Nat × Nat => [(0, (2, 169)), (1, (6, 3)), (2, (0, (p.1 : Int))), (3, (0, ((kps.getD p.1 0 : Nat) : Int))), (4, (0, (p.2 : Int)))]) (fun p hx => hx = h ∧ kd T s = 2 ∧ p.1 < 24 ∧ (∀ j : Nat, j < p.1 → rwt.getD j 0 ≠ wc T s) ∧ kps.getD p.1 0 ≤ p.2 ∧ p.2 < kps.getD (p.1 + 1) 0) p hx lv st) ∨ (p = 68 ∧ lK (fun p : Nat × Nat × Int => [(0, (2, 169)), (1, (6, 3)), (2, (0, (p.1 : Int))), (3, (0, ((kps.getD p.1 0 : Nat) : Int))), (4, (0, ((kps.getD (p.1 + 1) 0 - 1 : Nat) : Int))), (5, (0, p.2.2)), (6, (0, (p.2.1 : Int)))]) (fun p hx => hx = h ∧ kd T s = 2 ∧ p.1 < 24 ∧ (∀ j : Nat, j < p.1 → rwt.getD j 0 ≠ wc T s) ∧ kps.getD p.1 0 ≤ p.2.1 ∧ p.2.1 < kps.getD (p.1 + 1) 0 ∧ (p.2.2 = 0 → rwt.getD p.1 0 ≠ wc T s) ∧ (p.2.2 ≠ 0 → (kps.getD (p.1 + 1) 0 - 1 - kps.getD p.1 0 = nx T s - s ∧ ∀ t : Nat, t < p.2.1 - kps.getD p.1 0 → sxl.getD (kps.getD p.1 0 + t) 0 = T.1 (s + t)))) p hx lv st)) (Q := fun (xh : PH) (r : List ZV) => ∀ v : Int, r = [(0, v)] → (xh = h ∧ v = rk T s)) (v_X12_inWords ?_) (fun pc hx lv st hcut hK => ?_) hc
    · exact (fun r1 => ⟨fun c2 => (by rw [hN.2.2.2.2.1] at c2; exact Or.inl ⟨rfl, rfl, 0, ⟨rfl, c2, by omega, fun j q => by omega⟩, rfl, rfl, rfl, rfl, trivial⟩), fun c2 => (by rw [hN.2.2.2.2.1] at c2; intro v e; cases e; exact ⟨rfl, by unfold rk; rw [if_neg c2]⟩)⟩)
    · rcases hK with ⟨rfl, rfl, u, hJ, hs⟩ | ⟨rfl, rfl, p, hJ, hs⟩ | ⟨rfl, rfl, p, hJ, hs⟩
      · obtain ⟨j0, j1, j2, j3⟩ := hJ
        subst j0
        have kk : u < 24 → kps.getD u 0 + 1 < kps.getD (u + 1) 0 ∧ kps.getD (u + 1) 0 ≤ 124 := fun q => ⟨(kps_ok u q).2.2.2.2, (kps_ok u q).2.2.1⟩
        have ke : kps.getD 24 0 = 124 := rfl
        exact ⟨_, _, hs, v_X12_inWords_14 (fun h1 v1 p1 q1 => by obtain ⟨t1, e1⟩ := c_J0_length_8abf5 p1; have t1 := t1.symm; subst t1; exact ⟨fun c1 => (by intro v e; cases e; have e24 : u = 24 := (by rcases Nat.lt_or_ge u 24 with q | q; (have := kk q; omega); omega); subst e24; exact ⟨rfl, by unfold rk; rw [if_pos j1, fd_no 24 j3]⟩), fun c1 => (by have u24 : u < 24 := (by rcases Nat.lt_or_ge u 24 with q | q; exact q; (have : u = 24 := (by omega); subst this; omega)); have := kk u24; exact Or.inr (Or.inl ⟨rfl, rfl, (u, kps.getD u 0), ⟨rfl, j1, u24, j3, Nat.le_refl _, by show kps.getD u 0 < kps.getD (u + 1) 0; omega⟩, rfl, rfl, rfl, rfl, rfl, trivial⟩))⟩)⟩
      · obtain ⟨j0, j1, j2, j3, j4, j5⟩ := hJ
        subst j0
        obtain ⟨k1, k2, k3, k4, k5⟩ := kps_ok p.1 j2
        have hp := (nx_b hN.2.1).1
        have hT := hN.1.1.1
        have hq := (nx_b hN.2.1).2.1
        have sx : SX.1 (p.2 : Int).toNat = sxl.getD p.2 0 := by rw [Int.toNat_natCast]; exact sx_all _ (by omega)
        have l32 : sxl.getD p.2 0 = 32 → p.2 = kps.getD (p.1 + 1) 0 - 1 := fun q => by
          rcases Nat.lt_or_ge (p.2 + 1) (kps.getD (p.1 + 1) 0) with z | z
          · have := sx_lt p.1 j2 (p.2 - kps.getD p.1 0) (by omega) (by omega)
            rw [show kps.getD p.1 0 + (p.2 - kps.getD p.1 0) = p.2 by omega] at this
            omega
          · omega
        have n32 : sxl.getD p.2 0 ≠ 32 → p.2 ≠ kps.getD (p.1 + 1) 0 - 1 := fun q z => q (by rw [z]; exact k4)
        exact ⟨_, _, hs, v_X12_inWords_25 (fun h1 v1 p1 q1 => ⟨fun c1 => (fun r2 => (fun r3 => ⟨fun c4 => (by obtain ⟨r1, w1⟩ := c_J0_charAt_5068e (by omega) (by omega) p1; have r1 := r1.symm; subst r1; rw [sx] at w1; have z := l32 (by omega); have wx : w32 (hx 169 14 - hx 169 13) = (nx T s : Int) - s := (by rw [hN.2.2.2.1, hN.2.2.1]; exact w32_id (by omega) (by omega)); have wy : w32 ((p.2 : Int) - ((kps.getD p.1 0 : Nat) : Int)) = (p.2 : Int) - (kps.getD p.1 0 : Nat) := w32_id (by omega) (by omega); rw [wx, wy] at c4; exact Or.inr (Or.inr ⟨rfl, rfl, (p.1, kps.getD p.1 0, 0), ⟨rfl, j1, j2, j3, Nat.le_refl _, k1, fun _ q => (by have := ((wd_eq hN.2.1 j1 j2).mp q).1; omega), fun q => absurd rfl q⟩, rfl, rfl, rfl, rfl, (by rw [← z]; rfl), rfl, rfl, trivial⟩)), fun c4 => (by obtain ⟨r1, w1⟩ := c_J0_charAt_5068e (by omega) (by omega) p1; have r1 := r1.symm; subst r1; rw [sx] at w1; have z := l32 (by omega); have wx : w32 (hx 169 14 - hx 169 13) = (nx T s : Int) - s := (by rw [hN.2.2.2.1, hN.2.2.1]; exact w32_id (by omega) (by omega)); have wy : w32 ((p.2 : Int) - ((kps.getD p.1 0 : Nat) : Int)) = (p.2 : Int) - (kps.getD p.1 0 : Nat) := w32_id (by omega) (by omega); rw [wx, wy] at c4; exact Or.inr (Or.inr ⟨rfl, rfl, (p.1, kps.getD p.1 0, 1), ⟨rfl, j1, j2, j3, Nat.le_refl _, k1, fun q => (by dsimp only at q; omega), fun _ => ⟨(by dsimp only; omega), fun t ht => (by have ht : t < kps.getD p.1 0 - kps.getD p.1 0 := ht; omega)⟩⟩, rfl, rfl, rfl, rfl, (by rw [← z]; rfl), rfl, rfl, trivial⟩))⟩)), fun c1 => (by obtain ⟨r1, w1⟩ := c_J0_charAt_5068e (by omega) (by omega) p1; have r1 := r1.symm; subst r1; rw [sx] at w1; have z := n32 (by omega); exact Or.inr (Or.inl ⟨rfl, rfl, (p.1, p.2 + 1), ⟨rfl, j1, j2, j3, (by dsimp only; omega), (by dsimp only; omega)⟩, rfl, rfl, rfl, rfl, wv (by omega) (by omega) (by omega), trivial⟩))⟩)⟩
      · obtain ⟨j0, j1, j2, j3, j4, j5, j6, j7⟩ := hJ
        subst j0
        obtain ⟨k1, k2, k3, k4, k5⟩ := kps_ok p.1 j2
        have hp := (nx_b hN.2.1).1
        have hT := hN.1.1.1
        have hq := (nx_b hN.2.1).2.1
        have WE := wd_eq (n := p.1) hN.2.1 j1 j2
        have sx : SX.1 (p.2.1 : Int).toNat = sxl.getD p.2.1 0 := by rw [Int.toNat_natCast]; exact sx_all _ (by omega)
        have nxt : rwt.getD p.1 0 ≠ wc T s → ∀ j : Nat, j < p.1 + 1 → rwt.getD j 0 ≠ wc T s := fun q j hj => by
          by_cases z : j = p.1
          · rw [z]; exact q
          · exact j3 j (by omega)
        exact ⟨_, _, hs, v_X12_inWords_68 ⟨fun c1 => ⟨fun c2 => (by exact Or.inl ⟨rfl, rfl, p.1 + 1, ⟨rfl, j1, by omega, nxt (j6 c2)⟩, rfl, rfl, wv (by omega) (by omega) (by omega), wv (by omega) (by omega) (by omega), trivial⟩), fun c2 => (by intro v e; cases e; obtain ⟨y1, y2⟩ := j7 c2; have yy := WE.mpr ⟨y1, fun t ht => y2 t (by omega)⟩; exact ⟨rfl, by unfold rk; rw [if_pos j1, fd_at 24 p.1 j2 j3 yy]⟩)⟩, fun c1 => ⟨fun c3 => ⟨fun c4 => (by exact Or.inl ⟨rfl, rfl, p.1 + 1, ⟨rfl, j1, by omega, nxt (j6 c3)⟩, rfl, rfl, wv (by omega) (by omega) (by omega), wv (by omega) (by omega) (by omega), trivial⟩), fun c4 => (by exact absurd c3 c4)⟩, fun c3 => (fun h1 v1 p1 q1 => (fun r5 => (fun h2 v2 p2 q2 => ⟨fun c6 => (by have l0 : p.2.2 ≠ 0 := c3; obtain ⟨y1, y2⟩ := j7 l0; obtain ⟨r1, w1⟩ := c_J0_charAt_5068e (by omega) (by omega) p1; have r1 := r1.symm; subst r1; rw [sx] at w1; have wi : w32 ((w32 ((hx 169 13) + (p.2.1 : Int))) - ((kps.getD p.1 0 : Nat) : Int)) = ((s + (p.2.1 - kps.getD p.1 0) : Nat) : Int) := (by rw [hN.2.2.1, w32_id (z := (s : Int) + (p.2.1 : Int)) (by omega) (by omega), w32_id (by omega) (by omega)]; omega); rw [wi] at p2; obtain ⟨r2, w2⟩ := c_X12_byteAt hN.1 (by omega) p2; have r2 := r2.symm; subst r2; rw [Int.toNat_natCast] at w2; have bt : bT T (s + (p.2.1 - kps.getD p.1 0)) = T.1 (s + (p.2.1 - kps.getD p.1 0)) := if_pos (by omega); rw [bt] at w2; exact Or.inr (Or.inr ⟨rfl, rfl, (p.1, p.2.1 + 1, 0), ⟨rfl, j1, j2, j3, (by dsimp only; omega), (by dsimp only; omega), fun _ q => (by have := (WE.mp q).2 (p.2.1 - kps.getD p.1 0) (by omega); rw [show kps.getD p.1 0 + (p.2.1 - kps.getD p.1 0) = p.2.1 by omega] at this; omega), fun q => absurd rfl q⟩, rfl, rfl, rfl, rfl, rfl, rfl, wv (by omega) (by omega) (by first | omega | (dsimp only; omega)), trivial⟩)), fun c6 => (by have l0 : p.2.2 ≠ 0 := c3; obtain ⟨y1, y2⟩ := j7 l0; obtain ⟨r1, w1⟩ := c_J0_charAt_5068e (by omega) (by omega) p1; have r1 := r1.symm; subst r1; rw [sx] at w1; have wi : w32 ((w32 ((hx 169 13) + (p.2.1 : Int))) - ((kps.getD p.1 0 : Nat) : Int)) = ((s + (p.2.1 - kps.getD p.1 0) : Nat) : Int) := (by rw [hN.2.2.1, w32_id (z := (s : Int) + (p.2.1 : Int)) (by omega) (by omega), w32_id (by omega) (by omega)]; omega); rw [wi] at p2; obtain ⟨r2, w2⟩ := c_X12_byteAt hN.1 (by omega) p2; have r2 := r2.symm; subst r2; rw [Int.toNat_natCast] at w2; have bt : bT T (s + (p.2.1 - kps.getD p.1 0)) = T.1 (s + (p.2.1 - kps.getD p.1 0)) := if_pos (by omega); rw [bt] at w2; exact Or.inr (Or.inr ⟨rfl, rfl, (p.1, p.2.1 + 1, 1), ⟨rfl, j1, j2, j3, (by dsimp only; omega), (by dsimp only; omega), fun q => (by dsimp only at q; omega), fun _ => ⟨y1, fun t ht => (by have ht : t < p.2.1 + 1 - kps.getD p.1 0 := ht; show sxl.getD (kps.getD p.1 0 + t) 0 = T.1 (s + t); by_cases z : t = p.2.1 - kps.getD p.1 0; (rw [z, show kps.getD p.1 0 + (p.2.1 - kps.getD p.1 0) = p.2.1 by omega]; omega); exact y2 t (by omega))⟩⟩, rfl, rfl, rfl, rfl, rfl, rfl, wv (by omega) (by omega) (by first | omega | (dsimp only; omega)), trivial⟩))⟩)))⟩⟩⟩
  exact q v rfl
end
section
/-! 45z.58b.rnam -/
/-! names: eight bits a letter -/
theorem zl8 {x b : Int} (h0 : 0 ≤ x) (h1 : x < 36028797018963968) (h2 : 0 ≤ b) (h3 : b < 256) : zlor (zlshl x 8) b = x * 256 + b := by
  have ex : (Int64.ofInt x).toInt = x := o64R ⟨by omega, by omega⟩
  have eb : (Int64.ofInt b).toInt = b := o64R ⟨by omega, by omega⟩
  have es : (Int64.ofInt x <<< ((Int32.ofInt 8).toInt64 &&& 63)).toInt = x * 2 ^ 8 := by
    rw [Kit.i64_shl (k := 8) _ _ (by decide +kernel) (by rw [ex]; omega) (by rw [ex]; omega), ex]
  have e2 : zlshl x 8 = x * 256 := es
  have ey : (Int64.ofInt (x * 256)).toInt = x * 256 := o64R ⟨by omega, by omega⟩
  unfold zlor
  rw [e2, k2_or_add (k := 8) (z := x) (by omega) h0 (by rw [ey]; rfl) (by rw [eb]; exact h2) (by rw [eb]; exact h3) (by rw [eb]; omega), ey, eb]
def c8n (g : Nat → Int) : Nat → Int
  | 0 => 0
  | m + 1 => c8n g m * 256 + g m
theorem c8n_cg {g g' : Nat → Int} : ∀ (m : Nat), (∀ i, i < m → g i = g' i) → c8n g m = c8n g' m
  | 0, _ => rfl
  | m + 1, h => by
    show c8n g m * 256 + g m = c8n g' m * 256 + g' m
    rw [c8n_cg m (fun i hi => h i (by omega)), h m (by omega)]
theorem c8n_b {g : Nat → Int} : ∀ (m : Nat), (∀ i, i < m → 97 ≤ g i ∧ g i ≤ 122) → 0 ≤ c8n g m ∧ 2 * c8n g m < 256 ^ m ∧ (1 ≤ m → 1 ≤ c8n g m)
  | 0, _ => by
    show (0 : Int) ≤ 0 ∧ 2 * (0 : Int) < 256 ^ 0 ∧ _
    omega
  | m + 1, h => by
    have a := c8n_b m (fun i hi => h i (by omega))
    have b := h m (by omega)
    have e : (256 : Int) ^ (m + 1) = 256 ^ m * 256 := Int.pow_succ _ _
    show 0 ≤ c8n g m * 256 + g m ∧ 2 * (c8n g m * 256 + g m) < 256 ^ (m + 1) ∧ _
    rw [e]
    refine ⟨by omega, by omega, fun _ => ?_⟩
    show 1 ≤ c8n g m * 256 + g m
    omega
theorem c8n_in {g g' : Nat → Int} : ∀ (m m' : Nat), (∀ i, i < m → 97 ≤ g i ∧ g i ≤ 122) → (∀ i, i < m' → 97 ≤ g' i ∧ g' i ≤ 122) → c8n g m = c8n g' m' → m = m' ∧ ∀ i, i < m → g i = g' i
  | 0, 0, _, _, _ => ⟨rfl, fun i hi => by omega⟩
  | 0, m' + 1, _, h', e => by
    have := (c8n_b (m' + 1) h').2.2 (by omega)
    rw [← e] at this
    exact absurd this (by show ¬ (1 : Int) ≤ 0; omega)
  | m + 1, 0, h, _, e => by
    have := (c8n_b (m + 1) h).2.2 (by omega)
    rw [e] at this
    exact absurd this (by show ¬ (1 : Int) ≤ 0; omega)
  | m + 1, m' + 1, h, h', e => by
    have e : c8n g m * 256 + g m = c8n g' m' * 256 + g' m' := e
    have a := h m (by omega)
    have a' := h' m' (by omega)
    obtain ⟨q1, q2⟩ := c8n_in m m' (fun i hi => h i (by omega)) (fun i hi => h' i (by omega)) (by omega)
    subst q1
    refine ⟨rfl, fun i hi => ?_⟩
    by_cases z : i = m
    · rw [z]; omega
    · exact q2 i (by omega)
theorem c8_n {T : TX} {s : Nat} : ∀ (m : Nat), m ≤ 8 → (∀ t, s ≤ t → t < s + m → ltr (T.1 t)) → c8 T s m = c8n (fun i => T.1 (s + i)) m
  | 0, _, _ => rfl
  | m + 1, hm, h => by
    have a := c8_n m (by omega) (fun t h1 h2 => h t h1 (by omega))
    have b := h (s + m) (by omega) (by omega)
    unfold ltr at b
    have d := c8n_b (g := fun i => T.1 (s + i)) m (fun i hi => by have := h (s + i) (by omega) (by omega); unfold ltr at this; exact this)
    have p : (256 : Int) ^ m ≤ 72057594037927936 := by
      rcases (show m = 0 ∨ m = 1 ∨ m = 2 ∨ m = 3 ∨ m = 4 ∨ m = 5 ∨ m = 6 ∨ m = 7 by omega) with q | q | q | q | q | q | q | q <;> rw [q] <;> decide
    show zlor (zlshl (c8 T s m) 8) (T.1 (s + m)) = c8n (fun i => T.1 (s + i)) m * 256 + T.1 (s + m)
    rw [a, zl8 (by omega) (by omega) (by omega) (by omega)]
/-- one name both ways -/
def Nm (c d : Int) : Prop := ∃ (g : Nat → Int) (m : Nat), 1 ≤ m ∧ m ≤ 8 ∧ (∀ i, i < m → 97 ≤ g i ∧ g i ≤ 122) ∧ c = c5n g m ∧ d = c8n g m
theorem Nm.iff {c d c' d' : Int} (h : Nm c d) (h' : Nm c' d') : c = c' ↔ d = d' := by
  obtain ⟨g, m, -, -, a, rfl, rfl⟩ := h
  obtain ⟨g', m', -, -, a', rfl, rfl⟩ := h'
  constructor
  · intro e
    obtain ⟨q1, q2⟩ := c5n_in m m' a a' e
    subst q1
    exact c8n_cg m q2
  · intro e
    obtain ⟨q1, q2⟩ := c8n_in m m' a a' e
    subst q1
    exact c5n_cg m q2
theorem Nm.tok {T : TX} {s : Nat} (hs : s ≤ T.2) (h : isN T s) : Nm (wc T s) (c8 T s (nx T s - s)) := by
  have w := wd_lt hs h.1
  have e := (wc_pos hs h.1).mp h.2.2
  have hp : s < nx T s := (nx_b hs).2.2 (by rw [h.1]; decide)
  have hw : ∀ t, s ≤ t → t < nx T s → ltr (T.1 t) := w.2.2.1.2.2.1
  refine ⟨fun i => T.1 (s + i), nx T s - s, by omega, e, fun i hi => hw (s + i) (by omega) (by omega), ?_, ?_⟩
  · unfold wc
    rw [if_pos e, c5_n _ e (fun t h1 h2 => hw t h1 (by omega))]
  · exact c8_n _ e (fun t h1 h2 => hw t h1 (by omega))
theorem fd_nm {g g' : Nat → Int} {x x' : Int} (hx : Nm x x') : ∀ (n : Nat), (∀ i, i < n → Nm (g i) (g' i)) → fd g' x' n = fd g x n
  | 0, _ => rfl
  | n + 1, h => by
    show (if fd g' x' n = -1 then (if g' n = x' then (n : Int) else -1) else fd g' x' n) = (if fd g x n = -1 then (if g n = x then (n : Int) else -1) else fd g x n)
    rw [fd_nm hx n (fun i hi => h i (by omega))]
    by_cases e : g n = x
    · rw [if_pos e, if_pos (((h n (by omega)).iff hx).mp e)]
    · rw [if_neg e, if_neg (fun z => e (((h n (by omega)).iff hx).mpr z))]
theorem RN.ek {T : TX} {h : PH} {s : Nat} (hN : RN T h s) : h 169 12 = kd T s := hN.1.2.2.2.2.1
theorem RN.ev {T : TX} {h : PH} {s : Nat} (hN : RN T h s) (q : kd T s = 3 ∨ kd T s = 4) : h 169 15 = vl T s := hN.1.2.2.2.2.2 q
theorem RN.es {T : TX} {h : PH} {s : Nat} (hN : RN T h s) : h 169 13 = (s : Int) := hN.1.2.2.1
theorem RN.ex {T : TX} {h : PH} {s : Nat} (hN : RN T h s) : h 169 14 = (nx T s : Int) := hN.1.2.2.2.1
theorem r_adv {sl : Nat} {si : Nat → Int} {h h' : PH} {T : TX} {s : Nat} (hN : RN T h s) (hc : CP (zz sl si (7, 0)) mX12_ahead h [(2, 169)] h' []) : RN T h' (nt T s) ∧ GTk h h' := by
  obtain ⟨a, b⟩ := c_X12_ahead hN.1.1 (nx_b hN.1.2.1).2.1 hN.ex hc
  exact ⟨⟨a, by rw [b 169 18 (by omega)]; exact hN.2.1, by rw [b 169 17 (by omega)]; exact hN.2.2⟩, fun c k q => b c k (by omega)⟩
set_option maxRecDepth 10000 in
theorem v_X12_fails {sl : Nat} {si : Nat → Int} {K : Nat → PH → ZL → List ZV → Prop} {Q : PH → List ZV → Prop} {h : PH} {a : Int} (H : R32 (h 169 18) → ((h 169 18) ≠ 0 → Q h [(0, 0)]) ∧ (¬ ((h 169 18) ≠ 0) → R32 (h 169 12) → ((h 169 12) ≠ 1 → R32 (h 169 13) → Q (uph (uph h 169 18 a) 169 17 (h 169 13)) [(0, 0)]) ∧ (¬ ((h 169 12) ≠ 1) → R32 (h 169 13) → Q (uph (uph h 169 18 1) 169 17 (h 169 13)) [(0, 0)]))) : vc (zz sl si (7, 0)) (fun _ => false) K Q mX12_fails 19 0 mX12_fails.2.2.2.2.2.2 h [(0, (2, 169)), (1, (0, a))] [] := H
theorem c_X12_fails {sl : Nat} {si : Nat → Int} {h h' : PH} {a : Int} {v : Int} (hc : CP (zz sl si (7, 0)) mX12_fails h [(2, 169), (0, a)] h' [(0, v)]) : v = 0 ∧ (h 169 18 ≠ 0 → h' = h) ∧ (h 169 18 = 0 → h' = uph (uph h 169 18 (if h 169 12 = 1 then 1 else a)) 169 17 (h 169 13)) := by
  have q := cp_vc (K := fun _ _ _ _ => True) (Q := fun (xh : PH) (r : List ZV) => ∀ v : Int, r = [(0, v)] → (v = 0 ∧ (h 169 18 ≠ 0 → xh = h) ∧ (h 169 18 = 0 → xh = uph (uph h 169 18 (if h 169 12 = 1 then 1 else a)) 169 17 (h 169 13)))) (v_X12_fails (fun r1 => ⟨fun c2 => (by (intro v e; cases e; (refine ⟨rfl, fun z => ?_, fun z => ?_⟩ <;> first | rfl | (exfalso; omega) | (rw [if_pos (by omega)]) | (rw [if_neg (by omega)])))), fun c2 => (fun r3 => ⟨fun c4 => (fun r5 => (by (intro v e; cases e; (refine ⟨rfl, fun z => ?_, fun z => ?_⟩ <;> first | rfl | (exfalso; omega) | (rw [if_pos (by omega)]) | (rw [if_neg (by omega)]))))), fun c4 => (fun r6 => (by (intro v e; cases e; (refine ⟨rfl, fun z => ?_, fun z => ?_⟩ <;> first | rfl | (exfalso; omega) | (rw [if_pos (by omega)]) | (rw [if_neg (by omega)])))))⟩)⟩)) (fun _ _ _ _ z _ => Bool.noConfusion z) hc
  exact q v rfl
theorem r_fl {sl : Nat} {si : Nat → Int} {h h' : PH} {T : TX} {s : Nat} {a v : Int} (hN : RN T h s) (ha : 0 < a) (hc : CP (zz sl si (7, 0)) mX12_fails h [(2, 169), (0, a)] h' [(0, v)]) : v = 0 ∧ RF h' (fltk T a s) s ∧ GTk h h' := by
  obtain ⟨e1, -, e2⟩ := c_X12_fails hc
  have e := e2 hN.2.1
  subst e
  refine ⟨e1, ⟨?_, ?_, ?_⟩, fun c k q => by rw [up_ne (by omega), up_ne (by omega)]⟩
  · rw [up_ne (by omega), up_sm, hN.ek]; rfl
  · rw [up_sm, hN.es]
  · unfold fltk
    split <;> omega
theorem sg_iff {T : TX} {h : PH} {s : Nat} {a : Int} (hN : RN T h s) : (h 169 12 = 4 ∧ h 169 15 = a) ↔ isG T s a := by
  rw [hN.ek]
  constructor
  · intro q
    exact ⟨q.1, by rw [← hN.ev (Or.inr q.1)]; exact q.2⟩
  · intro q
    exact ⟨q.1, by rw [hN.ev (Or.inr q.1)]; exact q.2⟩
set_option maxRecDepth 10000 in
theorem v_X12_wantSign {sl : Nat} {si : Nat → Int} {K : Nat → PH → ZL → List ZV → Prop} {Q : PH → List ZV → Prop} {h : PH}   {a : Int} (H : ∀ h1 v1, CP (zz sl si (7, 0)) mX12_isSign h [(2, 169), (0, a)] h1 [(0, v1)] → v1 = 0 ∨ v1 = 1 → (v1 ≠ 0 → ∀ h2, CP (zz sl si (7, 0)) mX12_ahead h1 [(2, 169)] h2 [] → Q h2 [(0, 1)]) ∧ (¬ (v1 ≠ 0) → ∀ h3 v3, CP (zz sl si (7, 0)) mX12_fails h1 [(2, 169), (0, 2)] h3 [(0, v3)] → v3 = 0 ∨ v3 = 1 → Q h3 [(0, v3)])) : vc (zz sl si (7, 0)) (fun _ => false) K Q mX12_wantSign 10 0 mX12_wantSign.2.2.2.2.2.2 h [(0, (2, 169)), (1, (0, a))] [] := H
set_option maxHeartbeats 600000 in
theorem c_X12_wantSign {sl : Nat} {si : Nat → Int} {h h' : PH} {T : TX} {s : Nat} {a : Int} {v : Int} (hN : RN T h s) (hc : CP (zz sl si (7, 0)) mX12_wantSign h [(2, 169), (0, a)] h' [(0, v)]) : (v = 1 → isG T s a ∧ RN T h' (nt T s)) ∧ (v = 0 → ¬ isG T s a ∧ RF h' (fltk T 2 s) s) ∧ GTk h h' := by
  have q : (fun (xh : PH) (r : List ZV) => ∀ v : Int, r = [(0, v)] → ((v = 1 → isG T s a ∧ RN T xh (nt T s)) ∧ (v = 0 → ¬ isG T s a ∧ RF xh (fltk T 2 s) s) ∧ GTk h xh)) h' [(0, v)] := by
    refine cp_vc (cut := (fun _ => false)) (K := fun p hx lv st => False) (Q := fun (xh : PH) (r : List ZV) => ∀ v : Int, r = [(0, v)] → ((v = 1 → isG T s a ∧ RN T xh (nt T s)) ∧ (v = 0 → ¬ isG T s a ∧ RF xh (fltk T 2 s) s) ∧ GTk h xh)) (v_X12_wantSign ?_) (fun pc hx lv st hcut hK => ?_) hc
    · exact (fun h1 v1 p1 q1 => by obtain ⟨t1, e1⟩ := c_X12_isSign p1; have t1 := t1.symm; subst t1; exact ⟨fun c1 => (fun h2 p2 => (by intro v e; cases e; obtain ⟨a1, a2⟩ := r_adv hN p2; exact ⟨fun _ => ⟨(sg_iff hN).mp (e1.mp (by omega)), a1⟩, fun z => by omega, a2⟩)), fun c1 => (fun h3 v3 p3 q3 => (by intro v e; cases e; obtain ⟨a1, a2, a3⟩ := r_fl hN (by omega) p3; exact ⟨fun z => by omega, fun _ => ⟨fun z => by have := e1.mpr ((sg_iff hN).mpr z); omega, a2⟩, a3⟩))⟩)
    · exact hK.elim
  exact q v rfl
set_option maxRecDepth 10000 in
theorem v_X12_wantWord {sl : Nat} {si : Nat → Int} {K : Nat → PH → ZL → List ZV → Prop} {Q : PH → List ZV → Prop} {h : PH}   {a : Int} (H : ∀ h1 v1, CP (zz sl si (7, 0)) mX12_inWords h [(2, 169), (6, 3)] h1 [(0, v1)] → R32 v1 → (v1 = a → ∀ h2, CP (zz sl si (7, 0)) mX12_ahead h1 [(2, 169)] h2 [] → Q h2 [(0, 1)]) ∧ (¬ (v1 = a) → ∀ h3 v3, CP (zz sl si (7, 0)) mX12_fails h1 [(2, 169), (0, 2)] h3 [(0, v3)] → v3 = 0 ∨ v3 = 1 → Q h3 [(0, v3)])) : vc (zz sl si (7, 0)) (fun _ => false) K Q mX12_wantWord 11 0 mX12_wantWord.2.2.2.2.2.2 h [(0, (2, 169)), (1, (6, 3)), (2, (0, a))] [] := H
set_option maxHeartbeats 600000 in
theorem c_X12_wantWord {sl : Nat} {si : Nat → Int} {h h' : PH} {T : TX} {s : Nat} {a : Int} {v : Int} (hN : RN T h s) (hc : CP (zz sl si (7, 0)) mX12_wantWord h [(2, 169), (6, 3), (0, a)] h' [(0, v)]) : (v = 1 → rk T s = a ∧ RN T h' (nt T s)) ∧ (v = 0 → rk T s ≠ a ∧ RF h' (fltk T 2 s) s) ∧ GTk h h' := by
  have q : (fun (xh : PH) (r : List ZV) => ∀ v : Int, r = [(0, v)] → ((v = 1 → rk T s = a ∧ RN T xh (nt T s)) ∧ (v = 0 → rk T s ≠ a ∧ RF xh (fltk T 2 s) s) ∧ GTk h xh)) h' [(0, v)] := by
    refine cp_vc (cut := (fun _ => false)) (K := fun p hx lv st => False) (Q := fun (xh : PH) (r : List ZV) => ∀ v : Int, r = [(0, v)] → ((v = 1 → rk T s = a ∧ RN T xh (nt T s)) ∧ (v = 0 → rk T s ≠ a ∧ RF xh (fltk T 2 s) s) ∧ GTk h xh)) (v_X12_wantWord ?_) (fun pc hx lv st hcut hK => ?_) hc
    · exact (fun h1 v1 p1 q1 => ⟨fun c1 => (fun h2 p2 => (by intro v e; cases e; obtain ⟨r1, w1⟩ := c_X12_inWords hN.1 p1; have r1 := r1.symm; subst r1; obtain ⟨a1, a2⟩ := r_adv hN p2; exact ⟨fun _ => ⟨by omega, a1⟩, fun z => by omega, a2⟩)), fun c1 => (fun h3 v3 p3 q3 => (by intro v e; cases e; obtain ⟨r1, w1⟩ := c_X12_inWords hN.1 p1; have r1 := r1.symm; subst r1; obtain ⟨a1, a2, a3⟩ := r_fl hN (by omega) p3; exact ⟨fun z => by omega, fun _ => ⟨by omega, a2⟩, a3⟩))⟩)
    · exact hK.elim
  exact q v rfl
set_option maxRecDepth 10000 in
theorem v_X12_isThere {sl : Nat} {si : Nat → Int} {K : Nat → PH → ZL → List ZV → Prop} {Q : PH → List ZV → Prop} {h : PH}   {a : Int} (H : ∀ h1 v1, CP (zz sl si (7, 0)) mX12_inWords h [(2, 169), (6, 3)] h1 [(0, v1)] → R32 v1 → (v1 = a → ∀ h2, CP (zz sl si (7, 0)) mX12_ahead h1 [(2, 169)] h2 [] → Q h2 [(0, 1)]) ∧ (¬ (v1 = a) → Q h1 [(0, 0)])) : vc (zz sl si (7, 0)) (fun _ => false) K Q mX12_isThere 11 0 mX12_isThere.2.2.2.2.2.2 h [(0, (2, 169)), (1, (0, a))] [] := H
set_option maxHeartbeats 600000 in
theorem c_X12_isThere {sl : Nat} {si : Nat → Int} {h h' : PH} {T : TX} {s : Nat} {a : Int} {v : Int} (hN : RN T h s) (hc : CP (zz sl si (7, 0)) mX12_isThere h [(2, 169), (0, a)] h' [(0, v)]) : (v = 1 ↔ rk T s = a) ∧ RN T h' (if rk T s = a then nt T s else s) ∧ GTk h h' := by
  have q : (fun (xh : PH) (r : List ZV) => ∀ v : Int, r = [(0, v)] → ((v = 1 ↔ rk T s = a) ∧ RN T xh (if rk T s = a then nt T s else s) ∧ GTk h xh)) h' [(0, v)] := by
    refine cp_vc (cut := (fun _ => false)) (K := fun p hx lv st => False) (Q := fun (xh : PH) (r : List ZV) => ∀ v : Int, r = [(0, v)] → ((v = 1 ↔ rk T s = a) ∧ RN T xh (if rk T s = a then nt T s else s) ∧ GTk h xh)) (v_X12_isThere ?_) (fun pc hx lv st hcut hK => ?_) hc
    · exact (fun h1 v1 p1 q1 => ⟨fun c1 => (fun h2 p2 => (by intro v e; cases e; obtain ⟨r1, w1⟩ := c_X12_inWords hN.1 p1; have r1 := r1.symm; subst r1; obtain ⟨a1, a2⟩ := r_adv hN p2; exact ⟨⟨fun _ => by omega, fun _ => rfl⟩, by rw [if_pos (by omega)]; exact a1, a2⟩)), fun c1 => (by intro v e; cases e; obtain ⟨r1, w1⟩ := c_X12_inWords hN.1 p1; have r1 := r1.symm; subst r1; exact ⟨⟨fun z => by omega, fun z => by omega⟩, by rw [if_neg (by omega)]; exact hN, GTk.rf _⟩)⟩)
    · exact hK.elim
  exact q v rfl
set_option maxRecDepth 10000 in
theorem v_X12_number {sl : Nat} {si : Nat → Int} {K : Nat → PH → ZL → List ZV → Prop} {Q : PH → List ZV → Prop} {h : PH}   {a b c : Int} (H : R32 (h 169 12) → ((h 169 12) = 3 → R32 (h 169 15) → ((h 169 15) < b → ∀ h1 v1, CP (zz sl si (7, 0)) mX12_fails h [(2, 169), (0, 4)] h1 [(0, v1)] → v1 = 0 ∨ v1 = 1 → Q h1 [(0, v1)]) ∧ (¬ ((h 169 15) < b) → R32 (h 169 15) → ((h 169 15) ≤ c → R32 (h 169 15) → 0 ≤ a ∧ a < (3696 : Nat) → ∀ h2, CP (zz sl si (7, 0)) mX12_ahead (uph h 170 a.toNat (h 169 15)) [(2, 169)] h2 [] → Q h2 [(0, 1)]) ∧ (¬ ((h 169 15) ≤ c) → ∀ h3 v3, CP (zz sl si (7, 0)) mX12_fails h [(2, 169), (0, 4)] h3 [(0, v3)] → v3 = 0 ∨ v3 = 1 → Q h3 [(0, v3)]))) ∧ (¬ ((h 169 12) = 3) → ∀ h4 v4, CP (zz sl si (7, 0)) mX12_fails h [(2, 169), (0, 2)] h4 [(0, v4)] → v4 = 0 ∨ v4 = 1 → Q h4 [(0, v4)])) : vc (zz sl si (7, 0)) (fun _ => false) K Q mX12_number 24 0 mX12_number.2.2.2.2.2.2 h [(0, (2, 169)), (1, (0, a)), (2, (0, b)), (3, (0, c))] [] := H
set_option maxHeartbeats 600000 in
theorem c_X12_number {sl : Nat} {si : Nat → Int} {h h' : PH} {T : TX} {s : Nat} {a b c : Int} {v : Int} (hN : RN T h s) (hc : CP (zz sl si (7, 0)) mX12_number h [(2, 169), (0, a), (0, b), (0, c)] h' [(0, v)]) : (v = 1 → kd T s = 3 ∧ b ≤ vl T s ∧ vl T s ≤ c ∧ RN T h' (nt T s) ∧ h' 170 a.toNat = vl T s) ∧ (v = 0 → (kd T s ≠ 3 ∧ RF h' (fltk T 2 s) s) ∨ (kd T s = 3 ∧ ¬ (b ≤ vl T s ∧ vl T s ≤ c) ∧ RF h' (fltk T 4 s) s)) ∧ (∀ c k : Nat, ¬ (c = 169 ∧ 12 ≤ k ∧ k ≤ 18 ∧ k ≠ 16) → ¬ (c = 170 ∧ k = a.toNat) → h' c k = h c k) := by
  have q : (fun (xh : PH) (r : List ZV) => ∀ v : Int, r = [(0, v)] → ((v = 1 → kd T s = 3 ∧ b ≤ vl T s ∧ vl T s ≤ c ∧ RN T xh (nt T s) ∧ xh 170 a.toNat = vl T s) ∧ (v = 0 → (kd T s ≠ 3 ∧ RF xh (fltk T 2 s) s) ∨ (kd T s = 3 ∧ ¬ (b ≤ vl T s ∧ vl T s ≤ c) ∧ RF xh (fltk T 4 s) s)) ∧ (∀ c k : Nat, ¬ (c = 169 ∧ 12 ≤ k ∧ k ≤ 18 ∧ k ≠ 16) → ¬ (c = 170 ∧ k = a.toNat) → xh c k = h c k))) h' [(0, v)] := by
    refine cp_vc (cut := (fun _ => false)) (K := fun p hx lv st => False) (Q := fun (xh : PH) (r : List ZV) => ∀ v : Int, r = [(0, v)] → ((v = 1 → kd T s = 3 ∧ b ≤ vl T s ∧ vl T s ≤ c ∧ RN T xh (nt T s) ∧ xh 170 a.toNat = vl T s) ∧ (v = 0 → (kd T s ≠ 3 ∧ RF xh (fltk T 2 s) s) ∨ (kd T s = 3 ∧ ¬ (b ≤ vl T s ∧ vl T s ≤ c) ∧ RF xh (fltk T 4 s) s)) ∧ (∀ c k : Nat, ¬ (c = 169 ∧ 12 ≤ k ∧ k ≤ 18 ∧ k ≠ 16) → ¬ (c = 170 ∧ k = a.toNat) → xh c k = h c k))) (v_X12_number ?_) (fun pc hx lv st hcut hK => ?_) hc
    · exact (fun r1 => ⟨fun c2 => (fun r3 => ⟨fun c4 => (fun h1 v1 p1 q1 => (by intro v e; cases e; rw [hN.ek] at c2; rw [hN.ev (Or.inl c2)] at c4; obtain ⟨a1, a2, a3⟩ := r_fl hN (by omega) p1; exact ⟨fun z => by omega, fun _ => Or.inr ⟨c2, by omega, a2⟩, fun c k z _ => a3 c k z⟩)), fun c4 => (fun r5 => ⟨fun c6 => (fun r7 => (fun b8 => (fun h2 p2 => (by intro v e; cases e; rw [hN.ek] at c2; rw [hN.ev (Or.inl c2)] at c4 c6 p2; obtain ⟨a1, a2⟩ := r_adv (hN.kp (fun c k q => by rw [up_ne (by omega)])) p2; exact ⟨fun _ => ⟨c2, by omega, by omega, a1, by rw [a2 170 _ (by omega), up_sm]⟩, fun z => by omega, fun c k z z2 => by rw [a2 c k z, up_ne z2]⟩)))), fun c6 => (fun h3 v3 p3 q3 => (by intro v e; cases e; rw [hN.ek] at c2; rw [hN.ev (Or.inl c2)] at c4 c6; obtain ⟨a1, a2, a3⟩ := r_fl hN (by omega) p3; exact ⟨fun z => by omega, fun _ => Or.inr ⟨c2, by omega, a2⟩, fun c k z _ => a3 c k z⟩))⟩)⟩), fun c2 => (fun h4 v4 p4 q4 => (by intro v e; cases e; rw [hN.ek] at c2; obtain ⟨a1, a2, a3⟩ := r_fl hN (by omega) p4; exact ⟨fun z => by omega, fun _ => Or.inl ⟨c2, a2⟩, fun c k z _ => a3 c k z⟩))⟩)
    · exact hK.elim
  exact q v rfl
set_option maxRecDepth 10000 in
theorem v_X12_isName {sl : Nat} {si : Nat → Int} {K : Nat → PH → ZL → List ZV → Prop} {Q : PH → List ZV → Prop} {h : PH}   (H : R32 (h 169 12) → ((h 169 12) ≠ 2 → Q h [(0, 0)]) ∧ (¬ ((h 169 12) ≠ 2) → R32 (h 169 14) → R32 (h 169 13) → ((8 : Int) < (w32 ((h 169 14) - (h 169 13))) → Q h [(0, 0)]) ∧ (¬ ((8 : Int) < (w32 ((h 169 14) - (h 169 13)))) → ∀ h1 v1, CP (zz sl si (7, 0)) mX12_inWords h [(2, 169), (6, 3)] h1 [(0, v1)] → R32 v1 → (v1 ≠ (-1) → Q h1 [(0, 0)]) ∧ (¬ (v1 ≠ (-1)) → Q h1 [(0, 1)])))) : vc (zz sl si (7, 0)) (fun _ => false) K Q mX12_isName 21 0 mX12_isName.2.2.2.2.2.2 h [(0, (2, 169)), (1, (6, 3))] [] := H
set_option maxHeartbeats 600000 in
theorem c_X12_isName {sl : Nat} {si : Nat → Int} {h h' : PH} {T : TX} {s : Nat} {v : Int} (hN : RN T h s) (hc : CP (zz sl si (7, 0)) mX12_isName h [(2, 169), (6, 3)] h' [(0, v)]) : h' = h ∧ (v = 1 ↔ isN T s) := by
  have q : (fun (xh : PH) (r : List ZV) => ∀ v : Int, r = [(0, v)] → (xh = h ∧ (v = 1 ↔ isN T s))) h' [(0, v)] := by
    refine cp_vc (cut := (fun _ => false)) (K := fun p hx lv st => False) (Q := fun (xh : PH) (r : List ZV) => ∀ v : Int, r = [(0, v)] → (xh = h ∧ (v = 1 ↔ isN T s))) (v_X12_isName ?_) (fun pc hx lv st hcut hK => ?_) hc
    · exact (fun r1 => ⟨fun c2 => (by intro v e; cases e; rw [hN.ek] at c2; exact ⟨rfl, fun z => by omega, fun z => absurd z.1 c2⟩), fun c2 => (fun r3 => (fun r4 => ⟨fun c5 => (by intro v e; cases e; rw [hN.ek] at c2; have k2 := Classical.not_not.mp c2; have b := nx_b hN.1.2.1; have hT := hN.1.1.1.1; rw [hN.ex, hN.es, w32_id (by omega) (by omega)] at c5; exact ⟨rfl, fun z => by omega, fun z => by have := (wc_pos hN.1.2.1 k2).mp z.2.2; omega⟩), fun c5 => (fun h1 v1 p1 q1 => ⟨fun c6 => (by intro v e; cases e; rw [hN.ek] at c2; have k2 := Classical.not_not.mp c2; obtain ⟨r1, w1⟩ := c_X12_inWords hN.1 p1; have r1 := r1.symm; subst r1; exact ⟨rfl, fun z => by omega, fun z => by have := (rk_no k2).mpr z.2.1; omega⟩), fun c6 => (by intro v e; cases e; rw [hN.ek] at c2; have k2 := Classical.not_not.mp c2; have b := nx_b hN.1.2.1; have hT := hN.1.1.1.1; rw [hN.ex, hN.es, w32_id (by omega) (by omega)] at c5; obtain ⟨r1, w1⟩ := c_X12_inWords hN.1 p1; have r1 := r1.symm; subst r1; exact ⟨rfl, fun _ => ⟨k2, (rk_no k2).mp (by omega), (wc_pos hN.1.2.1 k2).mpr (by omega)⟩, fun _ => rfl⟩)⟩)⟩))⟩)
    · exact hK.elim
  exact q v rfl
set_option maxRecDepth 10000 in
theorem v_X12_nameHere {sl : Nat} {si : Nat → Int} {K : Nat → PH → ZL → List ZV → Prop} {Q : PH → List ZV → Prop} {h : PH}   (H : R32 (h 169 13) → K 7 h [(3, (0, (h 169 13))), (1, (1, 0)), (0, (2, 169))] []) : vc (zz sl si (7, 0)) (fun p => Nat.beq p 7) K Q mX12_nameHere 7 0 mX12_nameHere.2.2.2.2.2.2 h [(0, (2, 169))] [] := H
set_option maxRecDepth 10000 in
theorem v_X12_nameHere_7 {sl : Nat} {si : Nat → Int} {K : Nat → PH → ZL → List ZV → Prop} {Q : PH → List ZV → Prop} {h : PH}   {x k : Int} (H : R32 (h 169 14) → ((h 169 14) ≤ k → Q h [(1, x)]) ∧ (¬ ((h 169 14) ≤ k) → ∀ h1 v1, CP (zz sl si (7, 0)) mX12_byteAt h [(2, 169), (0, k)] h1 [(0, v1)] → R32 v1 → K 7 h1 [(3, (0, w32 (k + 1))), (1, (1, zlor (zlshl x 8) v1)), (0, (2, 169))] [])) : vc (zz sl si (7, 0)) (fun p => Nat.beq p 7) K Q mX12_nameHere 17 7 (ax_jmp mX12_nameHere.2.2.2.2.2.2 7) h [(0, (2, 169)), (1, (1, x)), (3, (0, k))] [] := H
set_option maxHeartbeats 600000 in
theorem c_X12_nameHere {sl : Nat} {si : Nat → Int} {h h' : PH} {T : TX} {s : Nat} {v : Int} (hN : RTk T h s) (hc : CP (zz sl si (7, 0)) mX12_nameHere h [(2, 169)] h' [(1, v)]) : h' = h ∧ v = c8 T s (nx T s - s) := by
  have q : (fun (xh : PH) (r : List ZV) => ∀ v : Int, r = [(1, v)] → (xh = h ∧ v = c8 T s (nx T s - s))) h' [(1, v)] := by
    refine cp_vc (cut := (fun p => Nat.beq p 7)) (K := fun p hx lv st => (p = 7 ∧ lK (fun u : Nat => [(0, (2, 169)), (1, (1, c8 T s u)), (3, (0, ((s + u : Nat) : Int)))]) (fun u hx => hx = h ∧ s + u ≤ nx T s) p hx lv st)) (Q := fun (xh : PH) (r : List ZV) => ∀ v : Int, r = [(1, v)] → (xh = h ∧ v = c8 T s (nx T s - s))) (v_X12_nameHere ?_) (fun pc hx lv st hcut hK => ?_) hc
    · exact (fun r1 => (by have b := nx_b hN.2.1; exact ⟨rfl, rfl, 0, ⟨rfl, by omega⟩, rfl, rfl, (by rw [hN.2.2.1]; rfl), trivial⟩))
    · rcases hK with ⟨rfl, rfl, u, hJ, hs⟩
      · obtain ⟨rfl, j2⟩ := hJ
        have b := nx_b hN.2.1
        have hT := hN.1.1.1
        exact ⟨_, _, hs, v_X12_nameHere_7 (fun r1 => ⟨fun c2 => (by intro v e; cases e; rw [hN.2.2.2.1] at c2; exact ⟨rfl, by rw [show nx T s - s = u by omega]⟩), fun c2 => (fun h1 v1 p1 q1 => (by rw [hN.2.2.2.1] at c2; obtain ⟨r1, w1⟩ := c_X12_byteAt hN.1 (by omega) p1; have r1 := r1.symm; subst r1; rw [Int.toNat_natCast] at w1; have w2 : v1 = T.1 (s + u) := (by rw [w1]; exact if_pos (by omega)); exact ⟨rfl, rfl, u + 1, ⟨rfl, by omega⟩, rfl, (by rw [w2]; rfl), wv (by omega) (by omega) (by omega), trivial⟩))⟩)⟩
  exact q v rfl
set_option maxRecDepth 10000 in
theorem v_X12_findHere {sl : Nat} {si : Nat → Int} {K : Nat → PH → ZL → List ZV → Prop} {Q : PH → List ZV → Prop} {h : PH}   {a b : Int} (H : K 2 h [(3, (0, 0)), (0, (2, 169)), (1, (0, a)), (2, (0, b))] []) : vc (zz sl si (7, 0)) (fun p => Nat.beq p 2) K Q mX12_findHere 4 0 mX12_findHere.2.2.2.2.2.2 h [(0, (2, 169)), (1, (0, a)), (2, (0, b))] [] := H
set_option maxRecDepth 10000 in
theorem v_X12_findHere_2 {sl : Nat} {si : Nat → Int} {K : Nat → PH → ZL → List ZV → Prop} {Q : PH → List ZV → Prop} {h : PH}   {a b : Int} {k : Int} (H : (b ≤ k → Q h [(0, (-1))]) ∧ (¬ (b ≤ k) → 0 ≤ w32 (a + k) ∧ w32 (a + k) < (90 : Nat) → R64 (h 171 (w32 (a + k)).toNat) → ∀ h1 v1, CP (zz sl si (7, 0)) mX12_nameHere h [(2, 169)] h1 [(1, v1)] → R64 v1 → ((zcmp (h 171 (w32 (a + k)).toNat) v1) ≠ 0 → K 2 h1 [(3, (0, w32 (k + 1))), (0, (2, 169)), (1, (0, a)), (2, (0, b))] []) ∧ (¬ ((zcmp (h 171 (w32 (a + k)).toNat) v1) ≠ 0) → Q h1 [(0, k)]))) : vc (zz sl si (7, 0)) (fun p => Nat.beq p 2) K Q mX12_findHere 17 2 (ax_jmp mX12_findHere.2.2.2.2.2.2 2) h [(0, (2, 169)), (1, (0, a)), (2, (0, b)), (3, (0, k))] [] := H
set_option maxHeartbeats 600000 in
theorem c_X12_findHere {sl : Nat} {si : Nat → Int} {h h' : PH} {T : TX} {s : Nat} {a b : Int} {v : Int} (hN : RTk T h s) (ha : 0 ≤ a ∧ a ≤ 90) (hb : b ≤ 10) (hc : CP (zz sl si (7, 0)) mX12_findHere h [(2, 169), (0, a), (0, b)] h' [(0, v)]) : h' = h ∧ v = fd (fun i => h 171 (a.toNat + i)) (c8 T s (nx T s - s)) b.toNat := by
  have q : (fun (xh : PH) (r : List ZV) => ∀ v : Int, r = [(0, v)] → (xh = h ∧ v = fd (fun i => h 171 (a.toNat + i)) (c8 T s (nx T s - s)) b.toNat)) h' [(0, v)] := by
    refine cp_vc (cut := (fun p => Nat.beq p 2)) (K := fun p hx lv st => (p = 2 ∧ lK (fun u : Nat => [(0, (2, 169)), (1, (0, a)), (2, (0, b)), (3, (0, (u : Int)))]) (fun u hx => hx = h ∧ (u : Int) ≤ 10 ∧ ∀ i : Nat, i < u → h 171 (a.toNat + i) ≠ c8 T s (nx T s - s)) p hx lv st)) (Q := fun (xh : PH) (r : List ZV) => ∀ v : Int, r = [(0, v)] → (xh = h ∧ v = fd (fun i => h 171 (a.toNat + i)) (c8 T s (nx T s - s)) b.toNat)) (v_X12_findHere ?_) (fun pc hx lv st hcut hK => ?_) hc
    · exact (by exact ⟨rfl, rfl, 0, ⟨rfl, by omega, fun i q => by omega⟩, rfl, rfl, rfl, rfl, trivial⟩)
    · rcases hK with ⟨rfl, rfl, u, hJ, hs⟩
      · obtain ⟨rfl, j1, j2⟩ := hJ
        have ix : (w32 (a + (u : Int))).toNat = a.toNat + u := by rw [w32_id (by omega) (by omega)]; omega
        exact ⟨_, _, hs, v_X12_findHere_2 ⟨fun c1 => (by intro v e; cases e; exact ⟨rfl, (fd_no _ (fun i hi => j2 i (by omega))).symm⟩), fun c1 => (fun b2 r3 => (fun h1 v1 p1 q1 => ⟨fun c4 => (by obtain ⟨r1, w1⟩ := c_X12_nameHere hN p1; have r1 := r1.symm; subst r1; rw [ix, w1] at c4; refine ⟨rfl, rfl, u + 1, ⟨rfl, by omega, fun i hi => ?_⟩, rfl, rfl, rfl, wv (by omega) (by omega) (by omega), trivial⟩; by_cases e : i = u; (rw [e]; exact fun z => c4 (zcmp_0.mpr z)); exact j2 i (by omega)), fun c4 => (by obtain ⟨r1, w1⟩ := c_X12_nameHere hN p1; have r1 := r1.symm; subst r1; rw [ix, w1] at c4; intro v e; cases e; exact ⟨rfl, (fd_at _ u (by omega) j2 (zcmp_0.mp (Classical.not_not.mp c4))).symm⟩)⟩))⟩⟩
  exact q v rfl
end
section
/-! 45z.58c.rone -/
/-! THE REFERENCE READS A LAND -/
/-- the reference's LAND, from place bs of its row on, its names from nb on -/
def RLd (bs nb : Nat) (h L : PH) : Prop :=
  (h 170 bs = L 1 0 ∧ h 170 (bs + 1) = L 0 4 ∧ h 170 (bs + 2) = L 0 12 ∧ h 170 (bs + 3) = L 0 13) ∧
  (∀ i : Nat, i < 7 → h 170 (bs + 6 + 3 * i) = bt (L 1 1) i ∧ h 170 (bs + 7 + 3 * i) = L 2 i ∧ h 170 (bs + 8 + 3 * i) = L 15 i) ∧
  (∀ p : Nat, p < 8 → ((p : Int) < L 0 4 → h 170 (bs + 27 + 5 * p) = L 11 p ∧ h 170 (bs + 28 + 5 * p) = L 12 p) ∧ h 170 (bs + 29 + 5 * p) = bt (L 0 7) p ∧ h 170 (bs + 30 + 5 * p) = bt (L 0 8) p ∧ h 170 (bs + 31 + 5 * p) = bt (L 0 9) p) ∧
  (∀ q : Nat, q < 64 → h 170 (bs + 67 + q) = L 7 q) ∧
  (∀ p : Nat, p < 8 → h 170 (bs + 131 + 4 * p) = L 14 p ∧ ∀ k : Nat, k < 3 → (k : Int) < L 14 p → h 170 (bs + 132 + 4 * p + k) = L 13 (3 * p + k)) ∧
  (∀ i : Nat, (i : Int) < L 1 0 → Nm (L 9 i) (h 171 (nb + i))) ∧ (∀ p : Nat, (p : Int) < L 0 4 → Nm (L 10 p) (h 171 (nb + 7 + p)))
theorem RLd.fr {bs nb : Nat} {h h' L : PH} (hL : RLd bs nb h L) (hW : WL L) (hF : ∀ k : Nat, bs ≤ k → k < bs + 163 → h' 170 k = h 170 k) (hG : ∀ k : Nat, nb ≤ k → k < nb + 15 → h' 171 k = h 171 k) : RLd bs nb h' L := by
  obtain ⟨⟨a1, a2, a3, a4⟩, b, c, d, e, f, g⟩ := hL
  have w1 := hW.1
  have w2 := hW.2.1
  refine ⟨⟨by rw [hF _ (by omega) (by omega)]; exact a1, by rw [hF _ (by omega) (by omega)]; exact a2, by rw [hF _ (by omega) (by omega)]; exact a3, by rw [hF _ (by omega) (by omega)]; exact a4⟩, fun i hi => ?_, fun p hp => ?_, fun q hq => by rw [hF _ (by omega) (by omega)]; exact d q hq, fun p hp => ⟨by rw [hF _ (by omega) (by omega)]; exact (e p hp).1, fun k hk z => by rw [hF _ (by omega) (by omega)]; exact (e p hp).2 k hk z⟩, fun i hi => by rw [hG _ (by omega) (by omega)]; exact f i hi, fun p hp => by rw [hG _ (by omega) (by omega)]; exact g p hp⟩
  · rw [hF _ (by omega) (by omega), hF _ (by omega) (by omega), hF _ (by omega) (by omega)]
    exact b i hi
  · rw [hF (bs + 27 + 5 * p) (by omega) (by omega), hF (bs + 28 + 5 * p) (by omega) (by omega), hF (bs + 29 + 5 * p) (by omega) (by omega), hF (bs + 30 + 5 * p) (by omega) (by omega), hF (bs + 31 + 5 * p) (by omega) (by omega)]
    exact c p hp
/-- what the reference writes while it reads a LAND -/
def GP (h h' : PH) : Prop := ∀ c k : Nat, ¬ (c = 169 ∧ 12 ≤ k ∧ k ≤ 18 ∧ k ≠ 16) → ¬ (c = 170 ∧ 2112 ≤ k ∧ k < 2640 ∧ k ≠ 2116) → ¬ (c = 171 ∧ 60 ≤ k ∧ k < 75) → h' c k = h c k
theorem GP.rf (h : PH) : GP h h := fun _ _ _ _ _ => rfl
theorem GP.tr {h h1 h2 : PH} (a : GP h h1) (b : GP h1 h2) : GP h h2 := fun c k q1 q2 q3 => by rw [b c k q1 q2 q3, a c k q1 q2 q3]
theorem GTk.P {h h' : PH} (a : GTk h h') : GP h h' := fun c k q1 _ _ => a c k q1
theorem GTk.L {bs nb : Nat} {h h' L : PH} (a : GTk h h') (hL : RLd bs nb h L) (hW : WL L) : RLd bs nb h' L := hL.fr hW (fun k _ _ => a 170 k (by omega)) (fun k _ _ => a 171 k (by omega))
theorem RN.c {T : TX} {h h' : PH} {s : Nat} (hN : RN T h s) (hF : ∀ c k : Nat, c = 169 ∨ c = 176 → h' c k = h c k) : RN T h' s := hN.kp hF
/-- the answer of one of the reference's parts: a FAULT, or a token and a LAND -/
def ROp (T : TX) (v : Int) (h : PH) (r : PR) : Prop := match r with
  | .inl q => v = 0 ∧ RF h q.1 q.2
  | .inr q => v = 1 ∧ RN T h q.1 ∧ RLd 2112 60 h q.2 ∧ WL q.2
theorem ROp.inl {T : TX} {v : Int} {h : PH} {r : PR} {q : Int × Nat} (e : r = .inl q) (h0 : v = 0) (h1 : RF h q.1 q.2) : ROp T v h r := by
  rw [e]
  exact ⟨h0, h1⟩
/-- a part but for its semicolon -/
def sq (r : PR) (k : Nat → PH → PR) : PR := match r with
  | .inl q => .inl q
  | .inr q => k q.1 q.2
/-- a name's number, looked up in the reference -/
theorem r_ho {T : TX} {h L : PH} {s : Nat} (hs : s ≤ T.2) (hL : RLd 2112 60 h L) (hn : isN T s) : fd (fun i => h 171 (60 + i)) (c8 T s (nx T s - s)) (L 1 0).toNat = ho T L s := by
  unfold ho nmH
  rw [if_pos hn]
  exact fd_nm (Nm.tok hs hn) _ (fun i hi => hL.2.2.2.2.2.1 i (by omega))
theorem r_pe {T : TX} {h L : PH} {s : Nat} (hs : s ≤ T.2) (hL : RLd 2112 60 h L) (hn : isN T s) : fd (fun i => h 171 (67 + i)) (c8 T s (nx T s - s)) (L 0 4).toNat = pe T L s := by
  unfold pe nmP
  rw [if_pos hn]
  exact fd_nm (Nm.tok hs hn) _ (fun i hi => hL.2.2.2.2.2.2 i (by omega))
theorem r_nH {T : TX} {h L : PH} {s : Nat} (hN : RN T h s) (hL : RLd 2112 60 h L) (hn : isN T s) : fd (fun i => h 171 (60 + i)) (c8 T s (nx T s - s)) (L 1 0).toNat = nmH T L s := fd_nm (Nm.tok hN.1.2.1 hn) _ (fun i hi => hL.2.2.2.2.2.1 i (by omega))
theorem r_nP {T : TX} {h L : PH} {s : Nat} (hN : RN T h s) (hL : RLd 2112 60 h L) (hn : isN T s) : fd (fun i => h 171 (67 + i)) (c8 T s (nx T s - s)) (L 0 4).toNat = nmP T L s := fd_nm (Nm.tok hN.1.2.1 hn) _ (fun i hi => hL.2.2.2.2.2.2 i (by omega))
set_option maxRecDepth 10000 in
theorem v_X12_oldOne {sl : Nat} {si : Nat → Int} {K : Nat → PH → ZL → List ZV → Prop} {Q : PH → List ZV → Prop} {h : PH}    {a b c : Int} (H : ∀ h1 v1, CP (zz sl si (7, 0)) mX12_isName h [(2, 169), (6, 3)] h1 [(0, v1)] → v1 = 0 ∨ v1 = 1 → (v1 ≠ 0 → ∀ h2 v2, CP (zz sl si (7, 0)) mX12_findHere h1 [(2, 169), (0, a), (0, b)] h2 [(0, v2)] → R32 v2 → 0 ≤ c ∧ c < (3696 : Nat) → 0 ≤ c ∧ c < (3696 : Nat) → R32 ((uph h2 170 c.toNat v2) 170 c.toNat) → (((uph h2 170 c.toNat v2) 170 c.toNat) ≠ (-1) → ∀ h3, CP (zz sl si (7, 0)) mX12_ahead (uph h2 170 c.toNat v2) [(2, 169)] h3 [] → Q h3 [(0, 1)]) ∧ (¬ (((uph h2 170 c.toNat v2) 170 c.toNat) ≠ (-1)) → ∀ h4 v4, CP (zz sl si (7, 0)) mX12_fails (uph h2 170 c.toNat v2) [(2, 169), (0, 3)] h4 [(0, v4)] → v4 = 0 ∨ v4 = 1 → Q h4 [(0, v4)])) ∧ (¬ (v1 ≠ 0) → ∀ h5 v5, CP (zz sl si (7, 0)) mX12_fails h1 [(2, 169), (0, 2)] h5 [(0, v5)] → v5 = 0 ∨ v5 = 1 → Q h5 [(0, v5)])) : vc (zz sl si (7, 0)) (fun _ => false) K Q mX12_oldOne 24 0 mX12_oldOne.2.2.2.2.2.2 h [(0, (2, 169)), (1, (0, a)), (2, (0, b)), (3, (0, c))] [] := H
set_option maxHeartbeats 600000 in
theorem c_X12_oldOne {sl : Nat} {si : Nat → Int} {h h' : PH} {T : TX} {s : Nat} {x : Int} {a b c : Int} {v : Int} (hN : RN T h s) (ha : 0 ≤ a ∧ a ≤ 90) (hb : b ≤ 10) (hx : isN T s → fd (fun i => h 171 (a.toNat + i)) (c8 T s (nx T s - s)) b.toNat = x) (hc : CP (zz sl si (7, 0)) mX12_oldOne h [(2, 169), (0, a), (0, b), (0, c)] h' [(0, v)]) : (v = 1 → isN T s ∧ x ≠ -1 ∧ RN T h' (nt T s) ∧ h' 170 c.toNat = x) ∧ (v = 0 → (¬ isN T s ∧ RF h' (fltk T 2 s) s) ∨ (isN T s ∧ x = -1 ∧ RF h' (fltk T 3 s) s)) ∧ ∀ c1 k : Nat, ¬ (c1 = 169 ∧ 12 ≤ k ∧ k ≤ 18 ∧ k ≠ 16) → ¬ (c1 = 170 ∧ k = c.toNat) → h' c1 k = h c1 k := by
  have q : (fun (xh : PH) (r : List ZV) => ∀ v : Int, r = [(0, v)] → ((v = 1 → isN T s ∧ x ≠ -1 ∧ RN T xh (nt T s) ∧ xh 170 c.toNat = x) ∧ (v = 0 → (¬ isN T s ∧ RF xh (fltk T 2 s) s) ∨ (isN T s ∧ x = -1 ∧ RF xh (fltk T 3 s) s)) ∧ ∀ c1 k : Nat, ¬ (c1 = 169 ∧ 12 ≤ k ∧ k ≤ 18 ∧ k ≠ 16) → ¬ (c1 = 170 ∧ k = c.toNat) → xh c1 k = h c1 k)) h' [(0, v)] := by
    refine cp_vc (cut := (fun _ => false)) (K := fun p hx lv st => False) (Q := fun (xh : PH) (r : List ZV) => ∀ v : Int, r = [(0, v)] → ((v = 1 → isN T s ∧ x ≠ -1 ∧ RN T xh (nt T s) ∧ xh 170 c.toNat = x) ∧ (v = 0 → (¬ isN T s ∧ RF xh (fltk T 2 s) s) ∨ (isN T s ∧ x = -1 ∧ RF xh (fltk T 3 s) s)) ∧ ∀ c1 k : Nat, ¬ (c1 = 169 ∧ 12 ≤ k ∧ k ≤ 18 ∧ k ≠ 16) → ¬ (c1 = 170 ∧ k = c.toNat) → xh c1 k = h c1 k)) (v_X12_oldOne ?_) (fun pc hx lv st hcut hK => ?_) hc
    · exact (fun h1 v1 p1 q1 => ⟨fun c1 => (fun h2 v2 p2 q2 => (fun b2 => (fun b3 r4 => ⟨fun c5 => (fun h3 p3 => (by intro v e; cases e; rw [up_sm] at c5; obtain ⟨r1, w1⟩ := c_X12_isName hN p1; have r1 := r1.symm; subst r1; have hn := w1.mp (by omega); obtain ⟨r2, w2⟩ := c_X12_findHere hN.1 ha hb p2; have r2 := r2.symm; subst r2; rw [hx hn] at w2; obtain ⟨a1, a2⟩ := r_adv (hN.kp (fun c k q => by rw [up_ne (by omega)])) p3; exact ⟨fun _ => ⟨hn, by omega, a1, by rw [a2 170 _ (by omega), up_sm]; exact w2⟩, fun z => by omega, fun c1 k z z2 => by rw [a2 c1 k z, up_ne z2]⟩)), fun c5 => (fun h4 v4 p4 q4 => (by intro v e; cases e; rw [up_sm] at c5; obtain ⟨r1, w1⟩ := c_X12_isName hN p1; have r1 := r1.symm; subst r1; have hn := w1.mp (by omega); obtain ⟨r2, w2⟩ := c_X12_findHere hN.1 ha hb p2; have r2 := r2.symm; subst r2; rw [hx hn] at w2; obtain ⟨a1, a2, a3⟩ := r_fl (hN.kp (fun c k q => by rw [up_ne (by omega)])) (by omega) p4; exact ⟨fun z => by omega, fun _ => Or.inr ⟨hn, by omega, a2⟩, fun c1 k z z2 => by rw [a3 c1 k z, up_ne z2]⟩))⟩))), fun c1 => (fun h5 v5 p5 q5 => (by intro v e; cases e; obtain ⟨r1, w1⟩ := c_X12_isName hN p1; have r1 := r1.symm; subst r1; obtain ⟨a1, a2, a3⟩ := r_fl hN (by omega) p5; exact ⟨fun z => by omega, fun _ => Or.inl ⟨fun z => by have := w1.mpr z; omega, a2⟩, fun c1 k z z2 => a3 c1 k z⟩))⟩)
    · exact hK.elim
  exact q v rfl
set_option maxRecDepth 10000 in
theorem v_newOneH {sl : Nat} {si : Nat → Int} {K : Nat → PH → ZL → List ZV → Prop} {Q : PH → List ZV → Prop} {h : PH}    (H : 0 ≤ w32 (2112 + 0) ∧ w32 (2112 + 0) < (3696 : Nat) → R32 (h 170 (w32 (2112 + 0)).toNat) → ((h 170 (w32 (2112 + 0)).toNat) ≠ 7 → ∀ h1, CP (zz sl si (7, 0)) mX12_ahead h [(2, 169)] h1 [] → ∀ h2 v2, CP (zz sl si (7, 0)) mX12_isName h1 [(2, 169), (6, 3)] h2 [(0, v2)] → v2 = 0 ∨ v2 = 1 → (v2 ≠ 0 → 0 ≤ (2112 : Int) ∧ (2112 : Int) < (3696 : Nat) → R32 (h2 170 2112) → ∀ h3 v3, CP (zz sl si (7, 0)) mX12_findHere h2 [(2, 169), (0, 60), (0, (h2 170 2112))] h3 [(0, v3)] → R32 v3 → (v3 ≠ (-1) → ∀ h4 v4, CP (zz sl si (7, 0)) mX12_fails h3 [(2, 169), (0, 3)] h4 [(0, v4)] → v4 = 0 ∨ v4 = 1 → Q h4 [(0, v4)]) ∧ (¬ (v3 ≠ (-1)) → 0 ≤ (2113 : Int) ∧ (2113 : Int) < (3696 : Nat) → R32 (h3 170 2113) → ∀ h5 v5, CP (zz sl si (7, 0)) mX12_findHere h3 [(2, 169), (0, 67), (0, (h3 170 2113))] h5 [(0, v5)] → R32 v5 → (v5 = (-1) → 0 ≤ w32 (2112 + 0) ∧ w32 (2112 + 0) < (3696 : Nat) → R32 (h5 170 (w32 (2112 + 0)).toNat) → ∀ h6 v6, CP (zz sl si (7, 0)) mX12_nameHere h5 [(2, 169)] h6 [(1, v6)] → R64 v6 → 0 ≤ w32 ((w32 (60 + 0)) + (h5 170 (w32 (2112 + 0)).toNat)) ∧ w32 ((w32 (60 + 0)) + (h5 170 (w32 (2112 + 0)).toNat)) < (90 : Nat) → ∀ h7, CP (zz sl si (7, 0)) mX12_ahead (uph h6 171 (w32 ((w32 (60 + 0)) + (h5 170 (w32 (2112 + 0)).toNat))).toNat v6) [(2, 169)] h7 [] → Q h7 [(0, 1)]) ∧ (¬ (v5 = (-1)) → ∀ h8 v8, CP (zz sl si (7, 0)) mX12_fails h5 [(2, 169), (0, 3)] h8 [(0, v8)] → v8 = 0 ∨ v8 = 1 → Q h8 [(0, v8)]))) ∧ (¬ (v2 ≠ 0) → ∀ h9 v9, CP (zz sl si (7, 0)) mX12_fails h2 [(2, 169), (0, 2)] h9 [(0, v9)] → v9 = 0 ∨ v9 = 1 → Q h9 [(0, v9)])) ∧ (¬ ((h 170 (w32 (2112 + 0)).toNat) ≠ 7) → ∀ h10 v10, CP (zz sl si (7, 0)) mX12_fails h [(2, 169), (0, 6)] h10 [(0, v10)] → v10 = 0 ∨ v10 = 1 → Q h10 [(0, v10)])) : vc (zz sl si (7, 0)) (fun _ => false) K Q mX12_newOne 53 0 mX12_newOne.2.2.2.2.2.2 h [(0, (2, 169)), (1, (0, 0)), (2, (0, 7)), (3, (0, 0))] [] := H
set_option maxHeartbeats 600000 in
theorem c_newOneH {sl : Nat} {si : Nat → Int} {h h' : PH} {T : TX} {s : Nat} {L : PH} {v : Int} (hN : RN T h s) (hL : RLd 2112 60 h L) (hW : WL L) (hc : CP (zz sl si (7, 0)) mX12_newOne h [(2, 169), (0, 0), (0, 7), (0, 0)] h' [(0, v)]) : (v = 1 → L 1 0 ≠ 7 ∧ isN T (nt T s) ∧ nmH T L (nt T s) = -1 ∧ nmP T L (nt T s) = -1 ∧ RN T h' (nt T (nt T s)) ∧ (∀ k : Nat, h' 170 k = h 170 k) ∧ (∀ k : Nat, h' 171 k = uph h 171 (60 + (L 1 0).toNat) (c8 T (nt T s) (nx T (nt T s) - nt T s)) 171 k)) ∧ (v = 0 → (L 1 0 = 7 ∧ RF h' (fltk T 6 s) s) ∨ (L 1 0 ≠ 7 ∧ ∃ f, (∀ k, pNew T (nt T s) L k = .inl f) ∧ RF h' f.1 f.2)) ∧ GP h h' := by
  have e0 : h 170 (w32 (2112 + 0)).toNat = L 1 0 := hL.1.1
  have q : (fun (xh : PH) (r : List ZV) => ∀ v : Int, r = [(0, v)] → ((v = 1 → L 1 0 ≠ 7 ∧ isN T (nt T s) ∧ nmH T L (nt T s) = -1 ∧ nmP T L (nt T s) = -1 ∧ RN T xh (nt T (nt T s)) ∧ (∀ k : Nat, xh 170 k = h 170 k) ∧ (∀ k : Nat, xh 171 k = uph h 171 (60 + (L 1 0).toNat) (c8 T (nt T s) (nx T (nt T s) - nt T s)) 171 k)) ∧ (v = 0 → (L 1 0 = 7 ∧ RF xh (fltk T 6 s) s) ∨ (L 1 0 ≠ 7 ∧ ∃ f, (∀ k, pNew T (nt T s) L k = .inl f) ∧ RF xh f.1 f.2)) ∧ GP h xh)) h' [(0, v)] := by
    refine cp_vc (cut := (fun _ => false)) (K := fun p hx lv st => False) (Q := fun (xh : PH) (r : List ZV) => ∀ v : Int, r = [(0, v)] → ((v = 1 → L 1 0 ≠ 7 ∧ isN T (nt T s) ∧ nmH T L (nt T s) = -1 ∧ nmP T L (nt T s) = -1 ∧ RN T xh (nt T (nt T s)) ∧ (∀ k : Nat, xh 170 k = h 170 k) ∧ (∀ k : Nat, xh 171 k = uph h 171 (60 + (L 1 0).toNat) (c8 T (nt T s) (nx T (nt T s) - nt T s)) 171 k)) ∧ (v = 0 → (L 1 0 = 7 ∧ RF xh (fltk T 6 s) s) ∨ (L 1 0 ≠ 7 ∧ ∃ f, (∀ k, pNew T (nt T s) L k = .inl f) ∧ RF xh f.1 f.2)) ∧ GP h xh)) (v_newOneH ?_) (fun pc hx lv st hcut hK => ?_) hc
    · exact (fun b1 r2 => ⟨fun c3 => (fun h1 p1 => (fun h2 v2 p2 q2 => ⟨fun c4 => (fun b5 r6 => (fun h3 v3 p3 q3 => ⟨fun c7 => (fun h4 v4 p4 q4 => (by intro v e; cases e; rw [e0] at c3; obtain ⟨N1, f1⟩ := r_adv hN p1; have L1 := f1.L hL hW; obtain ⟨r2, w2⟩ := c_X12_isName N1 p2; have r2 := r2.symm; subst r2; have hn := w2.mp (by omega); rw [L1.1.1] at p3; obtain ⟨r3, w3⟩ := c_X12_findHere N1.1 (by omega) (by have := hW.1; omega) p3; have r3 := r3.symm; subst r3; have w4 := r_nH N1 L1 hn; have w3 : v3 = nmH T L (nt T s) := w3.trans w4; obtain ⟨a1, a2, a3⟩ := r_fl N1 (by omega) p4; exact ⟨fun z => by omega, fun _ => Or.inr ⟨c3, (fltk T 3 (nt T s), nt T s), fun k => by unfold pNew; rw [if_pos hn, if_pos (Or.inl (by omega))]; rfl, a2⟩, (f1.tr a3).P⟩)), fun c7 => (fun b8 r9 => (fun h5 v5 p5 q5 => ⟨fun c10 => (fun b11 r12 => (fun h6 v6 p6 q6 => (fun b13 => (fun h7 p7 => (by intro v e; cases e; rw [e0] at c3; obtain ⟨N1, f1⟩ := r_adv hN p1; have L1 := f1.L hL hW; obtain ⟨r2, w2⟩ := c_X12_isName N1 p2; have r2 := r2.symm; subst r2; have hn := w2.mp (by omega); rw [L1.1.1] at p3; obtain ⟨r3, w3⟩ := c_X12_findHere N1.1 (by omega) (by have := hW.1; omega) p3; have r3 := r3.symm; subst r3; have w3 : v3 = nmH T L (nt T s) := w3.trans (r_nH N1 L1 hn); rw [L1.1.2.1] at p5; obtain ⟨r5, w5⟩ := c_X12_findHere N1.1 (by omega) (by have := hW.2.1; omega) p5; have r5 := r5.symm; subst r5; have w5 : v5 = nmP T L (nt T s) := w5.trans (r_nP N1 L1 hn); obtain ⟨r6, w6⟩ := c_X12_nameHere N1.1 p6; have r6 := r6.symm; subst r6; have e1 : h1 170 (w32 (2112 + 0)).toNat = L 1 0 := L1.1.1; have e2 : (w32 ((w32 (60 + 0)) + (L 1 0))).toNat = 60 + (L 1 0).toNat := (by have := hW.1; have := hW.2.1; rw [w32_id (z := 60 + 0) (by omega) (by omega), w32_id (by omega) (by omega)]; omega); rw [e1, e2, w6] at p7; obtain ⟨N2, f2⟩ := r_adv (N1.kp (fun c k q => by rw [up_ne (by omega)])) p7; exact ⟨fun _ => ⟨c3, hn, by omega, by omega, N2, fun k => by rw [f2 170 k (by omega), up_ne (by omega), f1 170 k (by omega)], fun k => by rw [f2 171 k (by omega), up_rd, up_rd, f1 171 k (by omega)]⟩, fun z => by omega, fun c k q1 q2 q3 => by rw [f2 c k q1, up_ne (by have := hW.1; have := hW.2.1; omega), f1 c k q1]⟩))))), fun c10 => (fun h8 v8 p8 q8 => (by intro v e; cases e; rw [e0] at c3; obtain ⟨N1, f1⟩ := r_adv hN p1; have L1 := f1.L hL hW; obtain ⟨r2, w2⟩ := c_X12_isName N1 p2; have r2 := r2.symm; subst r2; have hn := w2.mp (by omega); rw [L1.1.1] at p3; obtain ⟨r3, w3⟩ := c_X12_findHere N1.1 (by omega) (by have := hW.1; omega) p3; have r3 := r3.symm; subst r3; rw [L1.1.2.1] at p5; obtain ⟨r5, w5⟩ := c_X12_findHere N1.1 (by omega) (by have := hW.2.1; omega) p5; have r5 := r5.symm; subst r5; have w6 := r_nP N1 L1 hn; have w5 : v5 = nmP T L (nt T s) := w5.trans w6; obtain ⟨a1, a2, a3⟩ := r_fl N1 (by omega) p8; exact ⟨fun z => by omega, fun _ => Or.inr ⟨c3, (fltk T 3 (nt T s), nt T s), fun k => by unfold pNew; rw [if_pos hn, if_pos (Or.inr (by omega))]; rfl, a2⟩, (f1.tr a3).P⟩))⟩))⟩)), fun c4 => (fun h9 v9 p9 q9 => (by intro v e; cases e; rw [e0] at c3; obtain ⟨N1, f1⟩ := r_adv hN p1; obtain ⟨r2, w2⟩ := c_X12_isName N1 p2; have r2 := r2.symm; subst r2; have nn : ¬ isN T (nt T s) := (fun z => by have := w2.mpr z; omega); obtain ⟨a1, a2, a3⟩ := r_fl N1 (by omega) p9; exact ⟨fun z => by omega, fun _ => Or.inr ⟨c3, (fltk T 2 (nt T s), nt T s), fun k => by unfold pNew; rw [if_neg nn]; rfl, a2⟩, (f1.tr a3).P⟩))⟩)), fun c3 => (fun h10 v10 p10 q10 => (by intro v e; cases e; rw [e0] at c3; obtain ⟨a1, a2, a3⟩ := r_fl hN (by omega) p10; exact ⟨fun z => by omega, fun _ => Or.inl ⟨by omega, a2⟩, a3.P⟩))⟩)
    · exact hK.elim
  exact q v rfl
set_option maxRecDepth 10000 in
theorem v_newOneP {sl : Nat} {si : Nat → Int} {K : Nat → PH → ZL → List ZV → Prop} {Q : PH → List ZV → Prop} {h : PH}    (H : 0 ≤ w32 (2112 + 1) ∧ w32 (2112 + 1) < (3696 : Nat) → R32 (h 170 (w32 (2112 + 1)).toNat) → ((h 170 (w32 (2112 + 1)).toNat) ≠ 8 → ∀ h1, CP (zz sl si (7, 0)) mX12_ahead h [(2, 169)] h1 [] → ∀ h2 v2, CP (zz sl si (7, 0)) mX12_isName h1 [(2, 169), (6, 3)] h2 [(0, v2)] → v2 = 0 ∨ v2 = 1 → (v2 ≠ 0 → 0 ≤ (2112 : Int) ∧ (2112 : Int) < (3696 : Nat) → R32 (h2 170 2112) → ∀ h3 v3, CP (zz sl si (7, 0)) mX12_findHere h2 [(2, 169), (0, 60), (0, (h2 170 2112))] h3 [(0, v3)] → R32 v3 → (v3 ≠ (-1) → ∀ h4 v4, CP (zz sl si (7, 0)) mX12_fails h3 [(2, 169), (0, 3)] h4 [(0, v4)] → v4 = 0 ∨ v4 = 1 → Q h4 [(0, v4)]) ∧ (¬ (v3 ≠ (-1)) → 0 ≤ (2113 : Int) ∧ (2113 : Int) < (3696 : Nat) → R32 (h3 170 2113) → ∀ h5 v5, CP (zz sl si (7, 0)) mX12_findHere h3 [(2, 169), (0, 67), (0, (h3 170 2113))] h5 [(0, v5)] → R32 v5 → (v5 = (-1) → 0 ≤ w32 (2112 + 1) ∧ w32 (2112 + 1) < (3696 : Nat) → R32 (h5 170 (w32 (2112 + 1)).toNat) → ∀ h6 v6, CP (zz sl si (7, 0)) mX12_nameHere h5 [(2, 169)] h6 [(1, v6)] → R64 v6 → 0 ≤ w32 ((w32 (60 + 7)) + (h5 170 (w32 (2112 + 1)).toNat)) ∧ w32 ((w32 (60 + 7)) + (h5 170 (w32 (2112 + 1)).toNat)) < (90 : Nat) → ∀ h7, CP (zz sl si (7, 0)) mX12_ahead (uph h6 171 (w32 ((w32 (60 + 7)) + (h5 170 (w32 (2112 + 1)).toNat))).toNat v6) [(2, 169)] h7 [] → Q h7 [(0, 1)]) ∧ (¬ (v5 = (-1)) → ∀ h8 v8, CP (zz sl si (7, 0)) mX12_fails h5 [(2, 169), (0, 3)] h8 [(0, v8)] → v8 = 0 ∨ v8 = 1 → Q h8 [(0, v8)]))) ∧ (¬ (v2 ≠ 0) → ∀ h9 v9, CP (zz sl si (7, 0)) mX12_fails h2 [(2, 169), (0, 2)] h9 [(0, v9)] → v9 = 0 ∨ v9 = 1 → Q h9 [(0, v9)])) ∧ (¬ ((h 170 (w32 (2112 + 1)).toNat) ≠ 8) → ∀ h10 v10, CP (zz sl si (7, 0)) mX12_fails h [(2, 169), (0, 6)] h10 [(0, v10)] → v10 = 0 ∨ v10 = 1 → Q h10 [(0, v10)])) : vc (zz sl si (7, 0)) (fun _ => false) K Q mX12_newOne 53 0 mX12_newOne.2.2.2.2.2.2 h [(0, (2, 169)), (1, (0, 1)), (2, (0, 8)), (3, (0, 7))] [] := H
set_option maxHeartbeats 600000 in
theorem c_newOneP {sl : Nat} {si : Nat → Int} {h h' : PH} {T : TX} {s : Nat} {L : PH} {v : Int} (hN : RN T h s) (hL : RLd 2112 60 h L) (hW : WL L) (hc : CP (zz sl si (7, 0)) mX12_newOne h [(2, 169), (0, 1), (0, 8), (0, 7)] h' [(0, v)]) : (v = 1 → L 0 4 ≠ 8 ∧ isN T (nt T s) ∧ nmH T L (nt T s) = -1 ∧ nmP T L (nt T s) = -1 ∧ RN T h' (nt T (nt T s)) ∧ (∀ k : Nat, h' 170 k = h 170 k) ∧ (∀ k : Nat, h' 171 k = uph h 171 (67 + (L 0 4).toNat) (c8 T (nt T s) (nx T (nt T s) - nt T s)) 171 k)) ∧ (v = 0 → (L 0 4 = 8 ∧ RF h' (fltk T 6 s) s) ∨ (L 0 4 ≠ 8 ∧ ∃ f, (∀ k, pNew T (nt T s) L k = .inl f) ∧ RF h' f.1 f.2)) ∧ GP h h' := by
  have e0 : h 170 (w32 (2112 + 1)).toNat = L 0 4 := hL.1.2.1
  have q : (fun (xh : PH) (r : List ZV) => ∀ v : Int, r = [(0, v)] → ((v = 1 → L 0 4 ≠ 8 ∧ isN T (nt T s) ∧ nmH T L (nt T s) = -1 ∧ nmP T L (nt T s) = -1 ∧ RN T xh (nt T (nt T s)) ∧ (∀ k : Nat, xh 170 k = h 170 k) ∧ (∀ k : Nat, xh 171 k = uph h 171 (67 + (L 0 4).toNat) (c8 T (nt T s) (nx T (nt T s) - nt T s)) 171 k)) ∧ (v = 0 → (L 0 4 = 8 ∧ RF xh (fltk T 6 s) s) ∨ (L 0 4 ≠ 8 ∧ ∃ f, (∀ k, pNew T (nt T s) L k = .inl f) ∧ RF xh f.1 f.2)) ∧ GP h xh)) h' [(0, v)] := by
    refine cp_vc (cut := (fun _ => false)) (K := fun p hx lv st => False) (Q := fun (xh : PH) (r : List ZV) => ∀ v : Int, r = [(0, v)] → ((v = 1 → L 0 4 ≠ 8 ∧ isN T (nt T s) ∧ nmH T L (nt T s) = -1 ∧ nmP T L (nt T s) = -1 ∧ RN T xh (nt T (nt T s)) ∧ (∀ k : Nat, xh 170 k = h 170 k) ∧ (∀ k : Nat, xh 171 k = uph h 171 (67 + (L 0 4).toNat) (c8 T (nt T s) (nx T (nt T s) - nt T s)) 171 k)) ∧ (v = 0 → (L 0 4 = 8 ∧ RF xh (fltk T 6 s) s) ∨ (L 0 4 ≠ 8 ∧ ∃ f, (∀ k, pNew T (nt T s) L k = .inl f) ∧ RF xh f.1 f.2)) ∧ GP h xh)) (v_newOneP ?_) (fun pc hx lv st hcut hK => ?_) hc
    · exact (fun b1 r2 => ⟨fun c3 => (fun h1 p1 => (fun h2 v2 p2 q2 => ⟨fun c4 => (fun b5 r6 => (fun h3 v3 p3 q3 => ⟨fun c7 => (fun h4 v4 p4 q4 => (by intro v e; cases e; rw [e0] at c3; obtain ⟨N1, f1⟩ := r_adv hN p1; have L1 := f1.L hL hW; obtain ⟨r2, w2⟩ := c_X12_isName N1 p2; have r2 := r2.symm; subst r2; have hn := w2.mp (by omega); rw [L1.1.1] at p3; obtain ⟨r3, w3⟩ := c_X12_findHere N1.1 (by omega) (by have := hW.1; omega) p3; have r3 := r3.symm; subst r3; have w4 := r_nH N1 L1 hn; have w3 : v3 = nmH T L (nt T s) := w3.trans w4; obtain ⟨a1, a2, a3⟩ := r_fl N1 (by omega) p4; exact ⟨fun z => by omega, fun _ => Or.inr ⟨c3, (fltk T 3 (nt T s), nt T s), fun k => by unfold pNew; rw [if_pos hn, if_pos (Or.inl (by omega))]; rfl, a2⟩, (f1.tr a3).P⟩)), fun c7 => (fun b8 r9 => (fun h5 v5 p5 q5 => ⟨fun c10 => (fun b11 r12 => (fun h6 v6 p6 q6 => (fun b13 => (fun h7 p7 => (by intro v e; cases e; rw [e0] at c3; obtain ⟨N1, f1⟩ := r_adv hN p1; have L1 := f1.L hL hW; obtain ⟨r2, w2⟩ := c_X12_isName N1 p2; have r2 := r2.symm; subst r2; have hn := w2.mp (by omega); rw [L1.1.1] at p3; obtain ⟨r3, w3⟩ := c_X12_findHere N1.1 (by omega) (by have := hW.1; omega) p3; have r3 := r3.symm; subst r3; have w3 : v3 = nmH T L (nt T s) := w3.trans (r_nH N1 L1 hn); rw [L1.1.2.1] at p5; obtain ⟨r5, w5⟩ := c_X12_findHere N1.1 (by omega) (by have := hW.2.1; omega) p5; have r5 := r5.symm; subst r5; have w5 : v5 = nmP T L (nt T s) := w5.trans (r_nP N1 L1 hn); obtain ⟨r6, w6⟩ := c_X12_nameHere N1.1 p6; have r6 := r6.symm; subst r6; have e1 : h1 170 (w32 (2112 + 1)).toNat = L 0 4 := L1.1.2.1; have e2 : (w32 ((w32 (60 + 7)) + (L 0 4))).toNat = 67 + (L 0 4).toNat := (by have := hW.1; have := hW.2.1; rw [w32_id (z := 60 + 7) (by omega) (by omega), w32_id (by omega) (by omega)]; omega); rw [e1, e2, w6] at p7; obtain ⟨N2, f2⟩ := r_adv (N1.kp (fun c k q => by rw [up_ne (by omega)])) p7; exact ⟨fun _ => ⟨c3, hn, by omega, by omega, N2, fun k => by rw [f2 170 k (by omega), up_ne (by omega), f1 170 k (by omega)], fun k => by rw [f2 171 k (by omega), up_rd, up_rd, f1 171 k (by omega)]⟩, fun z => by omega, fun c k q1 q2 q3 => by rw [f2 c k q1, up_ne (by have := hW.1; have := hW.2.1; omega), f1 c k q1]⟩))))), fun c10 => (fun h8 v8 p8 q8 => (by intro v e; cases e; rw [e0] at c3; obtain ⟨N1, f1⟩ := r_adv hN p1; have L1 := f1.L hL hW; obtain ⟨r2, w2⟩ := c_X12_isName N1 p2; have r2 := r2.symm; subst r2; have hn := w2.mp (by omega); rw [L1.1.1] at p3; obtain ⟨r3, w3⟩ := c_X12_findHere N1.1 (by omega) (by have := hW.1; omega) p3; have r3 := r3.symm; subst r3; rw [L1.1.2.1] at p5; obtain ⟨r5, w5⟩ := c_X12_findHere N1.1 (by omega) (by have := hW.2.1; omega) p5; have r5 := r5.symm; subst r5; have w6 := r_nP N1 L1 hn; have w5 : v5 = nmP T L (nt T s) := w5.trans w6; obtain ⟨a1, a2, a3⟩ := r_fl N1 (by omega) p8; exact ⟨fun z => by omega, fun _ => Or.inr ⟨c3, (fltk T 3 (nt T s), nt T s), fun k => by unfold pNew; rw [if_pos hn, if_pos (Or.inr (by omega))]; rfl, a2⟩, (f1.tr a3).P⟩))⟩))⟩)), fun c4 => (fun h9 v9 p9 q9 => (by intro v e; cases e; rw [e0] at c3; obtain ⟨N1, f1⟩ := r_adv hN p1; obtain ⟨r2, w2⟩ := c_X12_isName N1 p2; have r2 := r2.symm; subst r2; have nn : ¬ isN T (nt T s) := (fun z => by have := w2.mpr z; omega); obtain ⟨a1, a2, a3⟩ := r_fl N1 (by omega) p9; exact ⟨fun z => by omega, fun _ => Or.inr ⟨c3, (fltk T 2 (nt T s), nt T s), fun k => by unfold pNew; rw [if_neg nn]; rfl, a2⟩, (f1.tr a3).P⟩))⟩)), fun c3 => (fun h10 v10 p10 q10 => (by intro v e; cases e; rw [e0] at c3; obtain ⟨a1, a2, a3⟩ := r_fl hN (by omega) p10; exact ⟨fun z => by omega, fun _ => Or.inl ⟨by omega, a2⟩, a3.P⟩))⟩)
    · exact hK.elim
  exact q v rfl
end
section
/-! 45z.58d.rpar -/
/-! what the reference's parts do to its LAND -/
theorem RLd.house {h h' L L' : PH} {n : Nat} {fl cd d : Int} (hL : RLd 2112 60 h L) (hW : WL L) (hn : L 1 0 = (n : Int)) (h7 : n < 7) (hF : ∀ k : Nat, k ≠ 2112 → k ≠ 2118 + 3 * n → h' 170 k = h 170 k) (h0 : h' 170 2112 = L 1 0 + 1) (h1 : h' 170 (2118 + 3 * n) = fl) (hG : ∀ k : Nat, h' 171 k = if k = 60 + n then d else h 171 k) (hd : Nm cd d) (e0 : L' 1 0 = L 1 0 + 1) (e1 : ∀ i : Nat, i < 7 → bt (L' 1 1) i = if i = n then fl else bt (L 1 1) i) (e9 : ∀ k : Nat, L' 9 k = if k = n then cd else L 9 k) (eo : ∀ j k : Nat, j ≠ 9 → j ≠ 1 → L' j k = L j k) : RLd 2112 60 h' L' := by
  obtain ⟨⟨a1, a2, a3, a4⟩, b, c, d', e, f, g⟩ := hL
  have w2 := hW.2.1
  refine ⟨⟨by rw [h0, e0], by rw [hF _ (by omega) (by omega), a2, eo 0 4 (by omega) (by omega)], by rw [hF _ (by omega) (by omega), a3, eo 0 12 (by omega) (by omega)], by rw [hF _ (by omega) (by omega), a4, eo 0 13 (by omega) (by omega)]⟩, fun i hi => ?_, fun p hp => ?_, fun q hq => by rw [hF _ (by omega) (by omega), eo 7 q (by omega) (by omega)]; exact d' q hq, fun p hp => ⟨by rw [hF _ (by omega) (by omega), eo 14 p (by omega) (by omega)]; exact (e p hp).1, fun k hk z => by rw [hF _ (by omega) (by omega), eo 13 _ (by omega) (by omega)]; rw [eo 14 p (by omega) (by omega)] at z; exact (e p hp).2 k hk z⟩, fun i hi => ?_, fun p hp => ?_⟩
  · rw [e1 i hi, eo 2 i (by omega) (by omega), eo 15 i (by omega) (by omega), hF (2112 + 7 + 3 * i) (by omega) (by omega), hF (2112 + 8 + 3 * i) (by omega) (by omega)]
    refine ⟨?_, (b i hi).2⟩
    by_cases q : i = n
    · subst q
      rw [if_pos rfl]
      exact h1
    · rw [if_neg q, hF _ (by omega) (by omega)]
      exact (b i hi).1
  · rw [hF (2112 + 27 + 5 * p) (by omega) (by omega), hF (2112 + 28 + 5 * p) (by omega) (by omega), hF (2112 + 29 + 5 * p) (by omega) (by omega), hF (2112 + 30 + 5 * p) (by omega) (by omega), hF (2112 + 31 + 5 * p) (by omega) (by omega), eo 11 p (by omega) (by omega), eo 12 p (by omega) (by omega), eo 0 4 (by omega) (by omega), eo 0 7 (by omega) (by omega), eo 0 8 (by omega) (by omega), eo 0 9 (by omega) (by omega)]
    exact c p hp
  · rw [e0] at hi
    rw [e9, hG]
    by_cases q : i = n
    · rw [if_pos q, if_pos (by omega)]
      exact hd
    · rw [if_neg q, if_neg (by omega)]
      exact f i (by omega)
  · rw [eo 0 4 (by omega) (by omega)] at hp
    rw [eo 10 p (by omega) (by omega), hG, if_neg (by omega)]
    exact g p hp
theorem RLd.door {h h' L : PH} {x y : Int} (hL : RLd 2112 60 h L) (hW : WL L) (hx : 0 ≤ x ∧ x < 7) (hy : 0 ≤ y ∧ y < 7) (hxy : x ≠ y) (hF : ∀ k : Nat, k ≠ 2119 + 3 * x.toNat → k ≠ 2119 + 3 * y.toNat → k < 2275 → h' 170 k = h 170 k) (h1 : h' 170 (2119 + 3 * x.toNat) = zor (h 170 (2119 + 3 * x.toNat)) (zshl 1 y)) (h2 : h' 170 (2119 + 3 * y.toNat) = zor (h 170 (2119 + 3 * y.toNat)) (zshl 1 x)) (hG : ∀ k : Nat, h' 171 k = h 171 k) : RLd 2112 60 h' (hang L x y) := by
  obtain ⟨⟨a1, a2, a3, a4⟩, b, c, d', e, f, g⟩ := hL
  have w1 := hW.1
  have w2 := hW.2.1
  have eo : ∀ j k : Nat, j ≠ 2 → hang L x y j k = L j k := fun j k q => by unfold hang; rw [up_ne (by omega), up_ne (by omega)]
  refine ⟨⟨by rw [hF _ (by omega) (by omega) (by omega), a1, eo 1 0 (by omega)], by rw [hF _ (by omega) (by omega) (by omega), a2, eo 0 4 (by omega)], by rw [hF _ (by omega) (by omega) (by omega), a3, eo 0 12 (by omega)], by rw [hF _ (by omega) (by omega) (by omega), a4, eo 0 13 (by omega)]⟩, fun i hi => ?_, fun p hp => ?_, fun q hq => by rw [hF _ (by omega) (by omega) (by omega), eo 7 q (by omega)]; exact d' q hq, fun p hp => ⟨by rw [hF _ (by omega) (by omega) (by omega), eo 14 p (by omega)]; exact (e p hp).1, fun k hk z => by rw [hF _ (by omega) (by omega) (by omega), eo 13 _ (by omega)]; rw [eo 14 p (by omega)] at z; exact (e p hp).2 k hk z⟩, fun i hi => by rw [eo 1 0 (by omega)] at hi; rw [eo 9 i (by omega), hG]; exact f i hi, fun p hp => by rw [eo 0 4 (by omega)] at hp; rw [eo 10 p (by omega), hG]; exact g p hp⟩
  · rw [eo 1 1 (by omega), eo 15 i (by omega), hF (2112 + 6 + 3 * i) (by omega) (by omega) (by omega), hF (2112 + 8 + 3 * i) (by omega) (by omega) (by omega)]
    refine ⟨(b i hi).1, ?_, (b i hi).2.2⟩
    unfold hang
    by_cases q : i = y.toNat
    · have bi := (b i hi).2.1
      rw [← q, up_sm, up_ne (by omega), ← bi]
      rw [← q] at h2
      exact h2
    · rw [up_ne (by omega)]
      by_cases q2 : i = x.toNat
      · have bi := (b i hi).2.1
        rw [← q2, up_sm, ← bi]
        rw [← q2] at h1
        exact h1
      · rw [up_ne (by omega), hF _ (by omega) (by omega) (by omega)]
        exact (b i hi).2.1
  · rw [hF (2112 + 27 + 5 * p) (by omega) (by omega) (by omega), hF (2112 + 28 + 5 * p) (by omega) (by omega) (by omega), hF (2112 + 29 + 5 * p) (by omega) (by omega) (by omega), hF (2112 + 30 + 5 * p) (by omega) (by omega) (by omega), hF (2112 + 31 + 5 * p) (by omega) (by omega) (by omega), eo 11 p (by omega), eo 12 p (by omega), eo 0 4 (by omega), eo 0 7 (by omega), eo 0 8 (by omega), eo 0 9 (by omega)]
    exact c p hp
theorem RLd.person {h h' L L' : PH} {n : Nat} {x f1 f2 f3 cd d : Int} (hL : RLd 2112 60 h L) (hW : WL L) (hn : L 0 4 = (n : Int)) (h8 : n < 8) (hF : ∀ k : Nat, k ≠ 2113 → ¬ (2139 + 5 * n ≤ k ∧ k < 2144 + 5 * n) → h' 170 k = h 170 k) (h0 : h' 170 2113 = L 0 4 + 1) (h1 : h' 170 (2139 + 5 * n) = x ∧ h' 170 (2140 + 5 * n) = x ∧ h' 170 (2141 + 5 * n) = f1 ∧ h' 170 (2142 + 5 * n) = f2 ∧ h' 170 (2143 + 5 * n) = f3) (hG : ∀ k : Nat, h' 171 k = if k = 67 + n then d else h 171 k) (hd : Nm cd d) (e0 : L' 0 4 = L 0 4 + 1) (eb : ∀ i : Nat, i < 8 → bt (L' 0 7) i = (if i = n then f1 else bt (L 0 7) i) ∧ bt (L' 0 8) i = (if i = n then f2 else bt (L 0 8) i) ∧ bt (L' 0 9) i = (if i = n then f3 else bt (L 0 9) i)) (e10 : ∀ k : Nat, L' 10 k = if k = n then cd else L 10 k) (e11 : ∀ k : Nat, (L' 11 k = if k = n then x else L 11 k) ∧ (L' 12 k = if k = n then x else L 12 k)) (en : L' 0 12 = L 0 12 ∧ L' 0 13 = L 0 13) (eo : ∀ j k : Nat, j ≠ 10 → j ≠ 11 → j ≠ 12 → j ≠ 0 → L' j k = L j k) : RLd 2112 60 h' L' := by
  obtain ⟨⟨a1, a2, a3, a4⟩, b, c, d', e, f, g⟩ := hL
  have w1 := hW.1
  refine ⟨⟨by rw [hF _ (by omega) (by omega), a1, eo 1 0 (by omega) (by omega) (by omega) (by omega)], by rw [h0, e0], by rw [hF _ (by omega) (by omega), a3, en.1], by rw [hF _ (by omega) (by omega), a4, en.2]⟩, fun i hi => ?_, fun p hp => ?_, fun q hq => by rw [hF _ (by omega) (by omega), eo 7 q (by omega) (by omega) (by omega) (by omega)]; exact d' q hq, fun p hp => ⟨by rw [hF _ (by omega) (by omega), eo 14 p (by omega) (by omega) (by omega) (by omega)]; exact (e p hp).1, fun k hk z => by rw [hF _ (by omega) (by omega), eo 13 _ (by omega) (by omega) (by omega) (by omega)]; rw [eo 14 p (by omega) (by omega) (by omega) (by omega)] at z; exact (e p hp).2 k hk z⟩, fun i hi => ?_, fun p hp => ?_⟩
  · rw [eo 1 1 (by omega) (by omega) (by omega) (by omega), eo 2 i (by omega) (by omega) (by omega) (by omega), eo 15 i (by omega) (by omega) (by omega) (by omega), hF (2112 + 6 + 3 * i) (by omega) (by omega), hF (2112 + 7 + 3 * i) (by omega) (by omega), hF (2112 + 8 + 3 * i) (by omega) (by omega)]
    exact b i hi
  · rw [(eb p hp).1, (eb p hp).2.1, (eb p hp).2.2, (e11 p).1, (e11 p).2, e0]
    by_cases q : p = n
    · subst q
      rw [if_pos rfl, if_pos rfl, if_pos rfl, if_pos rfl, if_pos rfl]
      exact ⟨fun _ => ⟨h1.1, h1.2.1⟩, h1.2.2.1, h1.2.2.2.1, h1.2.2.2.2⟩
    · rw [if_neg q, if_neg q, if_neg q, if_neg q, if_neg q, hF (2112 + 27 + 5 * p) (by omega) (by omega), hF (2112 + 28 + 5 * p) (by omega) (by omega), hF (2112 + 29 + 5 * p) (by omega) (by omega), hF (2112 + 30 + 5 * p) (by omega) (by omega), hF (2112 + 31 + 5 * p) (by omega) (by omega)]
      exact ⟨fun z => (c p hp).1 (by omega), (c p hp).2⟩
  · rw [eo 1 0 (by omega) (by omega) (by omega) (by omega)] at hi
    rw [eo 9 i (by omega) (by omega) (by omega) (by omega), hG, if_neg (by omega)]
    exact f i hi
  · rw [e0] at hp
    rw [e10, hG]
    by_cases q : p = n
    · rw [if_pos q, if_pos (by omega)]
      exact hd
    · rw [if_neg q, if_neg (by omega)]
      exact g p (by omega)
theorem RLd.debt {h h' L : PH} {x y v : Int} (hL : RLd 2112 60 h L) (hW : WL L) (hx : 0 ≤ x ∧ x < 8) (hy : 0 ≤ y ∧ y < 8) (hF : ∀ k : Nat, k ≠ 2179 + 8 * x.toNat + y.toNat → k < 2275 → h' 170 k = h 170 k) (h1 : h' 170 (2179 + 8 * x.toNat + y.toNat) = v) (hG : ∀ k : Nat, h' 171 k = h 171 k) : RLd 2112 60 h' (owe L x y v) := by
  obtain ⟨⟨a1, a2, a3, a4⟩, b, c, d', e, f, g⟩ := hL
  have w1 := hW.1
  have w2 := hW.2.1
  have eo : ∀ j k : Nat, j ≠ 7 → j ≠ 8 → owe L x y v j k = L j k := fun j k q q2 => by unfold owe; rw [up_ne (by omega), up_ne (by omega)]
  refine ⟨⟨by rw [hF _ (by omega) (by omega), a1, eo 1 0 (by omega) (by omega)], by rw [hF _ (by omega) (by omega), a2, eo 0 4 (by omega) (by omega)], by rw [hF _ (by omega) (by omega), a3, eo 0 12 (by omega) (by omega)], by rw [hF _ (by omega) (by omega), a4, eo 0 13 (by omega) (by omega)]⟩, fun i hi => ?_, fun p hp => ?_, fun q hq => ?_, fun p hp => ⟨by rw [hF _ (by omega) (by omega), eo 14 p (by omega) (by omega)]; exact (e p hp).1, fun k hk z => by rw [hF _ (by omega) (by omega), eo 13 _ (by omega) (by omega)]; rw [eo 14 p (by omega) (by omega)] at z; exact (e p hp).2 k hk z⟩, fun i hi => by rw [eo 1 0 (by omega) (by omega)] at hi; rw [eo 9 i (by omega) (by omega), hG]; exact f i hi, fun p hp => by rw [eo 0 4 (by omega) (by omega)] at hp; rw [eo 10 p (by omega) (by omega), hG]; exact g p hp⟩
  · rw [eo 1 1 (by omega) (by omega), eo 2 i (by omega) (by omega), eo 15 i (by omega) (by omega), hF (2112 + 6 + 3 * i) (by omega) (by omega), hF (2112 + 7 + 3 * i) (by omega) (by omega), hF (2112 + 8 + 3 * i) (by omega) (by omega)]
    exact b i hi
  · rw [hF (2112 + 27 + 5 * p) (by omega) (by omega), hF (2112 + 28 + 5 * p) (by omega) (by omega), hF (2112 + 29 + 5 * p) (by omega) (by omega), hF (2112 + 30 + 5 * p) (by omega) (by omega), hF (2112 + 31 + 5 * p) (by omega) (by omega), eo 11 p (by omega) (by omega), eo 12 p (by omega) (by omega), eo 0 4 (by omega) (by omega), eo 0 7 (by omega) (by omega), eo 0 8 (by omega) (by omega), eo 0 9 (by omega) (by omega)]
    exact c p hp
  · unfold owe
    by_cases z : q = 8 * x.toNat + y.toNat
    · rw [z, up_sm, ← h1]
      congr 1
      omega
    · rw [up_ne (by omega), up_ne (by omega), hF _ (by omega) (by omega)]
      exact d' q hq
theorem RLd.heir {h h' L : PH} {x n : Nat} {y : Int} (hL : RLd 2112 60 h L) (hW : WL L) (hx : x < 8) (hn : L 14 x = (n : Int)) (h3 : n < 3) (hF : ∀ k : Nat, k ≠ 2243 + 4 * x → k ≠ 2244 + 4 * x + n → k < 2275 → h' 170 k = h 170 k) (h1 : h' 170 (2243 + 4 * x) = (n : Int) + 1) (h2 : h' 170 (2244 + 4 * x + n) = y) (hG : ∀ k : Nat, h' 171 k = h 171 k) : RLd 2112 60 h' (uph (uph L 13 (3 * x + n) y) 14 x (L 14 x + 1)) := by
  obtain ⟨⟨a1, a2, a3, a4⟩, b, c, d', e, f, g⟩ := hL
  have w1 := hW.1
  have w2 := hW.2.1
  have eo : ∀ j k : Nat, j ≠ 13 → j ≠ 14 → (uph (uph L 13 (3 * x + n) y) 14 x (L 14 x + 1)) j k = L j k := fun j k q q2 => by rw [up_ne (by omega), up_ne (by omega)]
  refine ⟨⟨by rw [hF _ (by omega) (by omega) (by omega), a1, eo 1 0 (by omega) (by omega)], by rw [hF _ (by omega) (by omega) (by omega), a2, eo 0 4 (by omega) (by omega)], by rw [hF _ (by omega) (by omega) (by omega), a3, eo 0 12 (by omega) (by omega)], by rw [hF _ (by omega) (by omega) (by omega), a4, eo 0 13 (by omega) (by omega)]⟩, fun i hi => ?_, fun p hp => ?_, fun q hq => by rw [hF _ (by omega) (by omega) (by omega), eo 7 q (by omega) (by omega)]; exact d' q hq, fun p hp => ?_, fun i hi => by rw [eo 1 0 (by omega) (by omega)] at hi; rw [eo 9 i (by omega) (by omega), hG]; exact f i hi, fun p hp => by rw [eo 0 4 (by omega) (by omega)] at hp; rw [eo 10 p (by omega) (by omega), hG]; exact g p hp⟩
  · rw [eo 1 1 (by omega) (by omega), eo 2 i (by omega) (by omega), eo 15 i (by omega) (by omega), hF (2112 + 6 + 3 * i) (by omega) (by omega) (by omega), hF (2112 + 7 + 3 * i) (by omega) (by omega) (by omega), hF (2112 + 8 + 3 * i) (by omega) (by omega) (by omega)]
    exact b i hi
  · rw [hF (2112 + 27 + 5 * p) (by omega) (by omega) (by omega), hF (2112 + 28 + 5 * p) (by omega) (by omega) (by omega), hF (2112 + 29 + 5 * p) (by omega) (by omega) (by omega), hF (2112 + 30 + 5 * p) (by omega) (by omega) (by omega), hF (2112 + 31 + 5 * p) (by omega) (by omega) (by omega), eo 11 p (by omega) (by omega), eo 12 p (by omega) (by omega), eo 0 4 (by omega) (by omega), eo 0 7 (by omega) (by omega), eo 0 8 (by omega) (by omega), eo 0 9 (by omega) (by omega)]
    exact c p hp
  · by_cases q : p = x
    · subst q
      rw [up_sm]
      refine ⟨by rw [hn]; exact h1, fun k hk z => ?_⟩
      rw [up_ne (by omega)]
      by_cases z2 : k = n
      · rw [z2, up_sm]
        exact h2
      · rw [up_ne (by omega), hF _ (by omega) (by omega) (by omega)]
        exact (e p hp).2 k hk (by omega)
    · rw [up_ne (by omega), up_ne (by omega)]
      refine ⟨by rw [hF _ (by omega) (by omega) (by omega)]; exact (e p hp).1, fun k hk z => ?_⟩
      rw [up_ne (by omega), up_ne (by omega), hF _ (by omega) (by omega) (by omega)]
      exact (e p hp).2 k hk z
def RQ (T : TX) (v : Int) (h : PH) (r : PR) : Prop := (v = 1 → ∃ s L, r = semi T s L ∧ RN T h s ∧ RLd 2112 60 h L ∧ WL L) ∧ (v = 0 → ∃ f, r = .inl f ∧ RF h f.1 f.2)
theorem RQ.b {T : TX} {h : PH} {r : PR} {q : Int × Nat} (e : r = .inl q) (h1 : RF h q.1 q.2) : RQ T 0 h r := ⟨fun z => absurd z (by decide), fun _ => ⟨q, e, h1⟩⟩
theorem RQ.g {T : TX} {h : PH} {r : PR} {s : Nat} {L : PH} (e : r = semi T s L) (h1 : RN T h s) (h2 : RLd 2112 60 h L) (h3 : WL L) : RQ T 1 h r := ⟨fun _ => ⟨s, L, e, h1, h2, h3⟩, fun z => absurd z (by decide)⟩
theorem r_tk {T : TX} {s i : Nat} {w k : Int} (hi : i < 24) (hk : k = (i : Int)) (hw : ((kpm.getD i 0 : Nat) : Int) = w) : (if rk T s = k then nt T s else s) = tk T s w := by
  unfold tk
  have := rk_is (T := T) (s := s) hi
  rw [hw, ← hk] at this
  by_cases e : rk T s = k
  · rw [if_pos e, if_pos (this.mp e)]
  · rw [if_neg e, if_neg (fun z => e (this.mpr z))]
theorem r_iw {T : TX} {s i : Nat} {w k : Int} (hi : i < 24) (hk : k = (i : Int)) (hw : ((kpm.getD i 0 : Nat) : Int) = w) : rk T s = k ↔ isW T s w := by
  have := rk_is (T := T) (s := s) hi
  rw [hw, ← hk] at this
  exact this
/-- a semicolon -/
theorem r_sm {sl : Nat} {si : Nat → Int} {h h' : PH} {T : TX} {s : Nat} {L : PH} {v : Int} (hN : RN T h s) (hL : RLd 2112 60 h L) (hW : WL L) (hv : v = 0 ∨ v = 1) (hc : CP (zz sl si (7, 0)) mX12_wantSign h [(2, 169), (0, 59)] h' [(0, v)]) : ROp T v h' (semi T s L) ∧ GTk h h' := by
  obtain ⟨a1, a2, a3⟩ := c_X12_wantSign hN hc
  refine ⟨?_, a3⟩
  unfold semi
  rcases hv with e | e
  · obtain ⟨b1, b2⟩ := a2 e
    rw [if_neg b1]
    exact ⟨e, b2⟩
  · obtain ⟨b1, b2⟩ := a1 e
    rw [if_pos b1]
    exact ⟨e, b2, a3.L hL hW, hW⟩
end
