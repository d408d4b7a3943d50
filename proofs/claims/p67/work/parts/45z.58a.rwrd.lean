/-! words and names of both sides -/
theorem kps_ok : ∀ n : Nat, n < 24 → kps.getD n 0 < kps.getD (n + 1) 0 ∧ kps.getD (n + 1) 0 ≤ kps.getD n 0 + 8 ∧ kps.getD (n + 1) 0 ≤ 124 ∧ sxl.getD (kps.getD (n + 1) 0 - 1) 0 = 32 ∧ kps.getD n 0 + 1 < kps.getD (n + 1) 0 := by decide +kernel
theorem sx_lt : ∀ n : Nat, n < 24 → ∀ d : Nat, d < 8 → kps.getD n 0 + d + 1 < kps.getD (n + 1) 0 → 97 ≤ sxl.getD (kps.getD n 0 + d) 0 ∧ sxl.getD (kps.getD n 0 + d) 0 ≤ 122 := by decide +kernel
/-- five bits a letter, letter by letter -/
def c5n (g : Nat → Int) : Nat → Int
  | 0 => 0
  | m + 1 => c5n g m * 32 + (g m - 96)
theorem c5n_cg {g g' : Nat → Int} : ∀ (m : Nat), (∀ i, i < m → g i = g' i) → c5n g m = c5n g' m
  | 0, _ => rfl
  | m + 1, h => by
    show c5n g m * 32 + (g m - 96) = c5n g' m * 32 + (g' m - 96)
    rw [c5n_cg m (fun i hi => h i (by omega)), h m (by omega)]
theorem c5n_b {g : Nat → Int} : ∀ (m : Nat), (∀ i, i < m → 97 ≤ g i ∧ g i ≤ 122) → 0 ≤ c5n g m ∧ c5n g m < 32 ^ m ∧ (1 ≤ m → 1 ≤ c5n g m)
  | 0, _ => by
    show (0 : Int) ≤ 0 ∧ (0 : Int) < 32 ^ 0 ∧ _
    omega
  | m + 1, h => by
    have a := c5n_b m (fun i hi => h i (by omega))
    have b := h m (by omega)
    have e : (32 : Int) ^ (m + 1) = 32 ^ m * 32 := Int.pow_succ _ _
    show 0 ≤ c5n g m * 32 + (g m - 96) ∧ c5n g m * 32 + (g m - 96) < 32 ^ (m + 1) ∧ _
    rw [e]
    refine ⟨by omega, by omega, fun _ => ?_⟩
    show 1 ≤ c5n g m * 32 + (g m - 96)
    omega
theorem c5n_in {g g' : Nat → Int} : ∀ (m m' : Nat), (∀ i, i < m → 97 ≤ g i ∧ g i ≤ 122) → (∀ i, i < m' → 97 ≤ g' i ∧ g' i ≤ 122) → c5n g m = c5n g' m' → m = m' ∧ ∀ i, i < m → g i = g' i
  | 0, 0, _, _, _ => ⟨rfl, fun i hi => by omega⟩
  | 0, m' + 1, _, h', e => by
    have := (c5n_b (m' + 1) h').2.2 (by omega)
    rw [← e] at this
    exact absurd this (by show ¬ (1 : Int) ≤ 0; omega)
  | m + 1, 0, h, _, e => by
    have := (c5n_b (m + 1) h).2.2 (by omega)
    rw [e] at this
    exact absurd this (by show ¬ (1 : Int) ≤ 0; omega)
  | m + 1, m' + 1, h, h', e => by
    have e : c5n g m * 32 + (g m - 96) = c5n g' m' * 32 + (g' m' - 96) := e
    have a := h m (by omega)
    have a' := h' m' (by omega)
    obtain ⟨q1, q2⟩ := c5n_in m m' (fun i hi => h i (by omega)) (fun i hi => h' i (by omega)) (by omega)
    subst q1
    refine ⟨rfl, fun i hi => ?_⟩
    by_cases z : i = m
    · rw [z]; omega
    · exact q2 i (by omega)
theorem c5_n {T : TX} {s : Nat} : ∀ (m : Nat), m ≤ 8 → (∀ t, s ≤ t → t < s + m → ltr (T.1 t)) → c5 T s m = c5n (fun i => T.1 (s + i)) m
  | 0, _, _ => rfl
  | m + 1, hm, h => by
    have a := c5_n m (by omega) (fun t h1 h2 => h t h1 (by omega))
    have b := h (s + m) (by omega) (by omega)
    unfold ltr at b
    have d := c5n_b (g := fun i => T.1 (s + i)) m (fun i hi => by have := h (s + i) (by omega) (by omega); unfold ltr at this; exact this)
    have p : (32 : Int) ^ m ≤ 34359738368 := by
      rcases (show m = 0 ∨ m = 1 ∨ m = 2 ∨ m = 3 ∨ m = 4 ∨ m = 5 ∨ m = 6 ∨ m = 7 by omega) with q | q | q | q | q | q | q | q <;> rw [q] <;> decide
    rw [c5_s, a, w64_id (z := c5n (fun i => T.1 (s + i)) m * 32) (by omega) (by omega), w64_id (z := c5n (fun i => T.1 (s + i)) m * 32 + T.1 (s + m)) (by omega) (by omega), w64_id (z := c5n (fun i => T.1 (s + i)) m * 32 + T.1 (s + m) - 97) (by omega) (by omega), w64_id (by omega) (by omega)]
    show _ = c5n (fun i => T.1 (s + i)) m * 32 + (T.1 (s + m) - 96)
    omega
/-- the letters of a word -/
theorem wd_lt {T : TX} {s : Nat} (hs : s ≤ T.2) (hk : kd T s = 2) : s < T.2 ∧ nx T s = run ltr T s ∧ Run ltr T s (nx T s) ∧ ltr (T.1 s) := by
  unfold kd at hk
  by_cases h : T.2 ≤ s
  · rw [if_pos h] at hk; omega
  · rw [if_neg h] at hk
    by_cases h1 : ltr (T.1 s)
    · have n1 : nx T s = run ltr T s := by unfold nx; rw [if_neg h, if_pos h1]
      exact ⟨by omega, n1, by rw [n1]; exact run_ok ltr hs, h1⟩
    · rw [if_neg h1] at hk
      split at hk
      · split at hk <;> omega
      · split at hk <;> omega
/-- a word is the n-th of the reference's where its number is -/
theorem wd_eq {T : TX} {s n : Nat} (hs : s ≤ T.2) (hk : kd T s = 2) (hn : n < 24) : rwt.getD n 0 = wc T s ↔ (kps.getD (n + 1) 0 - 1 - kps.getD n 0 = nx T s - s ∧ ∀ i : Nat, i < nx T s - s → sxl.getD (kps.getD n 0 + i) 0 = T.1 (s + i)) := by
  obtain ⟨k1, k2, k3, k4, k5⟩ := kps_ok n hn
  obtain ⟨w0, w1, w2, w3⟩ := wd_lt hs hk
  have hx : ∀ i, i < kps.getD (n + 1) 0 - 1 - kps.getD n 0 → 97 ≤ (fun i => sxl.getD (kps.getD n 0 + i) 0) i ∧ (fun i => sxl.getD (kps.getD n 0 + i) 0) i ≤ 122 := fun i hi => sx_lt n hn i (by omega) (by omega)
  have hr : rwt.getD n 0 = c5n (fun i => sxl.getD (kps.getD n 0 + i) 0) (kps.getD (n + 1) 0 - 1 - kps.getD n 0) := by
    have : ∀ n : Nat, n < 24 → rwt.getD n 0 = c5n (fun i => sxl.getD (kps.getD n 0 + i) 0) (kps.getD (n + 1) 0 - 1 - kps.getD n 0) := by decide +kernel
    exact this n hn
  have hw : ∀ t, s ≤ t → t < nx T s → ltr (T.1 t) := w2.2.2.1
  have hp : s < nx T s := (nx_b hs).2.2 (by rw [hk]; decide)
  unfold wc
  by_cases e : nx T s - s ≤ 8
  · rw [if_pos e, hr, c5_n _ e (fun t h1 h2 => hw t h1 (by omega))]
    constructor
    · intro q
      obtain ⟨q1, q2⟩ := c5n_in _ _ hx (fun i hi => hw (s + i) (by omega) (by omega)) q
      exact ⟨q1, fun i hi => q2 i (by omega)⟩
    · intro q
      rw [q.1]
      exact c5n_cg _ (fun i hi => q.2 i hi)
  · rw [if_neg e]
    constructor
    · intro q
      have := (c5n_b _ hx).2.2 (by omega)
      rw [← hr] at this
      omega
    · intro q
      omega
theorem wc_pos {T : TX} {s : Nat} (hs : s ≤ T.2) (hk : kd T s = 2) : wc T s ≠ 0 ↔ nx T s - s ≤ 8 := by
  obtain ⟨w0, w1, w2, w3⟩ := wd_lt hs hk
  have hw : ∀ t, s ≤ t → t < nx T s → ltr (T.1 t) := w2.2.2.1
  have hp : s < nx T s := (nx_b hs).2.2 (by rw [hk]; decide)
  unfold wc
  by_cases e : nx T s - s ≤ 8
  · rw [if_pos e, c5_n _ e (fun t h1 h2 => hw t h1 (by omega))]
    have := (c5n_b (g := fun i => T.1 (s + i)) (nx T s - s) (fun i hi => hw (s + i) (by omega) (by omega))).2.2 (by omega)
    exact ⟨fun _ => e, fun _ => by omega⟩
  · rw [if_neg e]
    exact ⟨fun z => absurd rfl z, fun z => absurd z e⟩
/-- the number of a keyword on both sides -/
def kpm : List Nat := [0, 2, 3, 8, 9, 1, 4, 5, 6, 7, 10, 11, 12, 13, 14, 16, 15, 17, 21, 22, 23, 18, 19, 20]
theorem rw_df : ∀ i : Nat, i < 24 → ∀ j : Nat, j < 24 → rwt.getD i 0 = rwt.getD j 0 → i = j := by decide +kernel
theorem kw_df : ∀ i : Nat, i < 24 → ∀ j : Nat, j < 24 → kwt.getD i 0 = kwt.getD j 0 → i = j := by decide +kernel
theorem rk_kw : ∀ i : Nat, i < 24 → rwt.getD i 0 = kwt.getD (kpm.getD i 0) 0 ∧ kpm.getD i 0 < 24 := by decide +kernel
theorem kp_on : ∀ j : Nat, j < 24 → ∃ i : Nat, i < 24 ∧ kpm.getD i 0 = j := by decide +kernel
theorem fd_is {g : Nat → Int} {x : Int} {n : Nat} (hd : ∀ i, i < n → ∀ j, j < n → g i = g j → i = j) {u : Nat} (hu : u < n) : fd g x n = u ↔ g u = x := by
  constructor
  · intro h
    rcases (show (∀ i, i < n → g i ≠ x) ∨ ∃ i, i < n ∧ g i = x from by
      by_cases q : ∃ i, i < n ∧ g i = x
      · exact Or.inr q
      · exact Or.inl (fun i hi z => q ⟨i, hi, z⟩)) with q | ⟨i, hi, q⟩
    · rw [fd_no n q] at h; omega
    · rw [fd_at n i hi (fun j hj z => by have := hd j (by omega) i hi (by rw [z, q]); omega) q] at h
      have : i = u := by omega
      rw [← this]; exact q
  · intro h
    exact fd_at n u hu (fun j hj z => by have := hd j (by omega) u hu (by rw [z, h]); omega) h
theorem kwl_b {x : Int} : ∀ (n : Nat), -1 ≤ kwl x n ∧ kwl x n < n
  | 0 => by show (-1 : Int) ≤ -1 ∧ (-1 : Int) < ((0 : Nat) : Int); omega
  | n + 1 => by
    have := kwl_b (x := x) n
    show -1 ≤ (if kwt.getD n 0 = x then (n : Int) else kwl x n) ∧ (if kwt.getD n 0 = x then (n : Int) else kwl x n) < ((n + 1 : Nat) : Int)
    split <;> omega
theorem kwl_is {x : Int} : ∀ (n : Nat), n ≤ 24 → ∀ u : Nat, u < n → (kwl x n = u ↔ kwt.getD u 0 = x)
  | 0, _, u, hu => by omega
  | n + 1, hn, u, hu => by
    show (if kwt.getD n 0 = x then (n : Int) else kwl x n) = u ↔ _
    by_cases e : kwt.getD n 0 = x
    · rw [if_pos e]
      constructor
      · intro h
        have : n = u := by omega
        rw [← this]; exact e
      · intro h
        have := kw_df n (by omega) u (by omega) (by rw [e, h])
        omega
    · rw [if_neg e]
      by_cases z : u = n
      · subst z
        have := kwl_b (x := x) u
        exact ⟨fun h => by omega, fun h => absurd h e⟩
      · exact kwl_is n (by omega) u (by omega)
/-- the reference's number of a word -/
noncomputable def rk (T : TX) (s : Nat) : Int := if kd T s = 2 then fd (fun i => rwt.getD i 0) (wc T s) 24 else -1
theorem rk_b (T : TX) (s : Nat) : -1 ≤ rk T s ∧ rk T s < 24 := by
  unfold rk
  split
  · have := fd_b (g := fun i => rwt.getD i 0) (x := wc T s) 24
    omega
  · omega
theorem rk_is {T : TX} {s : Nat} {i : Nat} (hi : i < 24) : rk T s = i ↔ isW T s ((kpm.getD i 0 : Nat) : Int) := by
  unfold rk isW kw
  by_cases e : kd T s = 2
  · rw [if_pos e, fd_is (g := fun i => rwt.getD i 0) rw_df hi, kwl_is 24 (by omega) _ (rk_kw i hi).2, (rk_kw i hi).1]
    exact ⟨fun h => ⟨e, h⟩, fun h => h.2⟩
  · rw [if_neg e]
    exact ⟨fun h => by omega, fun h => absurd h.1 e⟩
theorem rk_no {T : TX} {s : Nat} (hk : kd T s = 2) : rk T s = -1 ↔ kw T s = -1 := by
  constructor
  · intro h
    have b := kwl_b (x := wc T s) 24
    rcases (show kw T s < 0 ∨ 0 ≤ kw T s by omega) with q | q
    · unfold kw at q ⊢; omega
    · obtain ⟨i, h1, h2⟩ := kp_on (kw T s).toNat (by unfold kw; omega)
      have := (rk_is (T := T) (s := s) h1).mpr ⟨hk, by rw [h2]; omega⟩
      omega
  · intro h
    have b := rk_b T s
    rcases (show rk T s < 0 ∨ 0 ≤ rk T s by omega) with q | q
    · omega
    · have := (rk_is (T := T) (s := s) (i := (rk T s).toNat) (by omega)).mp (by omega)
      have := this.2
      omega
set_option maxRecDepth 10000 in
theorem v_X12_inWords {sl : Nat} {si : Nat → Int} {K : Nat → PH → ZL → List ZV → Prop} {Q : PH → List ZV → Prop} {h : PH}   (H : R32 (h 169 12) → ((h 169 12) = 2 → K 14 h [(3, (0, 1)), (2, (0, 0)), (0, (2, 169)), (1, (6, 3))] []) ∧ (¬ ((h 169 12) = 2) → Q h [(0, (-1))])) : vc (zz sl si (7, 0)) (fun p => Nat.beq p 14 || Nat.beq p 25 || Nat.beq p 68) K Q mX12_inWords 10 0 mX12_inWords.2.2.2.2.2.2 h [(0, (2, 169)), (1, (6, 3))] [] := H
set_option maxRecDepth 10000 in
theorem v_X12_inWords_14 {sl : Nat} {si : Nat → Int} {K : Nat → PH → ZL → List ZV → Prop} {Q : PH → List ZV → Prop} {h : PH}   {n k : Int} (H : ∀ h1 v1, CP (zz sl si (7, 0)) mJ0_length_8abf5 h [(6, 3)] h1 [(0, v1)] → R32 v1 → (v1 ≤ k → Q h1 [(0, (-1))]) ∧ (¬ (v1 ≤ k) → K 25 h1 [(4, (0, k)), (0, (2, 169)), (1, (6, 3)), (2, (0, n)), (3, (0, k))] [])) : vc (zz sl si (7, 0)) (fun p => Nat.beq p 14 || Nat.beq p 25 || Nat.beq p 68) K Q mX12_inWords 8 14 (ax_jmp mX12_inWords.2.2.2.2.2.2 14) h [(0, (2, 169)), (1, (6, 3)), (2, (0, n)), (3, (0, k))] [] := H
set_option maxRecDepth 10000 in
theorem v_X12_inWords_25 {sl : Nat} {si : Nat → Int} {K : Nat → PH → ZL → List ZV → Prop} {Q : PH → List ZV → Prop} {h : PH}   {n k e : Int} (H : ∀ h1 v1, CP (zz sl si (7, 0)) mJ0_charAt_5068e h [(6, 3), (0, e)] h1 [(0, v1)] → R32 v1 → (v1 = 32 → R32 (h1 169 14) → R32 (h1 169 13) → ((w32 (e - k)) ≠ (w32 ((h1 169 14) - (h1 169 13))) → K 68 h1 [(6, (0, k)), (5, (0, 0)), (0, (2, 169)), (1, (6, 3)), (2, (0, n)), (3, (0, k)), (4, (0, e))] []) ∧ (¬ ((w32 (e - k)) ≠ (w32 ((h1 169 14) - (h1 169 13)))) → K 68 h1 [(6, (0, k)), (5, (0, 1)), (0, (2, 169)), (1, (6, 3)), (2, (0, n)), (3, (0, k)), (4, (0, e))] [])) ∧ (¬ (v1 = 32) → K 25 h1 [(4, (0, w32 (e + 1))), (0, (2, 169)), (1, (6, 3)), (2, (0, n)), (3, (0, k))] [])) : vc (zz sl si (7, 0)) (fun p => Nat.beq p 14 || Nat.beq p 25 || Nat.beq p 68) K Q mX12_inWords 21 25 (ax_jmp mX12_inWords.2.2.2.2.2.2 25) h [(0, (2, 169)), (1, (6, 3)), (2, (0, n)), (3, (0, k)), (4, (0, e))] [] := H
set_option maxRecDepth 10000 in
theorem v_X12_inWords_68 {sl : Nat} {si : Nat → Int} {K : Nat → PH → ZL → List ZV → Prop} {Q : PH → List ZV → Prop} {h : PH}   {n k e l i : Int} (H : (e ≤ i → (l = 0 → K 14 h [(3, (0, w32 (e + 1))), (2, (0, w32 (n + 1))), (0, (2, 169)), (1, (6, 3)), (4, (0, e)), (5, (0, l)), (6, (0, i))] []) ∧ (¬ (l = 0) → Q h [(0, n)])) ∧ (¬ (e ≤ i) → (l = 0 → (l = 0 → K 14 h [(3, (0, w32 (e + 1))), (2, (0, w32 (n + 1))), (0, (2, 169)), (1, (6, 3)), (4, (0, e)), (5, (0, l)), (6, (0, i))] []) ∧ (¬ (l = 0) → Q h [(0, n)])) ∧ (¬ (l = 0) → ∀ h1 v1, CP (zz sl si (7, 0)) mJ0_charAt_5068e h [(6, 3), (0, i)] h1 [(0, v1)] → R32 v1 → R32 (h1 169 13) → ∀ h2 v2, CP (zz sl si (7, 0)) mX12_byteAt h1 [(2, 169), (0, w32 ((w32 ((h1 169 13) + i)) - k))] h2 [(0, v2)] → R32 v2 → (v1 ≠ v2 → K 68 h2 [(6, (0, w32 (i + 1))), (5, (0, 0)), (0, (2, 169)), (1, (6, 3)), (2, (0, n)), (3, (0, k)), (4, (0, e))] []) ∧ (¬ (v1 ≠ v2) → K 68 h2 [(6, (0, w32 (i + 1))), (5, (0, 1)), (0, (2, 169)), (1, (6, 3)), (2, (0, n)), (3, (0, k)), (4, (0, e))] [])))) : vc (zz sl si (7, 0)) (fun p => Nat.beq p 14 || Nat.beq p 25 || Nat.beq p 68) K Q mX12_inWords 24 68 (ax_jmp mX12_inWords.2.2.2.2.2.2 68) h [(0, (2, 169)), (1, (6, 3)), (2, (0, n)), (3, (0, k)), (4, (0, e)), (5, (0, l)), (6, (0, i))] [] := H
set_option maxHeartbeats 600000 in
theorem c_X12_inWords {sl : Nat} {si : Nat → Int} {h h' : PH} {T : TX} {s : Nat} {v : Int} (hN : RTk T h s) (hc : CP (zz sl si (7, 0)) mX12_inWords h [(2, 169), (6, 3)] h' [(0, v)]) : h' = h ∧ v = rk T s := by
  have q : (fun (xh : PH) (r : List ZV) => ∀ v : Int, r = [(0, v)] → (xh = h ∧ v = rk T s)) h' [(0, v)] := by
    refine cp_vc (cut := (fun p => Nat.beq p 14 || Nat.beq p 25 || Nat.beq p 68)) (K := fun p hx lv st => (p = 14 ∧ lK (fun u : Nat => [(0, (2, 169)), (1, (6, 3)), (2, (0, (u : Int))), (3, (0, ((kps.getD u 0 : Nat) : Int)))]) (fun u hx => hx = h ∧ kd T s = 2 ∧ u ≤ 24 ∧ ∀ j : Nat, j < u → rwt.getD j 0 ≠ wc T s) p hx lv st) ∨ (p = 25 ∧ lK (fun p : Nat × Nat => [(0, (2, 169)), (1, (6, 3)), (2, (0, (p.1 : Int))), (3, (0, ((kps.getD p.1 0 : Nat) : Int))), (4, (0, (p.2 : Int)))]) (fun p hx => hx = h ∧ kd T s = 2 ∧ p.1 < 24 ∧ (∀ j : Nat, j < p.1 → rwt.getD j 0 ≠ wc T s) ∧ kps.getD p.1 0 ≤ p.2 ∧ p.2 < kps.getD (p.1 + 1) 0) p hx lv st) ∨ (p = 68 ∧ lK (fun p : Nat × Nat × Int => [(0, (2, 169)), (1, (6, 3)), (2, (0, (p.1 : Int))), (3, (0, ((kps.getD p.1 0 : Nat) : Int))), (4, (0, ((kps.getD (p.1 + 1) 0 - 1 : Nat) : Int))), (5, (0, p.2.2)), (6, (0, (p.2.1 : Int)))]) (fun p hx => hx = h ∧ kd T s = 2 ∧ p.1 < 24 ∧ (∀ j : Nat, j < p.1 → rwt.getD j 0 ≠ wc T s) ∧ kps.getD p.1 0 ≤ p.2.1 ∧ p.2.1 < kps.getD (p.1 + 1) 0 ∧ (p.2.2 = 0 → rwt.getD p.1 0 ≠ wc T s) ∧ (p.2.2 ≠ 0 → (kps.getD (p.1 + 1) 0 - 1 - kps.getD p.1 0 = nx T s - s ∧ ∀ t : Nat, t < p.2.1 - kps.getD p.1 0 → sxl.getD (kps.getD p.1 0 + t) 0 = T.1 (s + t)))) p hx lv st)) (Q := fun (xh : PH) (r : List ZV) => ∀ v : Int, r = [(0, v)] → (xh = h ∧ v = rk T s)) (v_X12_inWords ?_) (fun pc hx lv st hcut hK => ?_) hc
    · exact (fun r1 => ⟨fun c2 => (by rw [hN.2.2.2.2.1] at c2; exact Or.inl ⟨rfl, rfl, 0, ⟨rfl, c2, by omega, fun j q => by omega⟩, rfl, rfl, rfl, rfl, trivial⟩), fun c2 => (by rw [hN.2.2.2.2.1] at c2; intro v e; cases e; exact ⟨rfl, by unfold rk; rw [if_neg c2]⟩)⟩)
    · rcases hK with ⟨rfl, rfl, u, hJ, hs⟩ | ⟨rfl, rfl, p, hJ, hs⟩ | ⟨rfl, rfl, p, hJ, hs⟩
      · obtain ⟨j0, j1, j2, j3⟩ := hJ
        subst j0
        have kk : u < 24 → kps.getD u 0 + 1 < kps.getD (u + 1) 0 ∧ kps.getD (u + 1) 0 ≤ 124 := fun q => ⟨(kps_ok u q).2.2.2.2, (kps_ok u q).2.2.1⟩
        have ke : kps.getD 24 0 = 124 := rfl
        exact ⟨_, _, hs, v_X12_inWords_14 (fun h1 v1 p1 q1 => by obtain ⟨t1, e1⟩ := c_J0_length_8abf5 p1; have t1 := t1.symm; subst t1; exact ⟨fun c1 => (by intro v e; cases e; have e24 : u = 24 := (by rcases Nat.lt_or_ge u 24 with q | q; (have := kk q; omega); omega); subst e24; exact ⟨rfl, by unfold rk; rw [if_pos j1, fd_no 24 j3]⟩), fun c1 => (by have u24 : u < 24 := (by rcases Nat.lt_or_ge u 24 with q | q; exact q; (have : u = 24 := (by omega); subst this; omega)); have := kk u24; exact Or.inr (Or.inl ⟨rfl, rfl, (u, kps.getD u 0), ⟨rfl, j1, u24, j3, Nat.le_refl _, by show kps.getD u 0 < kps.getD (u + 1) 0; omega⟩, rfl, rfl, rfl, rfl, rfl, trivial⟩))⟩)⟩
      · obtain ⟨j0, j1, j2, j3, j4, j5⟩ := hJ
        subst j0
        obtain ⟨k1, k2, k3, k4, k5⟩ := kps_ok p.1 j2
        have hp := (nx_b hN.2.1).1
        have hT := hN.1.1.1
        have hq := (nx_b hN.2.1).2.1
        have sx : SX.1 (p.2 : Int).toNat = sxl.getD p.2 0 := by rw [Int.toNat_natCast]; exact sx_all _ (by omega)
        have l32 : sxl.getD p.2 0 = 32 → p.2 = kps.getD (p.1 + 1) 0 - 1 := fun q => by
          rcases Nat.lt_or_ge (p.2 + 1) (kps.getD (p.1 + 1) 0) with z | z
          · have := sx_lt p.1 j2 (p.2 - kps.getD p.1 0) (by omega) (by omega)
            rw [show kps.getD p.1 0 + (p.2 - kps.getD p.1 0) = p.2 by omega] at this
            omega
          · omega
        have n32 : sxl.getD p.2 0 ≠ 32 → p.2 ≠ kps.getD (p.1 + 1) 0 - 1 := fun q z => q (by rw [z]; exact k4)
        exact ⟨_, _, hs, v_X12_inWords_25 (fun h1 v1 p1 q1 => ⟨fun c1 => (fun r2 => (fun r3 => ⟨fun c4 => (by obtain ⟨r1, w1⟩ := c_J0_charAt_5068e (by omega) (by omega) p1; have r1 := r1.symm; subst r1; rw [sx] at w1; have z := l32 (by omega); have wx : w32 (hx 169 14 - hx 169 13) = (nx T s : Int) - s := (by rw [hN.2.2.2.1, hN.2.2.1]; exact w32_id (by omega) (by omega)); have wy : w32 ((p.2 : Int) - ((kps.getD p.1 0 : Nat) : Int)) = (p.2 : Int) - (kps.getD p.1 0 : Nat) := w32_id (by omega) (by omega); rw [wx, wy] at c4; exact Or.inr (Or.inr ⟨rfl, rfl, (p.1, kps.getD p.1 0, 0), ⟨rfl, j1, j2, j3, Nat.le_refl _, k1, fun _ q => (by have := ((wd_eq hN.2.1 j1 j2).mp q).1; omega), fun q => absurd rfl q⟩, rfl, rfl, rfl, rfl, (by rw [← z]; rfl), rfl, rfl, trivial⟩)), fun c4 => (by obtain ⟨r1, w1⟩ := c_J0_charAt_5068e (by omega) (by omega) p1; have r1 := r1.symm; subst r1; rw [sx] at w1; have z := l32 (by omega); have wx : w32 (hx 169 14 - hx 169 13) = (nx T s : Int) - s := (by rw [hN.2.2.2.1, hN.2.2.1]; exact w32_id (by omega) (by omega)); have wy : w32 ((p.2 : Int) - ((kps.getD p.1 0 : Nat) : Int)) = (p.2 : Int) - (kps.getD p.1 0 : Nat) := w32_id (by omega) (by omega); rw [wx, wy] at c4; exact Or.inr (Or.inr ⟨rfl, rfl, (p.1, kps.getD p.1 0, 1), ⟨rfl, j1, j2, j3, Nat.le_refl _, k1, fun q => (by dsimp only at q; omega), fun _ => ⟨(by dsimp only; omega), fun t ht => (by have ht : t < kps.getD p.1 0 - kps.getD p.1 0 := ht; omega)⟩⟩, rfl, rfl, rfl, rfl, (by rw [← z]; rfl), rfl, rfl, trivial⟩))⟩)), fun c1 => (by obtain ⟨r1, w1⟩ := c_J0_charAt_5068e (by omega) (by omega) p1; have r1 := r1.symm; subst r1; rw [sx] at w1; have z := n32 (by omega); exact Or.inr (Or.inl ⟨rfl, rfl, (p.1, p.2 + 1), ⟨rfl, j1, j2, j3, (by dsimp only; omega), (by dsimp only; omega)⟩, rfl, rfl, rfl, rfl, wv (by omega) (by omega) (by omega), trivial⟩))⟩)⟩
      · obtain ⟨j0, j1, j2, j3, j4, j5, j6, j7⟩ := hJ
        subst j0
        obtain ⟨k1, k2, k3, k4, k5⟩ := kps_ok p.1 j2
        have hp := (nx_b hN.2.1).1
        have hT := hN.1.1.1
        have hq := (nx_b hN.2.1).2.1
        have WE := wd_eq (n := p.1) hN.2.1 j1 j2
        have sx : SX.1 (p.2.1 : Int).toNat = sxl.getD p.2.1 0 := by rw [Int.toNat_natCast]; exact sx_all _ (by omega)
        have nxt : rwt.getD p.1 0 ≠ wc T s → ∀ j : Nat, j < p.1 + 1 → rwt.getD j 0 ≠ wc T s := fun q j hj => by
          by_cases z : j = p.1
          · rw [z]; exact q
          · exact j3 j (by omega)
        exact ⟨_, _, hs, v_X12_inWords_68 ⟨fun c1 => ⟨fun c2 => (by exact Or.inl ⟨rfl, rfl, p.1 + 1, ⟨rfl, j1, by omega, nxt (j6 c2)⟩, rfl, rfl, wv (by omega) (by omega) (by omega), wv (by omega) (by omega) (by omega), trivial⟩), fun c2 => (by intro v e; cases e; obtain ⟨y1, y2⟩ := j7 c2; have yy := WE.mpr ⟨y1, fun t ht => y2 t (by omega)⟩; exact ⟨rfl, by unfold rk; rw [if_pos j1, fd_at 24 p.1 j2 j3 yy]⟩)⟩, fun c1 => ⟨fun c3 => ⟨fun c4 => (by exact Or.inl ⟨rfl, rfl, p.1 + 1, ⟨rfl, j1, by omega, nxt (j6 c3)⟩, rfl, rfl, wv (by omega) (by omega) (by omega), wv (by omega) (by omega) (by omega), trivial⟩), fun c4 => (by exact absurd c3 c4)⟩, fun c3 => (fun h1 v1 p1 q1 => (fun r5 => (fun h2 v2 p2 q2 => ⟨fun c6 => (by have l0 : p.2.2 ≠ 0 := c3; obtain ⟨y1, y2⟩ := j7 l0; obtain ⟨r1, w1⟩ := c_J0_charAt_5068e (by omega) (by omega) p1; have r1 := r1.symm; subst r1; rw [sx] at w1; have wi : w32 ((w32 ((hx 169 13) + (p.2.1 : Int))) - ((kps.getD p.1 0 : Nat) : Int)) = ((s + (p.2.1 - kps.getD p.1 0) : Nat) : Int) := (by rw [hN.2.2.1, w32_id (z := (s : Int) + (p.2.1 : Int)) (by omega) (by omega), w32_id (by omega) (by omega)]; omega); rw [wi] at p2; obtain ⟨r2, w2⟩ := c_X12_byteAt hN.1 (by omega) p2; have r2 := r2.symm; subst r2; rw [Int.toNat_natCast] at w2; have bt : bT T (s + (p.2.1 - kps.getD p.1 0)) = T.1 (s + (p.2.1 - kps.getD p.1 0)) := if_pos (by omega); rw [bt] at w2; exact Or.inr (Or.inr ⟨rfl, rfl, (p.1, p.2.1 + 1, 0), ⟨rfl, j1, j2, j3, (by dsimp only; omega), (by dsimp only; omega), fun _ q => (by have := (WE.mp q).2 (p.2.1 - kps.getD p.1 0) (by omega); rw [show kps.getD p.1 0 + (p.2.1 - kps.getD p.1 0) = p.2.1 by omega] at this; omega), fun q => absurd rfl q⟩, rfl, rfl, rfl, rfl, rfl, rfl, wv (by omega) (by omega) (by first | omega | (dsimp only; omega)), trivial⟩)), fun c6 => (by have l0 : p.2.2 ≠ 0 := c3; obtain ⟨y1, y2⟩ := j7 l0; obtain ⟨r1, w1⟩ := c_J0_charAt_5068e (by omega) (by omega) p1; have r1 := r1.symm; subst r1; rw [sx] at w1; have wi : w32 ((w32 ((hx 169 13) + (p.2.1 : Int))) - ((kps.getD p.1 0 : Nat) : Int)) = ((s + (p.2.1 - kps.getD p.1 0) : Nat) : Int) := (by rw [hN.2.2.1, w32_id (z := (s : Int) + (p.2.1 : Int)) (by omega) (by omega), w32_id (by omega) (by omega)]; omega); rw [wi] at p2; obtain ⟨r2, w2⟩ := c_X12_byteAt hN.1 (by omega) p2; have r2 := r2.symm; subst r2; rw [Int.toNat_natCast] at w2; have bt : bT T (s + (p.2.1 - kps.getD p.1 0)) = T.1 (s + (p.2.1 - kps.getD p.1 0)) := if_pos (by omega); rw [bt] at w2; exact Or.inr (Or.inr ⟨rfl, rfl, (p.1, p.2.1 + 1, 1), ⟨rfl, j1, j2, j3, (by dsimp only; omega), (by dsimp only; omega), fun q => (by dsimp only at q; omega), fun _ => ⟨y1, fun t ht => (by have ht : t < p.2.1 + 1 - kps.getD p.1 0 := ht; show sxl.getD (kps.getD p.1 0 + t) 0 = T.1 (s + t); by_cases z : t = p.2.1 - kps.getD p.1 0; (rw [z, show kps.getD p.1 0 + (p.2.1 - kps.getD p.1 0) = p.2.1 by omega]; omega); exact y2 t (by omega))⟩⟩, rfl, rfl, rfl, rfl, rfl, rfl, wv (by omega) (by omega) (by first | omega | (dsimp only; omega)), trivial⟩))⟩)))⟩⟩⟩
  exact q v rfl
