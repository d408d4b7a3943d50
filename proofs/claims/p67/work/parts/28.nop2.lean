/-! NUMBERS, 2: division, longs, conversions -/
theorem div_nn {x y : Int32} (h1 : 0 ≤ x.toInt) (h2 : 1 ≤ y.toInt) : (x / y).toInt = x.toInt / y.toInt := by
  rw [Int32.toInt_div, Int.tdiv_eq_ediv_of_nonneg h1]
  have b1 := i32_rng x
  have q1 := Int.ediv_nonneg h1 (show 0 ≤ y.toInt by omega)
  have q2 := Int.ediv_le_self y.toInt h1
  exact bm32 (by omega) (by omega)
theorem rem_nn {x y : Int32} (h1 : 0 ≤ x.toInt) (h2 : 1 ≤ y.toInt) : (x - x / y * y).toInt = x.toInt % y.toInt := by
  have b1 := i32_rng x
  have e1 := div_nn h1 h2
  have q1 := Int.ediv_nonneg h1 (show 0 ≤ y.toInt by omega)
  have e2 := Int.mul_ediv_add_emod x.toInt y.toInt
  have e3 := Int.emod_nonneg x.toInt (show y.toInt ≠ 0 by omega)
  have e4 := Int.mul_nonneg (show 0 ≤ y.toInt by omega) q1
  have e5 : (x / y * y).toInt = y.toInt * (x.toInt / y.toInt) := by
    rw [t_mul (x / y) y (by rw [e1, Int.mul_comm]; omega) (by rw [e1, Int.mul_comm]; omega), e1, Int.mul_comm]
  rw [t_sub x (x / y * y) (by rw [e5]; omega) (by rw [e5]; omega), e5]
  omega
theorem div_nnL {x y : Int64} (h1 : 0 ≤ x.toInt) (h2 : 1 ≤ y.toInt) : (x / y).toInt = x.toInt / y.toInt := by
  rw [Int64.toInt_div, Int.tdiv_eq_ediv_of_nonneg h1]
  have b1 := i64_rng x
  have q1 := Int.ediv_nonneg h1 (show 0 ≤ y.toInt by omega)
  have q2 := Int.ediv_le_self y.toInt h1
  exact bm64 (by omega) (by omega)
theorem t_mulL (x y : Int64) (h1 : -9223372036854775808 ≤ x.toInt * y.toInt) (h2 : x.toInt * y.toInt ≤ 9223372036854775807) : (x * y).toInt = x.toInt * y.toInt := by
  rw [Int64.toInt_mul]
  exact bm64 h1 h2
theorem t_addL (x y : Int64) (h1 : -9223372036854775808 ≤ x.toInt + y.toInt) (h2 : x.toInt + y.toInt ≤ 9223372036854775807) : (x + y).toInt = x.toInt + y.toInt := by
  rw [Int64.toInt_add]
  exact bm64 h1 h2
theorem t_subL (x y : Int64) (h1 : -9223372036854775808 ≤ x.toInt - y.toInt) (h2 : x.toInt - y.toInt ≤ 9223372036854775807) : (x - y).toInt = x.toInt - y.toInt := by
  rw [Int64.toInt_sub]
  exact bm64 h1 h2
theorem rem_nnL {x y : Int64} (h1 : 0 ≤ x.toInt) (h2 : 1 ≤ y.toInt) : (x - x / y * y).toInt = x.toInt % y.toInt := by
  have b1 := i64_rng x
  have e1 := div_nnL h1 h2
  have q1 := Int.ediv_nonneg h1 (show 0 ≤ y.toInt by omega)
  have e2 := Int.mul_ediv_add_emod x.toInt y.toInt
  have e3 := Int.emod_nonneg x.toInt (show y.toInt ≠ 0 by omega)
  have e4 := Int.mul_nonneg (show 0 ≤ y.toInt by omega) q1
  have e5 : (x / y * y).toInt = y.toInt * (x.toInt / y.toInt) := by
    rw [t_mulL (x / y) y (by rw [e1, Int.mul_comm]; omega) (by rw [e1, Int.mul_comm]; omega), e1, Int.mul_comm]
  rw [t_subL x (x / y * y) (by rw [e5]; omega) (by rw [e5]; omega), e5]
  omega
theorem ne0 {y : Int32} (h : y.toInt ≠ 0) : ¬ y = 0 := fun e => by
  subst e
  exact absurd h (by decide)
theorem ne0L {y : Int64} (h : y.toInt ≠ 0) : ¬ y = 0 := fun e => by
  subst e
  exact absurd h (by decide)
/-- longs: 0 add, 1 sub, others anything -/
noncomputable def n_lb {β : Type} (op : Nat) (N : NS) (a b : LF) (kk : NS → LF → Option β) : Option β :=
  bif Nat.beq op 0 then lf_add 1 a b (fun f => bif in64 N f then kk N f else n_f64 N kk)
  else bif Nat.beq op 1 then lf_add (-1) b a (fun f => bif in64 N f then kk N f else n_f64 N kk) else n_f64 N kk
theorem n_lb_ok {β : Type} {ρ : List Int} {N : NS} (hN : Nk ρ N) {op : Nat} {a b : LF} {x y : Int64} (ha : Lv ρ a x.toInt) (hb : Lv ρ b y.toInt) {kk : NS → LF → Option β} {r : β} (h : n_lb op N a b kk = some r) : NR ρ kk r (ax_flo op x y).toInt := by
  unfold n_lb at h
  cases h0 : Nat.beq op 0 with
  | true =>
    have e := bb_eq h0
    subst e
    obtain ⟨f, g1, g2⟩ := lf_add_ok 1 a b (fun f => bif in64 N f then kk N f else n_f64 N kk)
    have h : lf_add 1 a b (fun f => bif in64 N f then kk N f else n_f64 N kk) = some r := h
    rw [g1] at h
    have hf := g2 ρ _ _ ha hb
    rw [show 1 * x.toInt + y.toInt = x.toInt + y.toInt by omega] at hf
    exact NR.ex64 hN hf (fun z1 z2 => t_addL x y z1 z2) h
  | false =>
    rw [h0] at h
    simp only [cond_false] at h
    cases h1 : Nat.beq op 1 with
    | true =>
      have e := bb_eq h1
      subst e
      obtain ⟨f, g1, g2⟩ := lf_add_ok (-1) b a (fun f => bif in64 N f then kk N f else n_f64 N kk)
      have h : lf_add (-1) b a (fun f => bif in64 N f then kk N f else n_f64 N kk) = some r := h
      rw [g1] at h
      have hf := g2 ρ _ _ hb ha
      rw [show -1 * y.toInt + x.toInt = x.toInt - y.toInt by omega] at hf
      exact NR.ex64 hN hf (fun z1 z2 => t_subL x y z1 z2) h
    | false => rw [h1] at h; exact NR.f64 hN h
/-- 0 i2b, 1 i2s, 2 i2c, 3 ineg -/
noncomputable def n_cv {β : Type} (lo hi : Int) (N : NS) (a : LF) (kk : NS → LF → Option β) : Option β := bif i_le lo (lf_lo N.1 a) && i_le (lf_hi N.1 a) hi then kk N a else nwv N lo hi kk
theorem n_cv_ok {β : Type} {ρ : List Int} {N : NS} (hN : Nk ρ N) {lo hi : Int} {a : LF} {x z : Int} (ha : Lv ρ a x) (h1 : lo ≤ z) (h2 : z ≤ hi) (h3 : lo ≤ x → x ≤ hi → z = x) {kk : NS → LF → Option β} {r : β} (h : n_cv lo hi N a kk = some r) : NR ρ kk r z := by
  unfold n_cv at h
  cases hc : (i_le lo (lf_lo N.1 a) && i_le (lf_hi N.1 a) hi) with
  | true =>
    rw [hc] at h
    have w := bb_and hc
    have := i_le_ok w.1
    have := i_le_ok w.2
    have := lf_b_ok hN.1 ha
    rw [h3 (by omega) (by omega)]
    exact NR.same hN ha h
  | false => rw [hc] at h; exact NR.new hN h1 h2 h
noncomputable def n_un {β : Type} (op : Nat) (N : NS) (a : LF) (kk : NS → LF → Option β) : Option β :=
  bif Nat.ble op 1 then (bif Nat.beq op 0 then n_cv (-128) 127 N a kk else n_cv (-32768) 32767 N a kk)
  else bif Nat.beq op 2 then n_cv 0 65535 N a kk else lf_sc (-1) a 0 (fun f => bif in32 N f then kk N f else n_f32 N kk)
theorem n_un_ok {β : Type} {ρ : List Int} {N : NS} (hN : Nk ρ N) {op : Nat} (ho : op < 4) {a : LF} {x : Int32} (ha : Lv ρ a x.toInt) {kk : NS → LF → Option β} {r : β} (h : n_un op N a kk = some r) : NR ρ kk r (ax_fu op x).toInt := by
  rcases (show op = 0 ∨ op = 1 ∨ op = 2 ∨ op = 3 by omega) with rfl | rfl | rfl | rfl
  · have h : n_cv (-128) 127 N a kk = some r := h
    have e : (ax_fu 0 x).toInt = x.toInt.bmod 256 := by
      show x.toInt8.toInt32.toInt = _
      rw [Int8.toInt_toInt32, Int32.toInt_toInt8]
    rw [e, Int.bmod_def]
    exact n_cv_ok hN ha (by omega) (by omega) (fun _ _ => by omega) h
  · have h : n_cv (-32768) 32767 N a kk = some r := h
    have e : (ax_fu 1 x).toInt = x.toInt.bmod 65536 := by
      show x.toInt16.toInt32.toInt = _
      rw [Int16.toInt_toInt32, Int32.toInt_toInt16]
    rw [e, Int.bmod_def]
    exact n_cv_ok hN ha (by omega) (by omega) (fun _ _ => by omega) h
  · have h : n_cv 0 65535 N a kk = some r := h
    have z := ax_cuv_ok 2 x
    have z2 : (9223372036854775808 : Nat) ≤ zI (ax_fu 2 x) ∧ zI (ax_fu 2 x) ≤ 9223372036854841343 := z
    have z3 := zI_cast (ax_fu 2 x)
    refine n_cv_ok hN ha (by omega) (by omega) (fun q1 q2 => ?_) h
    have hx := nn_nI (x := x) (by omega)
    have c := ax_cu_ok 2 x.toInt.toNat (by omega)
    rw [← hx.1] at c
    have c2 : ax_cu 2 x.toInt.toNat = x.toInt.toNat := by
      show x.toInt.toNat % 65536 = _
      omega
    rw [c2] at c
    rw [← c, ← hx.1]
  · obtain ⟨f, g1, g2⟩ := lf_sc_ok (-1) a 0 (fun f => bif in32 N f then kk N f else n_f32 N kk)
    have h : lf_sc (-1) a 0 (fun f => bif in32 N f then kk N f else n_f32 N kk) = some r := h
    rw [g1] at h
    refine NR.ex32 hN (g2 ρ _ ha) (fun z1 z2 => ?_) h
    show (-x).toInt = _
    rw [Int32.toInt_neg]
    show (-x.toInt).bmod 4294967296 = _
    rw [bm32 (by omega) (by omega)]
    omega
theorem i2l_t (x : Int32) : x.toInt64.toInt = x.toInt := Int32.toInt_toInt64 x
noncomputable def n_l2i {β : Type} (N : NS) (a : LF) (kk : NS → LF → Option β) : Option β := n_cv (-2147483648) 2147483647 N a kk
theorem n_l2i_ok {β : Type} {ρ : List Int} {N : NS} (hN : Nk ρ N) {a : LF} {x : Int64} (ha : Lv ρ a x.toInt) {kk : NS → LF → Option β} {r : β} (h : n_l2i N a kk = some r) : NR ρ kk r x.toInt32.toInt := by
  have b := i32_rng x.toInt32
  refine n_cv_ok hN ha (by omega) (by omega) (fun q1 q2 => ?_) h
  rw [Int64.toInt_toInt32]
  exact bm32 (by omega) (by omega)
/-- the lesser -/
noncomputable def n_min {β : Type} (N : NS) (a b : LF) (kk : NS → LF → Option β) : Option β :=
  bif i_le (lf_hi N.1 a) (lf_lo N.1 b) then kk N a else bif i_le (lf_hi N.1 b) (lf_lo N.1 a) then kk N b else nwv N (bif pv1 N a && pv1 N b then i_max 0 (i_min (lf_lo N.1 a) (lf_lo N.1 b)) else i_min (lf_lo N.1 a) (lf_lo N.1 b)) (i_min (lf_hi N.1 a) (lf_hi N.1 b)) kk
theorem n_min_ok {β : Type} {ρ : List Int} {N : NS} (hN : Nk ρ N) {a b : LF} {x y : Int32} (ha : Lv ρ a x.toInt) (hb : Lv ρ b y.toInt) {kk : NS → LF → Option β} {r : β} (h : n_min N a b kk = some r) : NR ρ kk r (if y < x then y else x).toInt := by
  unfold n_min at h
  have ba := lf_b_ok hN.1 ha
  have bb := lf_b_ok hN.1 hb
  have hm : ((if y < x then y else x).toInt = x.toInt ∧ x.toInt ≤ y.toInt) ∨ ((if y < x then y else x).toInt = y.toInt ∧ y.toInt < x.toInt) := by
    by_cases c : y < x
    · rw [if_pos c]
      rw [Int32.lt_iff_toInt_lt] at c
      exact Or.inr ⟨rfl, c⟩
    · rw [if_neg c]
      rw [Int32.lt_iff_toInt_lt] at c
      exact Or.inl ⟨rfl, by omega⟩
  cases h1 : i_le (lf_hi N.1 a) (lf_lo N.1 b) with
  | true =>
    rw [h1] at h
    have := i_le_ok h1
    rw [show (if y < x then y else x).toInt = x.toInt by omega]
    exact NR.same hN ha h
  | false =>
    rw [h1] at h
    simp only [cond_false] at h
    cases h2 : i_le (lf_hi N.1 b) (lf_lo N.1 a) with
    | true =>
      rw [h2] at h
      have := i_le_ok h2
      rw [show (if y < x then y else x).toInt = y.toInt by omega]
      exact NR.same hN hb h
    | false =>
      rw [h2] at h
      have m1 := i_min_ok (lf_lo N.1 a) (lf_lo N.1 b)
      have m2 := i_min_ok (lf_hi N.1 a) (lf_hi N.1 b)
      have m3 := i_max_ok 0 (i_min (lf_lo N.1 a) (lf_lo N.1 b))
      simp only [cond_false] at h
      cases hp : (pv1 N a && pv1 N b) with
      | false =>
        rw [hp] at h
        exact NR.new hN (by show i_min _ _ ≤ _; omega) (by omega) h
      | true =>
        rw [hp] at h
        have w := bb_and hp
        have p1 := pv1_ok hN w.1 ha
        have p2 := pv1_ok hN w.2 hb
        exact NR.new hN (by show i_max _ _ ≤ _; omega) (by omega) h
/-! branches: what is less, what is the same -/
noncomputable def two2 {α : Type} (x y : Option (List α)) : Option (List α) := ob x (fun l => ob y (fun l' => some (l ++ l')))
theorem two2_s {α : Type} {x y : Option (List α)} {r : List α} (h : two2 x y = some r) : ∃ a b, x = some a ∧ y = some b ∧ r = a ++ b := by
  obtain ⟨a, e1, h⟩ := ob_s h
  obtain ⟨b, e2, h⟩ := ob_s h
  exact ⟨a, b, e1, e2, (Option.some.inj h).symm⟩
noncomputable def br_lt {α : Type} (N : NS) (a b : LF) (gt gf : NS → Option (List α)) : Option (List α) :=
  lf_add (-1) a b (fun d => lf_sc 1 d (-1) (fun d1 => lf_sc (-1) d 0 (fun e => two2 (bif pv1 N e then some [] else asm N d1 (some []) gt) (bif pv1 N d1 then some [] else asm N e (some []) gf))))
theorem br_lt_ok {α : Type} {ρ : List Int} {N : NS} (hN : Nk ρ N) {a b : LF} {x y : Int} (ha : Lv ρ a x) (hb : Lv ρ b y) {gt gf : NS → Option (List α)} {r : List α} (h : br_lt N a b gt gf = some r) :
    (x < y → ∃ N' o, gt N' = some o ∧ Nk ρ N' ∧ ∀ z ∈ o, z ∈ r) ∧ (¬ x < y → ∃ N' o, gf N' = some o ∧ Nk ρ N' ∧ ∀ z ∈ o, z ∈ r) := by
  unfold br_lt at h
  obtain ⟨d, d1, d2⟩ := lf_add_ok (-1) a b (fun d => lf_sc 1 d (-1) (fun d1 => lf_sc (-1) d 0 (fun e => two2 (bif pv1 N e then some [] else asm N d1 (some []) gt) (bif pv1 N d1 then some [] else asm N e (some []) gf))))
  rw [d1] at h
  obtain ⟨f, f1, f2⟩ := lf_sc_ok 1 d (-1) (fun d1 => lf_sc (-1) d 0 (fun e => two2 (bif pv1 N e then some [] else asm N d1 (some []) gt) (bif pv1 N d1 then some [] else asm N e (some []) gf)))
  rw [f1] at h
  obtain ⟨e, e1, e2⟩ := lf_sc_ok (-1) d 0 (fun e => two2 (bif pv1 N e then some [] else asm N f (some []) gt) (bif pv1 N f then some [] else asm N e (some []) gf))
  rw [e1] at h
  obtain ⟨o1, o2, h1, h2, rfl⟩ := two2_s h
  have hd := d2 ρ _ _ ha hb
  have hf := f2 ρ _ hd
  have he := e2 ρ _ hd
  refine ⟨fun q => ?_, fun q => ?_⟩
  · cases hp : pv1 N e with
    | true => exfalso; have := pv1_ok hN hp he; omega
    | false =>
      rw [hp] at h1
      obtain ⟨N', a1, a2⟩ := asm_ok hN hf (by omega) h1
      exact ⟨N', o1, a1, a2, fun z hz => List.mem_append_left _ hz⟩
  · cases hp : pv1 N f with
    | true => exfalso; have := pv1_ok hN hp hf; omega
    | false =>
      rw [hp] at h2
      obtain ⟨N', a1, a2⟩ := asm_ok hN he (by omega) h2
      exact ⟨N', o2, a1, a2, fun z hz => List.mem_append_right _ hz⟩
noncomputable def lf_in (f : LF) (l : List LF) : Bool := List.rec (motive := fun _ => Bool) false (fun g _ ih => lf_eq f g || ih) l
theorem lf_in_ok {f : LF} : ∀ {l : List LF}, lf_in f l = true → f ∈ l
  | [], h => by cases h
  | g :: t, h => by
    have h : (lf_eq f g || lf_in f t) = true := h
    rcases (Bool.or_eq_true _ _).mp h with h | h
    · rw [lf_eq_ok h]; exact List.mem_cons_self
    · exact List.mem_cons_of_mem _ (lf_in_ok h)
/-- shown not to be 0 -/
noncomputable def pvn (N : NS) (d : LF) (nd : LF) : Bool := lf_in d N.2.2 || (lf_in nd N.2.2 || (pv1 N (d.1 - 1, d.2) || pv1 N (nd.1 - 1, nd.2)))
theorem pvn_ok {ρ : List Int} {N : NS} (hN : Nk ρ N) {d nd : LF} {x : Int} (hd : Lv ρ d x) (hnd : Lv ρ nd (-x)) (h : pvn N d nd = true) : x ≠ 0 := by
  unfold pvn at h
  rcases (Bool.or_eq_true _ _).mp h with h | h
  · obtain ⟨y, a, b⟩ := hN.2.2 d (lf_in_ok h)
    rw [hd.fn a]; exact b
  · rcases (Bool.or_eq_true _ _).mp h with h | h
    · obtain ⟨y, a, b⟩ := hN.2.2 nd (lf_in_ok h)
      have := hnd.fn a
      omega
    · rcases (Bool.or_eq_true _ _).mp h with h | h
      · have := pv1_ok hN h (hd.dec 1)
        omega
      · have := pv1_ok hN h (hnd.dec 1)
        omega
/-- division (0), rest (1), of what is 0 or more by what is above 0; else anything -/
noncomputable def n_dr {β : Type} (op : Nat) (N : NS) (a b : LF) (kk : NS → LF → Option β) (fl : (NS → LF → Option β) → Option β) : Option β :=
  bif pv1 N (b.1 - 1, b.2) then (bif i_nn (lf_lo N.1 a) then
    (bif cst a && cst b then i_fc (bif Nat.beq op 0 then a.1 / b.1 else a.1 % b.1) (fun n => kk N (n, []))
     else bif Nat.beq op 0 then nwv N 0 (lf_hi N.1 a / i_max 1 (lf_lo N.1 b)) (fun N' f => bif cst b then lf_add (-b.1) f a (fun g => kk (N'.1, g :: N'.2.1, N'.2.2) f) else kk N' f)
     else nwv N 0 (i_min (lf_hi N.1 a) (lf_hi N.1 b - 1)) (fun N' f => bif cst b then kk N' f else lf_add (-1) f (b.1 - 1, b.2) (fun g => kk (N'.1, g :: N'.2.1, N'.2.2) f)))
    else fl kk) else lf_sc (-1) b 0 (fun nb => gd (pvn N b nb) (fl kk))
theorem n_dr_ok {β : Type} {ρ : List Int} {N : NS} (hN : Nk ρ N) {op : Nat} (ho : op < 2) {a b : LF} {x y z : Int} (ha : Lv ρ a x) (hb : Lv ρ b y) (hz : 0 ≤ x → 1 ≤ y → z = if op = 0 then x / y else x % y) {kk : NS → LF → Option β} {fl : (NS → LF → Option β) → Option β} {r : β} (hfl : fl kk = some r → NR ρ kk r z) (h : n_dr op N a b kk fl = some r) : y ≠ 0 ∧ NR ρ kk r z := by
  unfold n_dr at h
  cases g0 : pv1 N (b.1 - 1, b.2) with
  | false =>
    rw [g0] at h
    simp only [cond_false] at h
    obtain ⟨nb, n1, n2⟩ := lf_sc_ok (-1) b 0 (fun nb => gd (pvn N b nb) (fl kk))
    rw [n1] at h
    obtain ⟨g1, h⟩ := gd_s h
    have hnb := n2 ρ _ hb
    rw [show -1 * y + 0 = -y by omega] at hnb
    exact ⟨pvn_ok hN hb hnb g1, hfl h⟩
  | true =>
  rw [g0] at h
  simp only [cond_true] at h
  have ba := lf_b_ok hN.1 ha
  have bb := lf_b_ok hN.1 hb
  have n0 := pv1_ok hN g0 (hb.dec 1)
  have mx := i_max_ok 1 (lf_lo N.1 b)
  refine ⟨by omega, ?_⟩
  cases h1 : i_nn (lf_lo N.1 a) with
  | false => rw [h1] at h; exact hfl h
  | true =>
    rw [h1] at h
    simp only [cond_true] at h
    have na := i_nn_ok h1
    have hz := hz (by omega) (by omega)
    cases hc : (cst a && cst b) with
    | true =>
      rw [hc] at h
      simp only [cond_true] at h
      rw [i_fc_eq] at h
      have w := bb_and hc
      have ea := cst_ok w.1 ha
      have eb := cst_ok w.2 hb
      refine NR.same hN (f := (bif Nat.beq op 0 then a.1 / b.1 else a.1 % b.1, [])) ?_ h
      rw [hz, ea, eb]
      rcases (show op = 0 ∨ op = 1 by omega) with rfl | rfl
      · exact Lv.c ρ _
      · exact Lv.c ρ _
    | false =>
      rw [hc] at h
      simp only [cond_false] at h
      rcases (show op = 0 ∨ op = 1 by omega) with rfl | rfl
      · have h : nwv N 0 (lf_hi N.1 a / i_max 1 (lf_lo N.1 b)) (fun N' f => bif cst b then lf_add (-b.1) f a (fun g => kk (N'.1, g :: N'.2.1, N'.2.2) f) else kk N' f) = some r := h
        rw [if_pos rfl] at hz
        subst hz
        have q1 := Int.ediv_nonneg (show 0 ≤ x by omega) (show 0 ≤ y by omega)
        have q2 : x / y ≤ lf_hi N.1 a / i_max 1 (lf_lo N.1 b) := by
          have a1 : x / y ≤ x / i_max 1 (lf_lo N.1 b) := by
            apply Int.le_ediv_of_mul_le (by omega)
            have m1 := Int.mul_le_mul_of_nonneg_left (show i_max 1 (lf_lo N.1 b) ≤ y by omega) q1
            have m2 := Int.mul_ediv_add_emod x y
            have m3 := Int.emod_nonneg x (show y ≠ 0 by omega)
            rw [Int.mul_comm y] at m2
            omega
          have a2 := Int.ediv_le_ediv (show 0 < i_max 1 (lf_lo N.1 b) by omega) ba.2
          omega
        obtain ⟨N', f, e1, e2, e3, e4⟩ := nwv_ok hN (hi := lf_hi N.1 a / i_max 1 (lf_lo N.1 b)) (fun N' f => bif cst b then lf_add (-b.1) f a (fun g => kk (N'.1, g :: N'.2.1, N'.2.2) f) else kk N' f) q1 q2
        rw [e1] at h
        cases hcb : cst b with
        | false => rw [hcb] at h; exact ⟨N', f, _, h, e2, e3, e4⟩
        | true =>
          rw [hcb] at h
          simp only [cond_true] at h
          have eb := cst_ok hcb hb
          obtain ⟨g, g1, g2⟩ := lf_add_ok (-b.1) f a (fun g => kk (N'.1, g :: N'.2.1, N'.2.2) f)
          rw [g1] at h
          refine ⟨_, f, _, h, e2, ⟨e3.1, fun q hq => ?_, e3.2.2⟩, e4⟩
          rcases List.mem_cons.mp hq with rfl | hq
          · refine ⟨_, g2 _ _ _ e4 (ha.mono e2), ?_⟩
            have m2 := Int.mul_ediv_add_emod x y
            have m3 := Int.emod_nonneg x (show y ≠ 0 by omega)
            rw [← eb, Int.neg_mul]
            omega
          · exact e3.2.1 q hq
      · have h : nwv N 0 (i_min (lf_hi N.1 a) (lf_hi N.1 b - 1)) (fun N' f => bif cst b then kk N' f else lf_add (-1) f (b.1 - 1, b.2) (fun g => kk (N'.1, g :: N'.2.1, N'.2.2) f)) = some r := h
        rw [if_neg (by omega)] at hz
        subst hz
        have q1 := Int.emod_nonneg x (show y ≠ 0 by omega)
        have q2 := Int.emod_lt_of_pos x (show 0 < y by omega)
        have q3 : x % y ≤ x := by
          have m2 := Int.mul_ediv_add_emod x y
          have m3 := Int.mul_nonneg (show 0 ≤ y by omega) (Int.ediv_nonneg (show 0 ≤ x by omega) (show 0 ≤ y by omega))
          omega
        have m := i_min_ok (lf_hi N.1 a) (lf_hi N.1 b - 1)
        obtain ⟨N', f, e1, e2, e3, e4⟩ := nwv_ok hN (hi := i_min (lf_hi N.1 a) (lf_hi N.1 b - 1)) (fun N' f => bif cst b then kk N' f else lf_add (-1) f (b.1 - 1, b.2) (fun g => kk (N'.1, g :: N'.2.1, N'.2.2) f)) q1 (by omega)
        rw [e1] at h
        cases hc : cst b with
        | true => rw [hc] at h; exact ⟨N', f, _, h, e2, e3, e4⟩
        | false =>
          rw [hc] at h
          simp only [cond_false] at h
          obtain ⟨g, g1, g2⟩ := lf_add_ok (-1) f (b.1 - 1, b.2) (fun g => kk (N'.1, g :: N'.2.1, N'.2.2) f)
          rw [g1] at h
          refine ⟨_, f, _, h, e2, ⟨e3.1, fun q hq => ?_, e3.2.2⟩, e4⟩
          rcases List.mem_cons.mp hq with rfl | hq
          · exact ⟨_, g2 _ _ _ e4 ((hb.mono e2).dec 1), by omega⟩
          · exact e3.2.1 q hq
noncomputable def br_eq {α : Type} (N : NS) (a b : LF) (gt gf : NS → Option (List α)) : Option (List α) :=
  lf_add (-1) b a (fun d => lf_sc (-1) d 0 (fun nd => two2 (bif pvn N d nd then some [] else asm N d (some []) (fun N1 => asm N1 nd (some []) gt)) (asn N d (some []) gf)))
theorem br_eq_ok {α : Type} {ρ : List Int} {N : NS} (hN : Nk ρ N) {a b : LF} {x y : Int} (ha : Lv ρ a x) (hb : Lv ρ b y) {gt gf : NS → Option (List α)} {r : List α} (h : br_eq N a b gt gf = some r) :
    (x = y → ∃ N' o, gt N' = some o ∧ Nk ρ N' ∧ ∀ z ∈ o, z ∈ r) ∧ (¬ x = y → ∃ N' o, gf N' = some o ∧ Nk ρ N' ∧ ∀ z ∈ o, z ∈ r) := by
  unfold br_eq at h
  obtain ⟨d, d1, d2⟩ := lf_add_ok (-1) b a (fun d => lf_sc (-1) d 0 (fun nd => two2 (bif pvn N d nd then some [] else asm N d (some []) (fun N1 => asm N1 nd (some []) gt)) (asn N d (some []) gf)))
  rw [d1] at h
  obtain ⟨e, e1, e2⟩ := lf_sc_ok (-1) d 0 (fun nd => two2 (bif pvn N d nd then some [] else asm N d (some []) (fun N1 => asm N1 nd (some []) gt)) (asn N d (some []) gf))
  rw [e1] at h
  obtain ⟨o1, o2, h1, h2, rfl⟩ := two2_s h
  have hd := d2 ρ _ _ hb ha
  have he := e2 ρ _ hd
  refine ⟨fun q => ?_, fun q => ?_⟩
  · cases hp : pvn N d e with
    | true =>
      exfalso
      have he' : Lv ρ e (-(-1 * y + x)) := by rw [show -(-1 * y + x) = -1 * (-1 * y + x) + 0 by omega]; exact he
      have := pvn_ok hN hd he' hp
      omega
    | false =>
      rw [hp] at h1
      simp only [cond_false] at h1
      obtain ⟨N1, a1, a2⟩ := asm_ok hN hd (by omega) h1
      obtain ⟨N2, b1, b2⟩ := asm_ok a2 he (by omega) a1
      exact ⟨N2, o1, b1, b2, fun z hz => List.mem_append_left _ hz⟩
  · obtain ⟨N1, a1, a2⟩ := asn_ok hN hd (by omega) h2
    exact ⟨N1, o2, a1, a2, fun z hz => List.mem_append_right _ hz⟩
/-- the six conditions: 0 eq, 1 ne, 2 lt, 3 ge, 4 gt, 5 le -/
noncomputable def bc_c {α : Type} (c : Nat) (N : NS) (a b : LF) (gt gf : NS → Option (List α)) : Option (List α) :=
  bif Nat.ble c 1 then (bif Nat.beq c 0 then br_eq N a b gt gf else br_eq N a b gf gt)
  else bif Nat.ble c 3 then (bif Nat.beq c 2 then br_lt N a b gt gf else br_lt N a b gf gt)
  else (bif Nat.beq c 4 then br_lt N b a gt gf else br_lt N b a gf gt)
theorem bc_c_ok {α : Type} {ρ : List Int} {N : NS} (hN : Nk ρ N) {k : Nat} (hk : k < 6) {a b : LF} {x y : Int32} (ha : Lv ρ a x.toInt) (hb : Lv ρ b y.toInt) {gt gf : NS → Option (List α)} {r : List α} (h : bc_c k N a b gt gf = some r) :
    (ax_cp k x y → ∃ N' o, gt N' = some o ∧ Nk ρ N' ∧ ∀ z ∈ o, z ∈ r) ∧ (¬ ax_cp k x y → ∃ N' o, gf N' = some o ∧ Nk ρ N' ∧ ∀ z ∈ o, z ∈ r) := by
  have EQ : x.toInt = y.toInt ↔ x = y := Int32.toInt_inj
  have LT : x.toInt < y.toInt ↔ x < y := Int32.lt_iff_toInt_lt.symm
  have LT2 : y.toInt < x.toInt ↔ y < x := Int32.lt_iff_toInt_lt.symm
  have LE : x.toInt ≤ y.toInt ↔ x ≤ y := Int32.le_iff_toInt_le.symm
  have LE2 : y.toInt ≤ x.toInt ↔ y ≤ x := Int32.le_iff_toInt_le.symm
  rcases (show k = 0 ∨ k = 1 ∨ k = 2 ∨ k = 3 ∨ k = 4 ∨ k = 5 by omega) with rfl | rfl | rfl | rfl | rfl | rfl
  · have q := br_eq_ok hN ha hb (gt := gt) (gf := gf) h
    exact ⟨fun z => q.1 (EQ.mpr z), fun z => q.2 (fun w => z (EQ.mp w))⟩
  · have q := br_eq_ok hN ha hb (gt := gf) (gf := gt) h
    exact ⟨fun z => q.2 (fun w => z (EQ.mp w)), fun z => q.1 (EQ.mpr (Classical.not_not.mp z))⟩
  · have q := br_lt_ok hN ha hb (gt := gt) (gf := gf) h
    exact ⟨fun z => q.1 (LT.mpr z), fun z => q.2 (fun w => z (LT.mp w))⟩
  · have q := br_lt_ok hN ha hb (gt := gf) (gf := gt) h
    exact ⟨fun z => q.2 (by have z : y ≤ x := z; have := LE2.mpr z; omega), fun z => q.1 (by have z : ¬ y ≤ x := z; have : ¬ y.toInt ≤ x.toInt := fun w => z (LE2.mp w); omega)⟩
  · have q := br_lt_ok hN hb ha (gt := gt) (gf := gf) h
    exact ⟨fun z => q.1 (LT2.mpr z), fun z => q.2 (fun w => z (LT2.mp w))⟩
  · have q := br_lt_ok hN hb ha (gt := gf) (gf := gt) h
    exact ⟨fun z => q.2 (by have z : x ≤ y := z; have := LE.mpr z; omega), fun z => q.1 (by have z : ¬ x ≤ y := z; have : ¬ x.toInt ≤ y.toInt := fun w => z (LE.mp w); omega)⟩
/-! bytes: what is from -128 to 255, and 255 -/
theorem and255_all : ∀ n : Fin 384, ((Int32.ofInt ((n.val : Int) - 128)) &&& 255).toInt = if (n.val : Int) - 128 < 0 then (n.val : Int) - 128 + 256 else (n.val : Int) - 128 := by decide +kernel
theorem and255 {x y : Int32} (hy : y.toInt = 255) (h1 : -128 ≤ x.toInt) (h2 : x.toInt ≤ 255) : (ax_fop 3 x y).toInt = if x.toInt < 0 then x.toInt + 256 else x.toInt := by
  have e1 : y = 255 := Int32.toInt_inj.mp (by rw [hy]; decide)
  subst e1
  have q := and255_all ⟨(x.toInt + 128).toNat, by omega⟩
  have e2 : (((x.toInt + 128).toNat : Nat) : Int) - 128 = x.toInt := by omega
  dsimp only at q
  rw [e2, Int32.ofInt_toInt] at q
  exact q
noncomputable def n_a255 {α : Type} (N : NS) (a b : LF) (kk : NS → LF → Option (List α)) : Option (List α) :=
  bif (cst b && i_eq b.1 255) && (pv1 N (a.1 - (-128), a.2) && lf_sc (-1) a 255 (pv1 N)) then
    br_lt N a (0, []) (fun N' => lf_nv N'.1 a (fun f => i_fc (f.1 + 256) (fun z => kk N' (z, f.2)))) (fun N' => lf_nv N'.1 a (kk N'))
  else n_ib 3 N a b kk
theorem n_a255_ok {α : Type} {ρ : List Int} {N : NS} (hN : Nk ρ N) {a b : LF} {x y : Int32} (ha : Lv ρ a x.toInt) (hb : Lv ρ b y.toInt) {kk : NS → LF → Option (List α)} {r : List α} (h : n_a255 N a b kk = some r) : ∃ N' f ρ' o, kk N' f = some o ∧ (∀ z ∈ o, z ∈ r) ∧ Sb ρ ρ' ∧ Nk ρ' N' ∧ Lv ρ' f (ax_fop 3 x y).toInt := by
  unfold n_a255 at h
  cases hc : ((cst b && i_eq b.1 255) && (pv1 N (a.1 - (-128), a.2) && lf_sc (-1) a 255 (pv1 N))) with
  | false =>
    rw [hc] at h
    obtain ⟨N', f, ρ', k1, k2, k3, k4⟩ := n_ib_ok hN (show 3 < 9 by decide) ha hb h
    exact ⟨N', f, ρ', r, k1, fun _ hz => hz, k2, k3, k4⟩
  | true =>
    rw [hc] at h
    simp only [cond_true] at h
    have w := bb_and hc
    have w1 := bb_and w.1
    have w2 := bb_and w.2
    have eb := cst_ok w1.1 hb
    have e2 := i_eq_ok w1.2
    have p1 := pv1_ok hN w2.1 (ha.dec (-128))
    obtain ⟨d, d1, d2⟩ := lf_sc_ok (-1) a 255 (pv1 N)
    have w3 := w2.2
    rw [d1] at w3
    have p2 := pv1_ok hN w3 (d2 ρ _ ha)
    have q := and255 (x := x) (y := y) (by rw [eb, e2]) (by omega) (by omega)
    have B := br_lt_ok hN ha (Lv.c ρ 0) h
    by_cases c : x.toInt < 0
    · obtain ⟨N', o, k1, k2, k3⟩ := B.1 c
      obtain ⟨f, f1, f2⟩ := lf_nv_ok k2.1 a (fun f => i_fc (f.1 + 256) (fun z => kk N' (z, f.2)))
      rw [f1, i_fc_eq] at k1
      rw [if_pos c] at q
      refine ⟨N', _, ρ, o, k1, k3, Sb.rf ρ, k2, ?_⟩
      rw [q]
      obtain ⟨u, u1, u2⟩ := f2 _ ha
      exact ⟨u, u1, by show x.toInt + 256 = f.1 + 256 + u; omega⟩
    · obtain ⟨N', o, k1, k2, k3⟩ := B.2 c
      obtain ⟨f, f1, f2⟩ := lf_nv_ok k2.1 a (kk N')
      rw [f1] at k1
      rw [if_neg c] at q
      exact ⟨N', f, ρ, o, k1, k3, Sb.rf ρ, k2, by rw [q]; exact f2 _ ha⟩
/-- the greater of two -/
noncomputable def n_max {β : Type} (N : NS) (a b : LF) (kk : NS → LF → Option β) : Option β :=
  bif i_le (lf_hi N.1 a) (lf_lo N.1 b) then kk N b else bif i_le (lf_hi N.1 b) (lf_lo N.1 a) then kk N a else nwv N (i_max (lf_lo N.1 a) (lf_lo N.1 b)) (i_max (lf_hi N.1 a) (lf_hi N.1 b)) kk
theorem n_max_ok {β : Type} {ρ : List Int} {N : NS} (hN : Nk ρ N) {a b : LF} {x y : Int32} (ha : Lv ρ a x.toInt) (hb : Lv ρ b y.toInt) {kk : NS → LF → Option β} {r : β} (h : n_max N a b kk = some r) : NR ρ kk r (if x < y then y else x).toInt := by
  unfold n_max at h
  have ba := lf_b_ok hN.1 ha
  have bb := lf_b_ok hN.1 hb
  have hm : ((if x < y then y else x).toInt = x.toInt ∧ y.toInt ≤ x.toInt) ∨ ((if x < y then y else x).toInt = y.toInt ∧ x.toInt < y.toInt) := by
    by_cases c : x < y
    · rw [if_pos c]
      rw [Int32.lt_iff_toInt_lt] at c
      exact Or.inr ⟨rfl, c⟩
    · rw [if_neg c]
      rw [Int32.lt_iff_toInt_lt] at c
      exact Or.inl ⟨rfl, by omega⟩
  cases h1 : i_le (lf_hi N.1 a) (lf_lo N.1 b) with
  | true =>
    rw [h1] at h
    have := i_le_ok h1
    rw [show (if x < y then y else x).toInt = y.toInt by omega]
    exact NR.same hN hb h
  | false =>
    rw [h1] at h
    simp only [cond_false] at h
    cases h2 : i_le (lf_hi N.1 b) (lf_lo N.1 a) with
    | true =>
      rw [h2] at h
      have := i_le_ok h2
      rw [show (if x < y then y else x).toInt = x.toInt by omega]
      exact NR.same hN ha h
    | false =>
      rw [h2] at h
      have m1 := i_max_ok (lf_lo N.1 a) (lf_lo N.1 b)
      have m2 := i_max_ok (lf_hi N.1 a) (lf_hi N.1 b)
      simp only [cond_false] at h
      exact NR.new hN (by show i_max _ _ ≤ _; omega) (by omega) h
