/-! NUMBERS: what the operations give, by forms and ranges -/
noncomputable def in32 (N : NS) (f : LF) : Bool := i_le (-2147483648) (lf_lo N.1 f) && i_le (lf_hi N.1 f) 2147483647
noncomputable def in64 (N : NS) (f : LF) : Bool := i_le (-9223372036854775808) (lf_lo N.1 f) && i_le (lf_hi N.1 f) 9223372036854775807
theorem in32_ok {ρ : List Int} {N : NS} (hN : Nk ρ N) {f : LF} {x : Int} (h : in32 N f = true) (hx : Lv ρ f x) : -2147483648 ≤ x ∧ x ≤ 2147483647 := by
  have w := bb_and h
  have b := lf_b_ok hN.1 hx
  have := i_le_ok w.1
  have := i_le_ok w.2
  omega
theorem in64_ok {ρ : List Int} {N : NS} (hN : Nk ρ N) {f : LF} {x : Int} (h : in64 N f = true) (hx : Lv ρ f x) : -9223372036854775808 ≤ x ∧ x ≤ 9223372036854775807 := by
  have w := bb_and h
  have b := lf_b_ok hN.1 hx
  have := i_le_ok w.1
  have := i_le_ok w.2
  omega
noncomputable def n_f32 {β : Type} (N : NS) (kk : NS → LF → Option β) : Option β := nwv N (-2147483648) 2147483647 kk
noncomputable def n_f64 {β : Type} (N : NS) (kk : NS → LF → Option β) : Option β := nwv N (-9223372036854775808) 9223372036854775807 kk
/-- what an operation's rule must give -/
def NR {β : Type} (ρ : List Int) (kk : NS → LF → Option β) (r : β) (z : Int) : Prop := ∃ (N' : NS) (f : LF) (ρ' : List Int), kk N' f = some r ∧ Sb ρ ρ' ∧ Nk ρ' N' ∧ Lv ρ' f z
theorem NR.same {β : Type} {ρ : List Int} {kk : NS → LF → Option β} {r : β} {z : Int} {N : NS} (hN : Nk ρ N) {f : LF} (hf : Lv ρ f z) (h : kk N f = some r) : NR ρ kk r z := ⟨N, f, ρ, h, Sb.rf ρ, hN, hf⟩
theorem NR.new {β : Type} {ρ : List Int} {kk : NS → LF → Option β} {r : β} {z : Int} {N : NS} (hN : Nk ρ N) {lo hi : Int} (h1 : lo ≤ z) (h2 : z ≤ hi) (h : nwv N lo hi kk = some r) : NR ρ kk r z := by
  obtain ⟨N', f, e1, e2, e3, e4⟩ := nwv_ok hN kk h1 h2
  exact ⟨N', f, _, by rw [← e1]; exact h, e2, e3, e4⟩
theorem NR.f32 {β : Type} {ρ : List Int} {kk : NS → LF → Option β} {r : β} {x : Int32} {N : NS} (hN : Nk ρ N) (h : n_f32 N kk = some r) : NR ρ kk r x.toInt := by
  have := i32_rng x
  exact NR.new hN (by omega) (by omega) h
theorem NR.f64 {β : Type} {ρ : List Int} {kk : NS → LF → Option β} {r : β} {x : Int64} {N : NS} (hN : Nk ρ N) (h : n_f64 N kk = some r) : NR ρ kk r x.toInt := by
  have := i64_rng x
  exact NR.new hN (by omega) (by omega) h
theorem NR.ex32 {β : Type} {ρ : List Int} {kk : NS → LF → Option β} {r : β} {x : Int32} {N : NS} (hN : Nk ρ N) {f : LF} {z : Int} (hf : Lv ρ f z) (hz : -2147483648 ≤ z → z ≤ 2147483647 → x.toInt = z) (h : (bif in32 N f then kk N f else n_f32 N kk) = some r) : NR ρ kk r x.toInt := by
  cases hb : in32 N f with
  | true =>
    rw [hb] at h
    have b := in32_ok hN hb hf
    rw [hz b.1 b.2]
    exact NR.same hN hf h
  | false => rw [hb] at h; exact NR.f32 hN h
theorem NR.ex64 {β : Type} {ρ : List Int} {kk : NS → LF → Option β} {r : β} {x : Int64} {N : NS} (hN : Nk ρ N) {f : LF} {z : Int} (hf : Lv ρ f z) (hz : -9223372036854775808 ≤ z → z ≤ 9223372036854775807 → x.toInt = z) (h : (bif in64 N f then kk N f else n_f64 N kk) = some r) : NR ρ kk r x.toInt := by
  cases hb : in64 N f with
  | true =>
    rw [hb] at h
    have b := in64_ok hN hb hf
    rw [hz b.1 b.2]
    exact NR.same hN hf h
  | false => rw [hb] at h; exact NR.f64 hN h
theorem t_add (x y : Int32) (h1 : -2147483648 ≤ x.toInt + y.toInt) (h2 : x.toInt + y.toInt ≤ 2147483647) : (x + y).toInt = x.toInt + y.toInt := by
  rw [Int32.toInt_add, Int.bmod_def]
  omega
theorem t_sub (x y : Int32) (h1 : -2147483648 ≤ x.toInt - y.toInt) (h2 : x.toInt - y.toInt ≤ 2147483647) : (x - y).toInt = x.toInt - y.toInt := by
  rw [Int32.toInt_sub, Int.bmod_def]
  omega
theorem bm32 {z : Int} (h1 : -2147483648 ≤ z) (h2 : z ≤ 2147483647) : z.bmod 4294967296 = z := by
  rw [Int.bmod_def]
  omega
theorem bm64 {z : Int} (h1 : -9223372036854775808 ≤ z) (h2 : z ≤ 9223372036854775807) : z.bmod 18446744073709551616 = z := by
  rw [Int.bmod_def]
  omega
theorem t_mul (x y : Int32) (h1 : -2147483648 ≤ x.toInt * y.toInt) (h2 : x.toInt * y.toInt ≤ 2147483647) : (x * y).toInt = x.toInt * y.toInt := by
  rw [Int32.toInt_mul]
  exact bm32 h1 h2
theorem nn_nI {x : Int32} (h : 0 ≤ x.toInt) : x = nI x.toInt.toNat ∧ x.toInt.toNat < 2147483648 := by
  have := i32_rng x
  have hn : x.toInt.toNat < 2147483648 := by omega
  refine ⟨?_, hn⟩
  apply Int32.toInt_inj.mp
  rw [nI_toInt (by omega)]
  omega
theorem any_nI (y : Int32) : ∃ n, n < 4294967296 ∧ y = nI n := ⟨y.toBitVec.toNat, y.toBitVec.isLt, i32_bv (by rw [nI_bvn y.toBitVec.isLt])⟩
/-- the least number of ones that is no less -/
def ones (m : Nat) : Nat := 2 ^ (Nat.log2 m + 1) - 1
theorem ones_lt (m : Nat) : m < 2 ^ (Nat.log2 m + 1) := Nat.lt_log2_self
def cst (f : LF) : Bool := match f.2 with
  | [] => true
  | _ => false
theorem cst_ok {ρ : List Int} {f : LF} {x : Int} (h : cst f = true) (hx : Lv ρ f x) : x = f.1 := by
  obtain ⟨n, l⟩ := f
  cases l with
  | nil => exact hx.cn
  | cons q t => cases h
/-- both are numbers that are 0 or more: by bits -/
noncomputable def n_cc {β : Type} (op : Nat) (N : NS) (a b : LF) (kk : NS → LF → Option β) (el : Option β) : Option β := bif cst a && (cst b && (i_nn a.1 && i_nn b.1)) then ax_fc (ax_cop op a.1.toNat b.1.toNat) (fun n => bif Nat.blt n 2147483648 then kk N (Int.ofNat n, []) else n_f32 N kk) else el
theorem n_cc_ok {β : Type} {ρ : List Int} {N : NS} (hN : Nk ρ N) {op : Nat} {a b : LF} {x y : Int32} (ha : Lv ρ a x.toInt) (hb : Lv ρ b y.toInt) {kk : NS → LF → Option β} {el : Option β} {r : β} (hel : el = some r → NR ρ kk r (ax_fop op x y).toInt) (h : n_cc op N a b kk el = some r) : NR ρ kk r (ax_fop op x y).toInt := by
  unfold n_cc at h
  cases hc : (cst a && (cst b && (i_nn a.1 && i_nn b.1))) with
  | false => rw [hc] at h; exact hel h
  | true =>
    rw [hc] at h
    have w := bb_and hc
    have w2 := bb_and w.2
    have w3 := bb_and w2.2
    have ea := cst_ok w.1 ha
    have eb := cst_ok w2.1 hb
    have na := i_nn_ok w3.1
    have nb := i_nn_ok w3.2
    have hx := nn_nI (x := x) (by omega)
    have hy := nn_nI (x := y) (by omega)
    have hk := ax_cop_ok op x.toInt.toNat y.toInt.toNat (by omega) (by omega)
    rw [← hx.1, ← hy.1] at hk
    simp only [cond_true] at h
    rw [ax_fc_eq, ← ea, ← eb] at h
    cases hl : Nat.blt (ax_cop op x.toInt.toNat y.toInt.toNat) 2147483648 with
    | true =>
      rw [hl] at h
      have hl := bb_lt hl
      refine NR.same hN (f := (Int.ofNat (ax_cop op x.toInt.toNat y.toInt.toNat), [])) ?_ h
      rw [← hk, nI_toInt (by omega)]
      exact Lv.c ρ _
    | false => rw [hl] at h; exact NR.f32 hN h
noncomputable def n_and {β : Type} (N : NS) (a b : LF) (kk : NS → LF → Option β) : Option β :=
  bif i_nn (lf_lo N.1 b) then nwv N 0 (bif i_nn (lf_lo N.1 a) then i_min (lf_hi N.1 a) (lf_hi N.1 b) else lf_hi N.1 b) (fun N' f => bif cst b then kk N' f else lf_add (-1) f b (fun g => kk (N'.1, g :: N'.2.1, N'.2.2) f))
  else bif i_nn (lf_lo N.1 a) then nwv N 0 (lf_hi N.1 a) kk else n_f32 N kk
theorem and_i {x y : Int32} (h : 0 ≤ y.toInt) : 0 ≤ (x &&& y).toInt ∧ (x &&& y).toInt ≤ y.toInt := by
  have h1 := zI_cast (x &&& y)
  have h2 := zI_cast y
  have := and_rng (x := x) (y := y) (by omega)
  omega
theorem and_c (x y : Int32) : x &&& y = y &&& x := by
  apply Int32.toBitVec_inj.mp
  rw [Int32.toBitVec_and, Int32.toBitVec_and]
  exact BitVec.and_comm _ _
theorem n_and_ok {β : Type} {ρ : List Int} {N : NS} (hN : Nk ρ N) {a b : LF} {x y : Int32} (ha : Lv ρ a x.toInt) (hb : Lv ρ b y.toInt) {kk : NS → LF → Option β} {r : β} (h : n_and N a b kk = some r) : NR ρ kk r (x &&& y).toInt := by
  unfold n_and at h
  have ba := lf_b_ok hN.1 ha
  have bb := lf_b_ok hN.1 hb
  cases h1 : i_nn (lf_lo N.1 b) with
  | true =>
    rw [h1] at h
    simp only [cond_true] at h
    have n1 := i_nn_ok h1
    have k1 := and_i (x := x) (y := y) (by omega)
    have hup : (x &&& y).toInt ≤ (bif i_nn (lf_lo N.1 a) then i_min (lf_hi N.1 a) (lf_hi N.1 b) else lf_hi N.1 b) := by
      cases h2 : i_nn (lf_lo N.1 a) with
      | true =>
        have n2 := i_nn_ok h2
        have k2 := and_i (x := y) (y := x) (by omega)
        rw [and_c] at k2
        have m := i_min_ok (lf_hi N.1 a) (lf_hi N.1 b)
        show _ ≤ i_min _ _
        omega
      | false => show _ ≤ lf_hi N.1 b; omega
    obtain ⟨N', f, e1, e2, e3, e4⟩ := nwv_ok hN (fun N' f => bif cst b then kk N' f else lf_add (-1) f b (fun g => kk (N'.1, g :: N'.2.1, N'.2.2) f)) k1.1 hup
    rw [e1] at h
    cases hc : cst b with
    | true => rw [hc] at h; exact ⟨N', f, _, h, e2, e3, e4⟩
    | false =>
      rw [hc] at h
      simp only [cond_false] at h
      obtain ⟨g, g1, g2⟩ := lf_add_ok (-1) f b (fun g => kk (N'.1, g :: N'.2.1, N'.2.2) f)
      rw [g1] at h
      refine ⟨_, f, _, h, e2, ⟨e3.1, fun q hq => ?_, e3.2.2⟩, e4⟩
      rcases List.mem_cons.mp hq with rfl | hq
      · exact ⟨_, g2 _ _ _ e4 (hb.mono e2), by omega⟩
      · exact e3.2.1 q hq
  | false =>
    rw [h1] at h
    simp only [cond_false] at h
    cases h2 : i_nn (lf_lo N.1 a) with
    | true =>
      rw [h2] at h
      have n2 := i_nn_ok h2
      have k2 := and_i (x := y) (y := x) (by omega)
      rw [and_c] at k2
      exact NR.new hN k2.1 (by omega) h
    | false => rw [h2] at h; exact NR.f32 hN h
noncomputable def n_orx {β : Type} (N : NS) (a b : LF) (kk : NS → LF → Option β) : Option β :=
  bif i_nn (lf_lo N.1 a) && i_nn (lf_lo N.1 b) then nwv N 0 (Int.ofNat (ones (i_max (lf_hi N.1 a) (lf_hi N.1 b)).toNat)) kk else n_f32 N kk
theorem n_orx_ok {β : Type} {ρ : List Int} {N : NS} (hN : Nk ρ N) {op : Nat} (hop : op = 4 ∨ op = 5) {a b : LF} {x y : Int32} (ha : Lv ρ a x.toInt) (hb : Lv ρ b y.toInt) {kk : NS → LF → Option β} {r : β} (h : n_orx N a b kk = some r) : NR ρ kk r (ax_fop op x y).toInt := by
  unfold n_orx at h
  have ba := lf_b_ok hN.1 ha
  have bb := lf_b_ok hN.1 hb
  cases h1 : (i_nn (lf_lo N.1 a) && i_nn (lf_lo N.1 b)) with
  | false => rw [h1] at h; exact NR.f32 hN h
  | true =>
    rw [h1] at h
    have w := bb_and h1
    have na := i_nn_ok w.1
    have nb := i_nn_ok w.2
    have hx := nn_nI (x := x) (by omega)
    have hy := nn_nI (x := y) (by omega)
    have hk := ax_cop_ok op x.toInt.toNat y.toInt.toNat (by omega) (by omega)
    rw [← hx.1, ← hy.1] at hk
    have m := i_max_ok (lf_hi N.1 a) (lf_hi N.1 b)
    have l0 := ones_lt (i_max (lf_hi N.1 a) (lf_hi N.1 b)).toNat
    have l1 : x.toInt.toNat < 2 ^ (Nat.log2 (i_max (lf_hi N.1 a) (lf_hi N.1 b)).toNat + 1) := by omega
    have l2 : y.toInt.toNat < 2 ^ (Nat.log2 (i_max (lf_hi N.1 a) (lf_hi N.1 b)).toNat + 1) := by omega
    have l3 : ax_cop op x.toInt.toNat y.toInt.toNat < 2 ^ (Nat.log2 (i_max (lf_hi N.1 a) (lf_hi N.1 b)).toNat + 1) ∧ ax_cop op x.toInt.toNat y.toInt.toNat < 2 ^ 31 := by
      rcases hop with rfl | rfl
      · exact ⟨Nat.or_lt_two_pow l1 l2, Nat.or_lt_two_pow hx.2 hy.2⟩
      · exact ⟨Nat.xor_lt_two_pow l1 l2, Nat.xor_lt_two_pow hx.2 hy.2⟩
    rw [← hk, nI_toInt (by omega)]
    refine NR.new hN (Int.natCast_nonneg _) ?_ h
    show ((ax_cop op x.toInt.toNat y.toInt.toNat : Nat) : Int) ≤ ((ones _ : Nat) : Int)
    unfold ones
    omega
/-- 6: left; 7, 8: right -/
noncomputable def n_shl {β : Type} (N : NS) (a b : LF) (kk : NS → LF → Option β) : Option β :=
  bif i_nn (lf_lo N.1 a) && (i_nn (lf_lo N.1 b) && i_le (lf_hi N.1 b) 31) then
    (bif cst b then lf_sc (Int.ofNat (2 ^ b.1.toNat)) a 0 (fun f => bif in32 N f then kk N f else n_f32 N kk)
     else i_fc (lf_hi N.1 a * Int.ofNat (2 ^ (lf_hi N.1 b).toNat)) (fun u => bif i_le u 2147483647 then nwv N (lf_lo N.1 a) u kk else n_f32 N kk))
  else n_f32 N kk
theorem n_shl_ok {β : Type} {ρ : List Int} {N : NS} (hN : Nk ρ N) {a b : LF} {x y : Int32} (ha : Lv ρ a x.toInt) (hb : Lv ρ b y.toInt) {kk : NS → LF → Option β} {r : β} (h : n_shl N a b kk = some r) : NR ρ kk r (ax_fop 6 x y).toInt := by
  unfold n_shl at h
  have ba := lf_b_ok hN.1 ha
  have bb := lf_b_ok hN.1 hb
  cases h1 : (i_nn (lf_lo N.1 a) && (i_nn (lf_lo N.1 b) && i_le (lf_hi N.1 b) 31)) with
  | false => rw [h1] at h; exact NR.f32 hN h
  | true =>
    rw [h1] at h
    simp only [cond_true] at h
    have w := bb_and h1
    have w2 := bb_and w.2
    have na := i_nn_ok w.1
    have nb := i_nn_ok w2.1
    have n31 := i_le_ok w2.2
    have hx := nn_nI (x := x) (by omega)
    have hy := nn_nI (x := y) (by omega)
    have hk := ax_cop_ok 6 x.toInt.toNat y.toInt.toNat (by omega) (by omega)
    rw [← hx.1, ← hy.1] at hk
    have hk2 : ax_cop 6 x.toInt.toNat y.toInt.toNat = (x.toInt.toNat * 2 ^ y.toInt.toNat) % 4294967296 := by
      show (x.toInt.toNat * 2 ^ (y.toInt.toNat % 32)) % 4294967296 = _
      rw [Nat.mod_eq_of_lt (show y.toInt.toNat < 32 by omega)]
    have EX : (x.toInt.toNat * 2 ^ y.toInt.toNat) < 2147483648 → (ax_fop 6 x y).toInt = ((x.toInt.toNat * 2 ^ y.toInt.toNat : Nat) : Int) := fun q => by
      rw [← hk, hk2, Nat.mod_eq_of_lt (by omega), nI_toInt (by omega)]
    cases hc : cst b with
    | true =>
      rw [hc] at h
      simp only [cond_true] at h
      have eb := cst_ok hc hb
      obtain ⟨f, g1, g2⟩ := lf_sc_ok (Int.ofNat (2 ^ b.1.toNat)) a 0 (fun f => bif in32 N f then kk N f else n_f32 N kk)
      rw [g1] at h
      refine NR.ex32 hN (g2 ρ _ ha) (fun z1 z2 => ?_) h
      have e2 : ((x.toInt.toNat * 2 ^ y.toInt.toNat : Nat) : Int) = Int.ofNat (2 ^ b.1.toNat) * x.toInt + 0 := by
        rw [eb, Int.natCast_mul, Int.toNat_of_nonneg (by omega), Int.mul_comm]
        show _ = ((2 ^ b.1.toNat : Nat) : Int) * x.toInt + 0
        omega
      rw [← e2] at z2 ⊢
      exact EX (by omega)
    | false =>
      rw [hc] at h
      simp only [cond_false] at h
      rw [i_fc_eq] at h
      cases h2 : i_le (lf_hi N.1 a * Int.ofNat (2 ^ (lf_hi N.1 b).toNat)) 2147483647 with
      | false => rw [h2] at h; exact NR.f32 hN h
      | true =>
        rw [h2] at h
        simp only [cond_true] at h
        have u := i_le_ok h2
        have p1 : 2 ^ y.toInt.toNat ≤ 2 ^ (lf_hi N.1 b).toNat := Nat.pow_le_pow_right (by omega) (by omega)
        have p2 : x.toInt.toNat * 2 ^ y.toInt.toNat ≤ (lf_hi N.1 a).toNat * 2 ^ (lf_hi N.1 b).toNat := Nat.mul_le_mul (by omega) p1
        have p3 : (((lf_hi N.1 a).toNat * 2 ^ (lf_hi N.1 b).toNat : Nat) : Int) = lf_hi N.1 a * Int.ofNat (2 ^ (lf_hi N.1 b).toNat) := by
          rw [Int.natCast_mul, Int.toNat_of_nonneg (by omega)]
          rfl
        have p4 : x.toInt.toNat * 1 ≤ x.toInt.toNat * 2 ^ y.toInt.toNat := Nat.mul_le_mul (Nat.le_refl _) Nat.one_le_two_pow
        rw [EX (by omega)]
        exact NR.new hN (by omega) (by omega) h
noncomputable def n_shr {β : Type} (N : NS) (a b : LF) (kk : NS → LF → Option β) : Option β :=
  bif i_nn (lf_lo N.1 a) then (bif cst b && (i_nn b.1 && i_le b.1 31) then nwv N 0 (Int.ofNat ((lf_hi N.1 a).toNat / 2 ^ b.1.toNat)) kk else nwv N 0 (lf_hi N.1 a) kk) else n_f32 N kk
theorem n_shr_ok {β : Type} {ρ : List Int} {N : NS} (hN : Nk ρ N) {op : Nat} (hop : op = 7 ∨ op = 8) {a b : LF} {x y : Int32} (ha : Lv ρ a x.toInt) (hb : Lv ρ b y.toInt) {kk : NS → LF → Option β} {r : β} (h : n_shr N a b kk = some r) : NR ρ kk r (ax_fop op x y).toInt := by
  unfold n_shr at h
  have ba := lf_b_ok hN.1 ha
  have bb := lf_b_ok hN.1 hb
  cases h1 : i_nn (lf_lo N.1 a) with
  | false => rw [h1] at h; exact NR.f32 hN h
  | true =>
    rw [h1] at h
    simp only [cond_true] at h
    have na := i_nn_ok h1
    have hx := nn_nI (x := x) (by omega)
    obtain ⟨m, hm, hy⟩ := any_nI y
    have hk := ax_cop_ok op x.toInt.toNat m (by omega) hm
    rw [← hx.1, ← hy] at hk
    have hk2 : ax_cop op x.toInt.toNat m = x.toInt.toNat / 2 ^ (m % 32) := by
      rcases hop with rfl | rfl
      · show (bif Nat.blt x.toInt.toNat 2147483648 then x.toInt.toNat / 2 ^ (m % 32) else _) = _
        rw [show Nat.blt x.toInt.toNat 2147483648 = true from Nat.ble_eq_true_of_le hx.2]
        rfl
      · rfl
    have hle := Nat.div_le_self x.toInt.toNat (2 ^ (m % 32))
    rw [← hk, hk2, nI_toInt (by omega)]
    cases hc : (cst b && (i_nn b.1 && i_le b.1 31)) with
    | false =>
      rw [hc] at h
      exact NR.new hN (Int.natCast_nonneg _) (by omega) h
    | true =>
      rw [hc] at h
      have w := bb_and hc
      have w2 := bb_and w.2
      have eb := cst_ok w.1 hb
      have n0 := i_nn_ok w2.1
      have n31 := i_le_ok w2.2
      have em : m % 32 = b.1.toNat := by
        have hy2 := nn_nI (x := y) (by omega)
        have : y.toBitVec.toNat = m := by rw [hy, nI_bvn hm]
        have : y.toBitVec.toNat = y.toInt.toNat := by
          have e := nI_bvn (n := y.toInt.toNat) (by omega)
          rw [← hy2.1] at e
          exact e
        omega
      refine NR.new hN (Int.natCast_nonneg _) ?_ h
      rw [em]
      show ((x.toInt.toNat / 2 ^ b.1.toNat : Nat) : Int) ≤ (((lf_hi N.1 a).toNat / 2 ^ b.1.toNat : Nat) : Int)
      have := Nat.div_le_div_right (c := 2 ^ b.1.toNat) (show x.toInt.toNat ≤ (lf_hi N.1 a).toNat by omega)
      omega
noncomputable def n_mul {β : Type} (N : NS) (a b : LF) (kk : NS → LF → Option β) : Option β :=
  bif cst a then lf_sc a.1 b 0 (fun f => bif in32 N f then kk N f else n_f32 N kk)
  else bif cst b then lf_sc b.1 a 0 (fun f => bif in32 N f then kk N f else n_f32 N kk) else n_f32 N kk
theorem n_mul_ok {β : Type} {ρ : List Int} {N : NS} (hN : Nk ρ N) {a b : LF} {x y : Int32} (ha : Lv ρ a x.toInt) (hb : Lv ρ b y.toInt) {kk : NS → LF → Option β} {r : β} (h : n_mul N a b kk = some r) : NR ρ kk r (x * y).toInt := by
  unfold n_mul at h
  cases h1 : cst a with
  | true =>
    rw [h1] at h
    simp only [cond_true] at h
    have ea := cst_ok h1 ha
    obtain ⟨f, g1, g2⟩ := lf_sc_ok a.1 b 0 (fun f => bif in32 N f then kk N f else n_f32 N kk)
    rw [g1] at h
    have e : a.1 * y.toInt + 0 = x.toInt * y.toInt := by rw [ea]; omega
    have hf := g2 ρ _ hb
    rw [e] at hf
    exact NR.ex32 hN hf (fun z1 z2 => t_mul x y z1 z2) h
  | false =>
    rw [h1] at h
    simp only [cond_false] at h
    cases h2 : cst b with
    | true =>
      rw [h2] at h
      simp only [cond_true] at h
      have eb := cst_ok h2 hb
      obtain ⟨f, g1, g2⟩ := lf_sc_ok b.1 a 0 (fun f => bif in32 N f then kk N f else n_f32 N kk)
      rw [g1] at h
      have e : b.1 * x.toInt + 0 = x.toInt * y.toInt := by rw [eb, Int.mul_comm]; omega
      have hf := g2 ρ _ ha
      rw [e] at hf
      exact NR.ex32 hN hf (fun z1 z2 => t_mul x y z1 z2) h
    | false => rw [h2] at h; exact NR.f32 hN h
noncomputable def n_ib {β : Type} (op : Nat) (N : NS) (a b : LF) (kk : NS → LF → Option β) : Option β :=
  bif Nat.ble op 2 then (bif Nat.beq op 0 then lf_add 1 a b (fun f => bif in32 N f then kk N f else n_f32 N kk)
    else bif Nat.beq op 1 then lf_add (-1) b a (fun f => bif in32 N f then kk N f else n_f32 N kk) else n_mul N a b kk)
  else bif Nat.beq op 5 && (cst b && i_eq b.1 (-1)) then lf_sc (-1) a (-1) (fun f => bif in32 N f then kk N f else n_f32 N kk)
  else n_cc op N a b kk (bif Nat.beq op 3 then n_and N a b kk else bif Nat.ble op 5 then n_orx N a b kk else bif Nat.beq op 6 then n_shl N a b kk else n_shr N a b kk)
theorem t_not (x y : Int32) (h : y.toInt = -1) : (x ^^^ y).toInt = -1 - x.toInt := by
  have hy : y = -1 := Int32.toInt_inj.mp (by rw [h]; rfl)
  subst hy
  have e : x ^^^ -1 = ~~~ x := by
    apply Int32.toBitVec_inj.mp
    rw [Int32.toBitVec_xor, Int32.toBitVec_not]
    show x.toBitVec ^^^ BitVec.allOnes 32 = _
    rw [BitVec.xor_allOnes]
  rw [e, Int32.toInt_not]
  have := i32_rng x
  show (-x.toInt - 1).bmod 4294967296 = -1 - x.toInt
  rw [bm32 (z := -x.toInt - 1) (by omega) (by omega)]
  omega
theorem n_ib_ok {β : Type} {ρ : List Int} {N : NS} (hN : Nk ρ N) {op : Nat} (ho : op < 9) {a b : LF} {x y : Int32} (ha : Lv ρ a x.toInt) (hb : Lv ρ b y.toInt) {kk : NS → LF → Option β} {r : β} (h : n_ib op N a b kk = some r) : NR ρ kk r (ax_fop op x y).toInt := by
  unfold n_ib at h
  cases h2 : Nat.ble op 2 with
  | true =>
    rw [h2] at h
    simp only [cond_true] at h
    have := bb_le h2
    rcases (show op = 0 ∨ op = 1 ∨ op = 2 by omega) with rfl | rfl | rfl
    · obtain ⟨f, g1, g2⟩ := lf_add_ok 1 a b (fun f => bif in32 N f then kk N f else n_f32 N kk)
      have h : lf_add 1 a b (fun f => bif in32 N f then kk N f else n_f32 N kk) = some r := h
      rw [g1] at h
      have hf := g2 ρ _ _ ha hb
      rw [show 1 * x.toInt + y.toInt = x.toInt + y.toInt by omega] at hf
      exact NR.ex32 hN hf (fun z1 z2 => t_add x y z1 z2) h
    · obtain ⟨f, g1, g2⟩ := lf_add_ok (-1) b a (fun f => bif in32 N f then kk N f else n_f32 N kk)
      have h : lf_add (-1) b a (fun f => bif in32 N f then kk N f else n_f32 N kk) = some r := h
      rw [g1] at h
      have hf := g2 ρ _ _ hb ha
      rw [show -1 * y.toInt + x.toInt = x.toInt - y.toInt by omega] at hf
      exact NR.ex32 hN hf (fun z1 z2 => t_sub x y z1 z2) h
    · exact n_mul_ok hN ha hb h
  | false =>
    rw [h2] at h
    simp only [cond_false] at h
    have := bb_nle h2
    cases h5 : (Nat.beq op 5 && (cst b && i_eq b.1 (-1))) with
    | true =>
      rw [h5] at h
      simp only [cond_true] at h
      have w := bb_and h5
      have w2 := bb_and w.2
      have e5 := bb_eq w.1
      subst e5
      have eb := cst_ok w2.1 hb
      have e1 := i_eq_ok w2.2
      obtain ⟨f, g1, g2⟩ := lf_sc_ok (-1) a (-1) (fun f => bif in32 N f then kk N f else n_f32 N kk)
      rw [g1] at h
      have hf := g2 ρ _ ha
      refine NR.ex32 hN hf (fun z1 z2 => ?_) h
      show (x ^^^ y).toInt = _
      rw [t_not x y (by omega)]
      omega
    | false =>
      rw [h5] at h
      simp only [cond_false] at h
      refine n_cc_ok hN ha hb (fun h => ?_) h
      rcases (show op = 3 ∨ op = 4 ∨ op = 5 ∨ op = 6 ∨ op = 7 ∨ op = 8 by omega) with rfl | rfl | rfl | rfl | rfl | rfl
      · exact n_and_ok hN ha hb h
      · exact n_orx_ok hN (Or.inl rfl) ha hb h
      · exact n_orx_ok hN (Or.inr rfl) ha hb h
      · exact n_shl_ok hN ha hb h
      · exact n_shr_ok hN (Or.inl rfl) ha hb h
      · exact n_shr_ok hN (Or.inr rfl) ha hb h
