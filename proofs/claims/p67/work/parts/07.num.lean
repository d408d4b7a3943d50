/-! THE ABSTRACT MACHINE, 4: its numbers are right -/
theorem lt_zI (x y : Int32) : x < y ↔ zI x < zI y := by
  have h1 := zI_cast x
  have h2 := zI_cast y
  rw [Int32.lt_iff_toInt_lt]
  omega
theorem le_zI (x y : Int32) : x ≤ y ↔ zI x ≤ zI y := by
  have h1 := zI_cast x
  have h2 := zI_cast y
  rw [Int32.le_iff_toInt_le]
  omega
theorem eq_zI (x y : Int32) : x = y ↔ zI x = zI y := by
  have h1 := zI_cast x
  have h2 := zI_cast y
  rw [← Int32.toInt_inj]
  omega
theorem bb_le {a b : Nat} (h : Nat.ble a b = true) : a ≤ b := Nat.le_of_ble_eq_true h
theorem bb_lt {a b : Nat} (h : Nat.blt a b = true) : a < b := Nat.le_of_ble_eq_true h
theorem bb_nle {a b : Nat} (h : Nat.ble a b = false) : b < a := Nat.lt_of_not_le (fun q => by rw [Nat.ble_eq_true_of_le q] at h; cases h)
theorem bb_nlt {a b : Nat} (h : Nat.blt a b = false) : b ≤ a := Nat.le_of_lt_succ (bb_nle h)
theorem bb_eq {a b : Nat} (h : Nat.beq a b = true) : a = b := Nat.eq_of_beq_eq_true h
theorem bb_ne {a b : Nat} (h : Nat.beq a b = false) : a ≠ b := Nat.ne_of_beq_eq_false h
theorem bb_and {a b : Bool} (h : (a && b) = true) : a = true ∧ b = true := by rw [Bool.and_eq_true] at h; exact h
theorem ax_cut_ok {sp : Nat → Nat} {ρ ad : List Nat} {σ : AS} (hS : St ρ σ) {v : AV} {x : Int32} (hv : v.1 = 4 → ρ[v.2]? = some (zI x)) {lo hi : Nat} (h1 : lo ≤ zI x) (h2 : zI x ≤ hi) : St ρ (ax_cut σ v lo hi) := by
  unfold ax_cut
  cases hb : Nat.beq v.1 4 with
  | false => exact hS
  | true =>
    show St ρ (ax_set σ v.2 (lo, hi) (fun s => s))
    rw [ax_set_eq]
    refine hS.cut (fun z hz => ?_)
    rw [hv (bb_eq hb)] at hz
    cases hz
    exact ⟨h1, h2⟩
/-- what a test of two ints leaves -/
theorem ax_lt_ok {sp : Nat → Nat} {ρ ad : List Nat} {σ : AS} (hS : St ρ σ) {a b : AV} {A B : Value} (ha : Rp sp ρ ad a A) (hb : Rp sp ρ ad b B) {T F : Option AS} (h : ax_lt σ a b = some (T, F)) :
    ∃ x y : Int32, A = .int x ∧ B = .int y ∧ (x < y → ∃ σ', T = some σ' ∧ St ρ σ') ∧ (¬ x < y → ∃ σ', F = some σ' ∧ St ρ σ') := by
  unfold ax_lt at h
  obtain ⟨ra, ea, h⟩ := ob_s h
  obtain ⟨rb, eb, h⟩ := ob_s h
  obtain ⟨x, hx, x1, x2, x3⟩ := ax_rI_ok hS ha ea
  obtain ⟨y, hy, y1, y2, y3⟩ := ax_rI_ok hS hb eb
  cases h
  refine ⟨x, y, hx, hy, fun q => ?_, fun q => ?_⟩
  · rw [lt_zI] at q
    cases hc : Nat.blt ra.1 rb.2 with
    | false => exact absurd (bb_nlt hc) (by omega)
    | true => exact ⟨_, rfl, ax_cut_ok (sp := sp) (ad := ad) (ax_cut_ok (sp := sp) (ad := ad) hS x3 x1 (by omega)) y3 (by omega) y2⟩
  · rw [lt_zI] at q
    cases hc : Nat.ble rb.1 ra.2 with
    | false => exact absurd (bb_nle hc) (by omega)
    | true => exact ⟨_, rfl, ax_cut_ok (sp := sp) (ad := ad) (ax_cut_ok (sp := sp) (ad := ad) hS x3 (by omega) x2) y3 y1 (by omega)⟩
theorem ax_eq_ok {sp : Nat → Nat} {ρ ad : List Nat} {σ : AS} (hS : St ρ σ) {a b : AV} {A B : Value} (ha : Rp sp ρ ad a A) (hb : Rp sp ρ ad b B) {T F : Option AS} (h : ax_eq σ a b = some (T, F)) :
    ∃ x y : Int32, A = .int x ∧ B = .int y ∧ (x = y → ∃ σ', T = some σ' ∧ St ρ σ') ∧ (¬ x = y → ∃ σ', F = some σ' ∧ St ρ σ') := by
  unfold ax_eq at h
  obtain ⟨ra, ea, h⟩ := ob_s h
  obtain ⟨rb, eb, h⟩ := ob_s h
  obtain ⟨x, hx, x1, x2, x3⟩ := ax_rI_ok hS ha ea
  obtain ⟨y, hy, y1, y2, y3⟩ := ax_rI_ok hS hb eb
  cases h
  refine ⟨x, y, hx, hy, fun q => ?_, fun q => ?_⟩
  · rw [eq_zI] at q
    cases hc : Nat.ble (max ra.1 rb.1) (min ra.2 rb.2) with
    | false => exact absurd (bb_nle hc) (by omega)
    | true => exact ⟨_, rfl, ax_cut_ok (sp := sp) (ad := ad) (ax_cut_ok (sp := sp) (ad := ad) hS x3 (by omega) (by omega)) y3 (by omega) (by omega)⟩
  · rw [eq_zI] at q
    cases hc : (Nat.beq ra.1 ra.2 && (Nat.beq rb.1 rb.2 && Nat.beq ra.1 rb.1)) with
    | true =>
      have q1 := bb_and hc
      have q2 := bb_and q1.2
      have := bb_eq q1.1
      have := bb_eq q2.1
      have := bb_eq q2.2
      exact absurd q (by omega)
    | false =>
      refine ⟨_, rfl, ?_⟩
      cases hd : Nat.beq rb.1 rb.2 with
      | false => exact hS
      | true =>
        have e := bb_eq hd
        refine ax_cut_ok (sp := sp) (ad := ad) hS x3 ?_ ?_
        · cases he : Nat.beq ra.1 rb.1 with
          | false => exact x1
          | true => have := bb_eq he; show ra.1 + 1 ≤ _; omega
        · cases he : Nat.beq ra.2 rb.1 with
          | false => exact x2
          | true => have := bb_eq he; show _ ≤ ra.2 - 1; omega
/-- a new unknown int, a new unknown long -/
theorem nwI {sp : Nat → Nat} {ρ ad : List Nat} {σ : AS} (hS : St ρ σ) (r : Int32) {q : Nat × Nat} (h1 : q.1 ≤ zI r) (h2 : zI r ≤ q.2) : Sb ρ (ρ ++ [zI r]) ∧ St (ρ ++ [zI r]) (σ ++ [q]) ∧ Rp sp (ρ ++ [zI r]) ad (4, σ.length) (.int r) :=
  ⟨Sb.app _ _, hS.app h1 h2, zI r, by rw [← hS.1]; simp, by rw [zI_back]⟩
theorem nwL {sp : Nat → Nat} {ρ ad : List Nat} {σ : AS} (hS : St ρ σ) (r : Int64) : Sb ρ (ρ ++ [zL r]) ∧ St (ρ ++ [zL r]) (σ ++ [ax_fullL]) ∧ Rp sp (ρ ++ [zL r]) ad (5, σ.length) (.long r) :=
  ⟨Sb.app _ _, hS.app (Nat.zero_le _) (zL_rng r), zL r, by rw [← hS.1]; simp, by rw [zL_back]⟩
/-- the int operations -/
def ax_fop (op : Nat) (x y : Int32) : Int32 := match op with
  | 0 => x + y
  | 1 => x - y
  | 2 => x * y
  | 3 => x &&& y
  | 4 => x ||| y
  | 5 => x ^^^ y
  | 6 => x <<< (y &&& 31)
  | 7 => x >>> (y &&& 31)
  | _ => (x.toUInt32 >>> (y.toUInt32 &&& Int32.toUInt32 31)).toInt32
theorem nI_bv (n : Nat) : (nI n).toBitVec = BitVec.ofNat 32 n := rfl
theorem nI_bvn {n : Nat} (h : n < 4294967296) : (nI n).toBitVec.toNat = n := by
  rw [nI_bv, BitVec.toNat_ofNat]
  exact Nat.mod_eq_of_lt h
theorem i32_bv {x y : Int32} (h : x.toBitVec.toNat = y.toBitVec.toNat) : x = y := Int32.toBitVec_inj.mp (BitVec.eq_of_toNat_eq h)
theorem nI_and31 (y : Nat) : nI y &&& 31 = nI (y % 32) := by
  apply i32_bv
  rw [Int32.toBitVec_and, BitVec.toNat_and, nI_bv, nI_bv, BitVec.toNat_ofNat, BitVec.toNat_ofNat]
  show (y % 2 ^ 32) &&& (2 ^ 5 - 1) = _
  rw [Nat.and_two_pow_sub_one_eq_mod]
  omega
theorem sh31 : ∀ k, k < 32 → ((nI k).toBitVec.smod 32).toNat = k := by decide +kernel
theorem sh31u : ∀ k, k < 32 → (((nI k).toUInt32 &&& Int32.toUInt32 31).toBitVec % 32).toNat = k := by decide +kernel
theorem nI_u31 (y : Nat) : (nI y).toUInt32 &&& Int32.toUInt32 31 = (nI (y % 32)).toUInt32 &&& Int32.toUInt32 31 := by
  have h : (nI y &&& 31).toUInt32 = (nI (y % 32) &&& 31).toUInt32 := by rw [nI_and31, nI_and31, Nat.mod_mod]
  exact h
set_option maxRecDepth 20000 in
theorem ax_cop_ok (op x y : Nat) (hx : x < 4294967296) (hy : y < 4294967296) : nI (ax_cop op x y) = ax_fop op (nI x) (nI y) := by
  match op with
  | 0 => show nI ((x + y) % 4294967296) = nI x + nI y; rw [nI_mod, nI_add]
  | 1 =>
    show nI ((x + (4294967296 - y)) % 4294967296) = nI x - nI y
    apply Int32.toInt_inj.mp
    rw [nI_mod, Int32.toInt_sub, nI_toInt_bmod, nI_toInt_bmod, nI_toInt_bmod]
    simp only [Int.bmod_def]
    omega
  | 2 => show nI ((x * y) % 4294967296) = nI x * nI y; rw [nI_mod, pk_mul]
  | 3 =>
    show nI (Nat.land x y) = nI x &&& nI y
    apply i32_bv
    rw [Int32.toBitVec_and, BitVec.toNat_and, nI_bvn hx, nI_bvn hy, nI_bvn]
    · rfl
    · exact Nat.lt_of_le_of_lt Nat.and_le_left hx
  | 4 =>
    show nI (Nat.lor x y) = nI x ||| nI y
    apply i32_bv
    rw [Int32.toBitVec_or, BitVec.toNat_or, nI_bvn hx, nI_bvn hy, nI_bvn]
    · rfl
    · exact Nat.or_lt_two_pow (n := 32) hx hy
  | 5 =>
    show nI (Nat.xor x y) = nI x ^^^ nI y
    apply i32_bv
    rw [Int32.toBitVec_xor, BitVec.toNat_xor, nI_bvn hx, nI_bvn hy, nI_bvn]
    · rfl
    · exact Nat.xor_lt_two_pow (n := 32) hx hy
  | 6 =>
    show nI ((x * 2 ^ (y % 32)) % 4294967296) = nI x <<< (nI y &&& 31)
    rw [nI_and31]
    apply i32_bv
    rw [pk_shl _ _ (y % 32) (sh31 _ (Nat.mod_lt _ (by decide))), nI_bvn hx, nI_bvn (Nat.mod_lt _ (by decide))]
  | 7 =>
    show nI (bif Nat.blt x 2147483648 then x / 2 ^ (y % 32) else 4294967295 - (4294967295 - x) / 2 ^ (y % 32)) = nI x >>> (nI y &&& 31)
    rw [nI_and31]
    apply Int32.toInt_inj.mp
    rw [pk_shr _ _ (y % 32) (sh31 _ (Nat.mod_lt _ (by decide))), Int.shiftRight_eq_div_pow]
    have hp : 0 < 2 ^ (y % 32) := Nat.two_pow_pos _
    have hz : ∀ a : Nat, a / 2 ^ (y % 32) ≤ a := fun a => Nat.div_le_self _ _
    cases hb : Nat.blt x 2147483648 with
    | true =>
      have h1 := bb_lt hb
      have h2 := hz x
      show (nI (x / 2 ^ (y % 32))).toInt = _
      rw [nI_toInt (by omega), nI_toInt (by omega)]
      push_cast
      rfl
    | false =>
      have h1 := bb_nlt hb
      have h2 := hz (4294967295 - x)
      have e4 : (-(((4294967295 - x : Nat) : Int) + 1)) / ((2 ^ (y % 32) : Nat) : Int) = -(((4294967295 - x) / 2 ^ (y % 32) : Nat) : Int) - 1 := by
        have h := Int.negSucc_ediv (4294967295 - x) (b := ((2 ^ (y % 32) : Nat) : Int)) (by exact_mod_cast hp)
        rw [Int.negSucc_eq] at h
        rw [h]
        have h5 : ((4294967295 - x : Nat) : Int).ediv ((2 ^ (y % 32) : Nat) : Int) = (((4294967295 - x) / 2 ^ (y % 32) : Nat) : Int) := rfl
        rw [h5]
        omega
      show (nI (4294967295 - (4294967295 - x) / 2 ^ (y % 32))).toInt = _
      generalize (4294967295 - x) / 2 ^ (y % 32) = d at h2 e4 ⊢
      rw [nI_b (by omega), nI_b hx]
      have e1 : ax_bi x = x + 9223372036854775808 - 4294967296 := by unfold ax_bi; rw [if_neg (by omega)]
      have e2 : ax_bi (4294967295 - d) = 4294967295 - d + 9223372036854775808 - 4294967296 := by unfold ax_bi; rw [if_neg (by omega)]
      have e3 : ((x + 9223372036854775808 - 4294967296 : Nat) : Int) - 9223372036854775808 = -(((4294967295 - x : Nat) : Int) + 1) := by omega
      rw [e1, e2, e3]
      have e5 : ((2 : Int) ^ (y % 32)) = ((2 ^ (y % 32) : Nat) : Int) := by push_cast; rfl
      refine Eq.trans ?_ (e4.symm.trans ?_)
      · clear e4 e5 hz hp e3 e1 e2
        omega
      · first | rfl | (rw [e5])
  | n + 8 =>
    show nI (x / 2 ^ (y % 32)) = ((nI x).toUInt32 >>> ((nI y).toUInt32 &&& Int32.toUInt32 31)).toInt32
    rw [nI_u31, pk_ushrN hx _ (y % 32) (sh31u _ (Nat.mod_lt _ (by decide)))]
theorem full_in (r : Int32) : ax_full.1 ≤ zI r ∧ zI r ≤ ax_full.2 := zI_rng r
theorem and_rng {x y : Int32} (h : 9223372036854775808 ≤ zI y) : 9223372036854775808 ≤ zI (x &&& y) ∧ zI (x &&& y) ≤ zI y := by
  have hy := zI_cast y
  have hr := i32_rng y
  have hxy := zI_cast (x &&& y)
  have e1 : y.toInt = (y.toBitVec.toNat : Int) := by
    have h1 : y.toInt = if 2 * y.toBitVec.toNat < 2 ^ 32 then (y.toBitVec.toNat : Int) else (y.toBitVec.toNat : Int) - ((2 ^ 32 : Nat) : Int) := BitVec.toInt_eq_toNat_cond y.toBitVec
    have hl := y.toBitVec.isLt
    split at h1
    · exact h1
    · omega
  have hb : (x &&& y).toBitVec.toNat ≤ y.toBitVec.toNat := by
    rw [Int32.toBitVec_and, BitVec.toNat_and]
    exact Nat.and_le_right
  have e2 : (x &&& y).toInt = ((x &&& y).toBitVec.toNat : Int) := by
    have h1 : (x &&& y).toInt = (x &&& y).toBitVec.toInt := rfl
    rw [h1, BitVec.toInt_eq_toNat_cond]
    have hlt := (x &&& y).toBitVec.isLt
    rw [if_pos]
    omega
  omega
theorem ax_iv_ok (op : Nat) {a b : Nat × Nat} {x y : Int32} (x1 : a.1 ≤ zI x) (x2 : zI x ≤ a.2) (y1 : b.1 ≤ zI y) (y2 : zI y ≤ b.2) : (ax_iv op a b).1 ≤ zI (ax_fop op x y) ∧ zI (ax_fop op x y) ≤ (ax_iv op a b).2 := by
  match op with
  | 0 =>
    unfold ax_iv
    cases hc : (Nat.ble 18446744071562067968 (a.1 + b.1) && Nat.ble (a.2 + b.2) 18446744075857035263) with
    | false => simp only [hc]; exact full_in _
    | true =>
      simp only [hc]
      have q := bb_and hc
      have q1 := bb_le q.1
      have q2 := bb_le q.2
      have h1 := zI_cast x
      have h2 := zI_cast y
      have h3 := zI_cast (x + y)
      have h4 : (x + y).toInt = x.toInt + y.toInt := by
        rw [Int32.toInt_add, Int.bmod_def]
        omega
      show a.1 + b.1 - 9223372036854775808 ≤ zI (x + y) ∧ zI (x + y) ≤ a.2 + b.2 - 9223372036854775808
      omega
  | 1 =>
    unfold ax_iv
    cases hc : (Nat.ble (9223372034707292160 + b.2) (a.1 + 9223372036854775808) && Nat.ble (a.2 + 9223372036854775808) (9223372039002259455 + b.1)) with
    | false => simp only [hc]; exact full_in _
    | true =>
      simp only [hc]
      have q := bb_and hc
      have q1 := bb_le q.1
      have q2 := bb_le q.2
      have h1 := zI_cast x
      have h2 := zI_cast y
      have h3 := zI_cast (x - y)
      have h4 : (x - y).toInt = x.toInt - y.toInt := by
        rw [Int32.toInt_sub, Int.bmod_def]
        omega
      show a.1 + 9223372036854775808 - b.2 ≤ zI (x - y) ∧ zI (x - y) ≤ a.2 + 9223372036854775808 - b.1
      omega
  | 2 => exact full_in _
  | 3 =>
    unfold ax_iv
    cases hc : (Nat.beq b.1 b.2 && Nat.ble 9223372036854775808 b.1) with
    | false => simp only [hc]; exact full_in _
    | true =>
      simp only [hc]
      have q := bb_and hc
      have q1 := bb_eq q.1
      have q2 := bb_le q.2
      have h1 := and_rng (x := x) (y := y) (by omega)
      show 9223372036854775808 ≤ zI (x &&& y) ∧ zI (x &&& y) ≤ b.1
      omega
  | n + 4 => exact full_in _
/-- two ints make one -/
theorem ax_ib_ok {sp : Nat → Nat} {ρ ad : List Nat} {σ : AS} (hS : St ρ σ) {op : Nat} {a b : AV} {A B : Value} (ha : Rp sp ρ ad a A) (hb : Rp sp ρ ad b B) {β : Type} {k : AS → AV → Option β} {r : β} (h : ax_ib op σ a b k = some r) :
    ∃ (x y : Int32) (σ' : AS) (v : AV) (ρ' : List Nat), A = .int x ∧ B = .int y ∧ k σ' v = some r ∧ Sb ρ ρ' ∧ St ρ' σ' ∧ Rp sp ρ' ad v (.int (ax_fop op x y)) := by
  unfold ax_ib at h
  cases hc : (Nat.beq a.1 0 && Nat.beq b.1 0) with
  | true =>
    rw [hc] at h
    obtain ⟨h1, h2⟩ := gd_s h
    have q := bb_and hc
    have q1 := bb_eq q.1
    have q2 := bb_eq q.2
    obtain ⟨ta, na⟩ := a
    obtain ⟨tb, nb⟩ := b
    dsimp only at q1 q2
    subst q1
    subst q2
    have w := bb_and h1
    have w1 := bb_lt w.1
    have w2 := bb_lt w.2
    rw [ax_fc_eq] at h2
    exact ⟨nI na, nI nb, σ, (0, ax_cop op na nb), ρ, ha, hb, h2, Sb.rf ρ, hS, by show Value.int _ = Value.int _; rw [ax_cop_ok op na nb w1 w2]⟩
  | false =>
    rw [hc] at h
    obtain ⟨ra, ea, h⟩ := ob_s (o := ax_rI σ a) h
    obtain ⟨rb, eb, h⟩ := ob_s h
    obtain ⟨x, hx, x1, x2, x3⟩ := ax_rI_ok hS ha ea
    obtain ⟨y, hy, y1, y2, y3⟩ := ax_rI_ok hS hb eb
    have hi := ax_iv_ok op x1 x2 y1 y2
    have hn := nwI (sp := sp) (ad := ad) hS (ax_fop op x y) hi.1 hi.2
    exact ⟨x, y, _, _, _, hx, hy, h, hn.1, hn.2.1, hn.2.2⟩
theorem nI_div {a b : Nat} (ha : a < 2147483648) (h0 : 1 ≤ b) (hb : b < 2147483648) : nI a / nI b = nI (a / b) := pk_div (by omega) (by omega) (by omega)
theorem ax_id_ok {sp : Nat → Nat} {ρ ad : List Nat} {σ : AS} (hS : St ρ σ) {op : Nat} {a b : AV} {A B : Value} (ha : Rp sp ρ ad a A) (hb : Rp sp ρ ad b B) {β : Type} {k : AS → AV → Option β} {r : β} (h : ax_id op σ a b k = some r) :
    ∃ (x y : Int32) (σ' : AS) (v : AV) (ρ' : List Nat), A = .int x ∧ B = .int y ∧ ¬ y = 0 ∧ k σ' v = some r ∧ Sb ρ ρ' ∧ St ρ' σ' ∧ Rp sp ρ' ad v (.int (if op = 0 then x / y else x - x / y * y)) := by
  unfold ax_id at h
  obtain ⟨h1, h⟩ := gd_s h
  have q := bb_and h1
  have q1 := bb_eq q.1
  have q2 := bb_and q.2
  have q3 := bb_le q2.1
  have q4 := bb_lt q2.2
  obtain ⟨tb, nb⟩ := b
  dsimp only at q1 q3 q4
  subst q1
  have hy : ¬ nI nb = 0 := nI_ne0 (by omega) (by omega)
  cases hc : (Nat.beq a.1 0 && Nat.blt a.2 2147483648) with
  | true =>
    rw [hc] at h
    have w := bb_and hc
    have w1 := bb_eq w.1
    have w2 := bb_lt w.2
    obtain ⟨ta, na⟩ := a
    dsimp only at w1 w2
    subst w1
    have h : ax_fc (bif Nat.beq op 0 then na / nb else na % nb) (fun n => k σ (0, n)) = some r := h
    rw [ax_fc_eq] at h
    refine ⟨nI na, nI nb, σ, _, ρ, ha, hb, hy, h, Sb.rf ρ, hS, ?_⟩
    show Value.int _ = Value.int (nI (bif Nat.beq op 0 then na / nb else na % nb))
    by_cases ho : op = 0
    · subst ho
      rw [if_pos rfl, nI_div w2 q3 q4]
      rfl
    · rw [if_neg ho, pk_rem (by omega) (by omega) (by omega), show Nat.beq op 0 = false by cases op with | zero => exact absurd rfl ho | succ m => rfl]
      rfl
  | false =>
    rw [hc] at h
    obtain ⟨ra, ea, h⟩ := ob_s (o := ax_rI σ a) h
    obtain ⟨x, hx, -⟩ := ax_rI_ok hS ha ea
    have hf := full_in (if op = 0 then x / nI nb else x - x / nI nb * nI nb)
    have hn := nwI (sp := sp) (ad := ad) hS (if op = 0 then x / nI nb else x - x / nI nb * nI nb) hf.1 hf.2
    exact ⟨x, nI nb, _, _, _, hx, hb, hy, h, hn.1, hn.2.1, hn.2.2⟩
/-- the long operations -/
def ax_flo (op : Nat) (x y : Int64) : Int64 := match op with
  | 0 => x + y
  | 1 => x - y
  | 2 => x * y
  | 3 => x &&& y
  | _ => x ||| y
theorem lN_bv (n : Nat) : (lN n).toBitVec = BitVec.ofNat 64 n := rfl
theorem lN_bvn {n : Nat} (h : n < 18446744073709551616) : (lN n).toBitVec.toNat = n := by
  rw [lN_bv, BitVec.toNat_ofNat]
  exact Nat.mod_eq_of_lt h
theorem i64_bv {x y : Int64} (h : x.toBitVec.toNat = y.toBitVec.toNat) : x = y := Int64.toBitVec_inj.mp (BitVec.eq_of_toNat_eq h)
theorem ax_lop_ok (op x y : Nat) (hx : x < 18446744073709551616) (hy : y < 18446744073709551616) : lN (ax_lop op x y) = ax_flo op (lN x) (lN y) := by
  match op with
  | 0 => show lN ((x + y) % 18446744073709551616) = lN x + lN y; rw [lN_mod, lN_add]
  | 1 =>
    show lN ((x + (18446744073709551616 - y)) % 18446744073709551616) = lN x - lN y
    apply Int64.toInt_inj.mp
    rw [lN_mod, Int64.toInt_sub, lN_toInt_bmod, lN_toInt_bmod, lN_toInt_bmod]
    simp only [Int.bmod_def]
    omega
  | 2 => show lN ((x * y) % 18446744073709551616) = lN x * lN y; rw [lN_mod, lN_mul]
  | 3 =>
    show lN (Nat.land x y) = lN x &&& lN y
    apply i64_bv
    rw [Int64.toBitVec_and, BitVec.toNat_and, lN_bvn hx, lN_bvn hy, lN_bvn]
    · rfl
    · exact Nat.lt_of_le_of_lt Nat.and_le_left hx
  | n + 4 =>
    show lN (Nat.lor x y) = lN x ||| lN y
    apply i64_bv
    rw [Int64.toBitVec_or, BitVec.toNat_or, lN_bvn hx, lN_bvn hy, lN_bvn]
    · rfl
    · exact Nat.or_lt_two_pow (n := 64) hx hy
theorem ax_lb_ok {sp : Nat → Nat} {ρ ad : List Nat} {σ : AS} (hS : St ρ σ) {op : Nat} {a b : AV} {A B : Value} (ha : Rp sp ρ ad a A) (hb : Rp sp ρ ad b B) {β : Type} {k : AS → AV → Option β} {r : β} (h : ax_lb op σ a b k = some r) :
    ∃ (x y : Int64) (σ' : AS) (v : AV) (ρ' : List Nat), A = .long x ∧ B = .long y ∧ k σ' v = some r ∧ Sb ρ ρ' ∧ St ρ' σ' ∧ Rp sp ρ' ad v (.long (ax_flo op x y)) := by
  unfold ax_lb at h
  cases hc : (Nat.beq a.1 1 && Nat.beq b.1 1) with
  | true =>
    rw [hc] at h
    obtain ⟨h1, h2⟩ := gd_s h
    have q := bb_and hc
    have q1 := bb_eq q.1
    have q2 := bb_eq q.2
    obtain ⟨ta, na⟩ := a
    obtain ⟨tb, nb⟩ := b
    dsimp only at q1 q2
    subst q1
    subst q2
    have w := bb_and h1
    rw [ax_fc_eq] at h2
    exact ⟨lN na, lN nb, σ, (1, ax_lop op na nb), ρ, ha, hb, h2, Sb.rf ρ, hS, by show Value.long _ = Value.long _; rw [ax_lop_ok op na nb (bb_lt w.1) (bb_lt w.2)]⟩
  | false =>
    rw [hc] at h
    obtain ⟨h1, h⟩ := gd_s (b := ax_tL a && ax_tL b) h
    have w := bb_and h1
    obtain ⟨x, hx⟩ := ha.tL w.1
    obtain ⟨y, hy⟩ := hb.tL w.2
    have hn := nwL (sp := sp) (ad := ad) hS (ax_flo op x y)
    exact ⟨x, y, _, _, _, hx, hy, h, hn.1, hn.2.1, hn.2.2⟩
/-- conversions of an int -/
def ax_fu (op : Nat) (x : Int32) : Int32 := match op with
  | 0 => x.toInt8.toInt32
  | 1 => x.toInt16.toInt32
  | 2 => (x.toUInt32 % 65536).toInt32
  | _ => -x
theorem nI_b8 (n : Nat) : (nI n).toInt8.toInt32.toInt = (n : Int).bmod 256 := by
  rw [Int8.toInt_toInt32, Int32.toInt_toInt8, nI_toInt_bmod]
  simp only [Int.bmod_def]
  omega
theorem nI_b16 (n : Nat) : (nI n).toInt16.toInt32.toInt = (n : Int).bmod 65536 := by
  rw [Int16.toInt_toInt32, Int32.toInt_toInt16, nI_toInt_bmod]
  simp only [Int.bmod_def]
  omega
theorem ax_cu_ok (op x : Nat) (hx : x < 4294967296) : nI (ax_cu op x) = ax_fu op (nI x) := by
  match op with
  | 0 =>
    show nI (bif Nat.blt (x % 256) 128 then x % 256 else x % 256 + 4294967040) = (nI x).toInt8.toInt32
    apply Int32.toInt_inj.mp
    rw [nI_b8]
    cases hb : Nat.blt (x % 256) 128 with
    | true =>
      have := bb_lt hb
      show (nI (x % 256)).toInt = _
      rw [nI_toInt_bmod]
      simp only [Int.bmod_def]
      omega
    | false =>
      have := bb_nlt hb
      show (nI (x % 256 + 4294967040)).toInt = _
      rw [nI_toInt_bmod]
      simp only [Int.bmod_def]
      omega
  | 1 =>
    show nI (bif Nat.blt (x % 65536) 32768 then x % 65536 else x % 65536 + 4294901760) = (nI x).toInt16.toInt32
    apply Int32.toInt_inj.mp
    rw [nI_b16]
    cases hb : Nat.blt (x % 65536) 32768 with
    | true =>
      have := bb_lt hb
      show (nI (x % 65536)).toInt = _
      rw [nI_toInt_bmod]
      simp only [Int.bmod_def]
      omega
    | false =>
      have := bb_nlt hb
      show (nI (x % 65536 + 4294901760)).toInt = _
      rw [nI_toInt_bmod]
      simp only [Int.bmod_def]
      omega
  | 2 =>
    show nI (x % 65536) = ((nI x).toUInt32 % 65536).toInt32
    rw [pk_char, nI_bvn hx]
  | n + 3 =>
    show nI ((4294967296 - x) % 4294967296) = -(nI x)
    apply Int32.toInt_inj.mp
    rw [nI_mod, Int32.toInt_neg, nI_toInt_bmod, nI_toInt_bmod]
    simp only [Int.bmod_def]
    omega
theorem ax_cuv_ok (op : Nat) (x : Int32) : (ax_cuv op).1 ≤ zI (ax_fu op x) ∧ zI (ax_fu op x) ≤ (ax_cuv op).2 := by
  match op with
  | 0 =>
    show 9223372036854775680 ≤ zI x.toInt8.toInt32 ∧ zI x.toInt8.toInt32 ≤ 9223372036854775935
    have h1 := zI_cast x.toInt8.toInt32
    rw [Int8.toInt_toInt32] at h1
    have h2 := Int8.le_toInt x.toInt8
    have h3 := Int8.toInt_lt x.toInt8
    omega
  | 1 =>
    show 9223372036854743040 ≤ zI x.toInt16.toInt32 ∧ zI x.toInt16.toInt32 ≤ 9223372036854808575
    have h1 := zI_cast x.toInt16.toInt32
    rw [Int16.toInt_toInt32] at h1
    have h2 := Int16.le_toInt x.toInt16
    have h3 := Int16.toInt_lt x.toInt16
    omega
  | 2 =>
    show 9223372036854775808 ≤ zI (x.toUInt32 % 65536).toInt32 ∧ zI (x.toUInt32 % 65536).toInt32 ≤ 9223372036854841343
    rw [pk_char]
    have hl : x.toBitVec.toNat % 65536 < 65536 := Nat.mod_lt _ (by decide)
    generalize x.toBitVec.toNat % 65536 = d at hl
    rw [zI_nI (by omega)]
    unfold ax_bi
    rw [if_pos (by omega)]
    omega
  | n + 3 => exact full_in _
theorem ax_un_ok {sp : Nat → Nat} {ρ ad : List Nat} {σ : AS} (hS : St ρ σ) {op : Nat} {a : AV} {A : Value} (ha : Rp sp ρ ad a A) {β : Type} {k : AS → AV → Option β} {r : β} (h : ax_un op σ a k = some r) :
    ∃ (x : Int32) (σ' : AS) (v : AV) (ρ' : List Nat), A = .int x ∧ k σ' v = some r ∧ Sb ρ ρ' ∧ St ρ' σ' ∧ Rp sp ρ' ad v (.int (ax_fu op x)) := by
  unfold ax_un at h
  cases hc : Nat.beq a.1 0 with
  | true =>
    rw [hc] at h
    obtain ⟨h1, h2⟩ := gd_s h
    have q1 := bb_eq hc
    obtain ⟨ta, na⟩ := a
    dsimp only at q1
    subst q1
    rw [ax_fc_eq] at h2
    exact ⟨nI na, σ, _, ρ, ha, h2, Sb.rf ρ, hS, by show Value.int _ = Value.int _; rw [ax_cu_ok op na (bb_lt h1)]⟩
  | false =>
    rw [hc] at h
    obtain ⟨h1, h⟩ := gd_s (b := Nat.beq a.1 4) h
    obtain ⟨x, hx⟩ := ha.tI (by unfold ax_tI; rw [h1]; exact Bool.or_true _)
    have hi := ax_cuv_ok op x
    have hn := nwI (sp := sp) (ad := ad) hS (ax_fu op x) hi.1 hi.2
    exact ⟨x, _, _, _, hx, h, hn.1, hn.2.1, hn.2.2⟩
theorem ax_i2l_ok {sp : Nat → Nat} {ρ ad : List Nat} {σ : AS} (hS : St ρ σ) {a : AV} {A : Value} (ha : Rp sp ρ ad a A) {β : Type} {k : AS → AV → Option β} {r : β} (h : ax_i2l σ a k = some r) :
    ∃ (x : Int32) (v : AV), A = .int x ∧ k σ v = some r ∧ Rp sp ρ ad v (.long x.toInt64) := by
  unfold ax_i2l at h
  cases hc : Nat.beq a.1 0 with
  | true =>
    rw [hc] at h
    obtain ⟨h1, h2⟩ := gd_s h
    have q1 := bb_eq hc
    have q2 := bb_lt h1
    obtain ⟨ta, na⟩ := a
    dsimp only at q1 q2
    subst q1
    have h2 : ax_fc (bif Nat.blt na 2147483648 then na else na + 18446744069414584320) (fun n => k σ (1, n)) = some r := h2
    rw [ax_fc_eq] at h2
    refine ⟨nI na, _, ha, h2, ?_⟩
    show Value.long _ = Value.long (lN (bif Nat.blt na 2147483648 then na else na + 18446744069414584320))
    refine congrArg Value.long ?_
    apply Int64.toInt_inj.mp
    rw [Int32.toInt_toInt64, nI_toInt_bmod, lN_toInt_bmod]
    cases hb : Nat.blt na 2147483648 with
    | true =>
      have := bb_lt hb
      show _ = (na : Int).bmod 18446744073709551616
      simp only [Int.bmod_def]
      omega
    | false =>
      have := bb_nlt hb
      show _ = ((na + 18446744069414584320 : Nat) : Int).bmod 18446744073709551616
      simp only [Int.bmod_def]
      omega
  | false =>
    rw [hc] at h
    obtain ⟨h1, h⟩ := gd_s (b := Nat.beq a.1 4) h
    obtain ⟨q, e, h⟩ := ob_s h
    obtain ⟨x, hx, -, -, x3⟩ := ax_rI_ok hS ha e
    refine ⟨x, _, hx, h, zI x, x3 (bb_eq h1), ?_⟩
    refine congrArg Value.long ?_
    apply Int64.toInt_inj.mp
    have h2 := zI_rng x
    have h3 := zI_cast x
    rw [Int32.toInt_toInt64, lN_z (by omega)]
    omega
theorem ax_l2i_ok {sp : Nat → Nat} {ρ ad : List Nat} {σ : AS} (hS : St ρ σ) {a : AV} {A : Value} (ha : Rp sp ρ ad a A) {β : Type} {k : AS → AV → Option β} {r : β} (h : ax_l2i σ a k = some r) :
    ∃ (x : Int64) (σ' : AS) (v : AV) (ρ' : List Nat), A = .long x ∧ k σ' v = some r ∧ Sb ρ ρ' ∧ St ρ' σ' ∧ Rp sp ρ' ad v (.int x.toInt32) := by
  unfold ax_l2i at h
  cases hc : Nat.beq a.1 1 with
  | true =>
    rw [hc] at h
    have q1 := bb_eq hc
    obtain ⟨ta, na⟩ := a
    dsimp only at q1
    subst q1
    have h : ax_fc (na % 4294967296) (fun n => k σ (0, n)) = some r := h
    rw [ax_fc_eq] at h
    refine ⟨lN na, σ, _, ρ, ha, h, Sb.rf ρ, hS, ?_⟩
    show Value.int _ = Value.int (nI (na % 4294967296))
    rw [nI_mod, lN_i]
  | false =>
    rw [hc] at h
    obtain ⟨h1, h⟩ := gd_s (b := Nat.beq a.1 5) h
    obtain ⟨x, hx⟩ := ha.tL (by unfold ax_tL; rw [h1]; exact Bool.or_true _)
    have hf := full_in x.toInt32
    have hn := nwI (sp := sp) (ad := ad) hS x.toInt32 hf.1 hf.2
    exact ⟨x, _, _, _, hx, h, hn.1, hn.2.1, hn.2.2⟩
