section
/-! 25a6.zh -/
/-! PLAIN RUNS, 6: steps on the heap, switches, calls -/
section ZX
variable {sb : Nat → List Nat} {sp : Nat → Nat} {ρ0 : List Nat} {ad : Nat → Nat} {sh : SHP}
variable {M : MR} {pc pc1 pc' len : Nat} {ins : Instr} {lk : List Nat} {h h1 h' : PH} {lv lv1 lv' : LVs} {st st1 st' : List Value}
theorem obr_t {α : Type} {o : Option α} {x : α} {k : α → Prop} (ho : o = some x) (hk : k x) : obr False o k := by rw [ho]; exact hk
theorem bb_rf (n : Nat) : Nat.beq n n = true := by rw [Nat.beq_eq]
theorem bb_lo {a b : Nat} (h : a < b) : Nat.blt a b = true := Nat.ble_eq_true_of_le h
theorem nthe {α : Type} {l : List α} {n : Nat} {x : α} (h : l[n]? = some x) : ax_nth l n = some x := by rw [ax_nth_eq]; exact h
theorem o32R {z : Int} (hr : R32 z) : (Int32.ofInt z).toInt = z := by
  have := hr.1
  have := hr.2
  rw [Int32.toInt_ofInt]
  show z.bmod 4294967296 = z
  rw [Int.bmod_def]
  omega
theorem o64R {z : Int} (hr : R64 z) : (Int64.ofInt z).toInt = z := by
  have := hr.1
  have := hr.2
  rw [Int64.toInt_ofInt]
  show z.bmod 18446744073709551616 = z
  rw [Int.bmod_def]
  omega
theorem zq_getf {ci k c0 n : Nat} {fs : List (Nat × Nat)} {f : Nat × Nat} (hdg : Dg M pc ins len (ci :: k :: lk)) (ho : ax_op ins = 8) (hsh : sh[c0]? = some (ci, n, fs)) (hci : ci < 100) (hf : fs[k]? = some f) (hfr : (f.1 = 0 ∧ R32 (h c0 k)) ∨ (f.1 = 1 ∧ R64 (h c0 k)) ∨ f.1 = 2) (K : ZQ sb sp ρ0 ad sh M (pc + len) h lv (pf ad (h c0) k f :: st) pc' h' lv' st') : ZQ sb sp ρ0 ad sh M pc h lv (.ref (ad c0) :: st) pc' h' lv' st' := by
  refine zq_nx K hdg ho (fun hi zl hz cr => ?_)
  rw [List.map_cons, cz_c hi]
  show obr False (ax_nth sh c0) _
  refine obr_t (nthe hsh) ?_
  show gdr False (Nat.beq ci ci && Nat.blt ci 100) _
  refine gdr_t (by rw [bb_rf, bb_lo hci]; rfl) ?_
  refine obr_t (nthe hf) ?_
  obtain ⟨t, g⟩ := f
  rcases hfr with ⟨e, r⟩ | ⟨e, r⟩ | e
  · have e : t = 0 := e
    subst e
    exact And.intro r (And.intro rfl (And.intro rfl (congrArg (fun z => ((0, z) : ZV) :: st.map (cz ad)) (o32R r).symm)))
  · have e : t = 1 := e
    subst e
    exact And.intro r (And.intro rfl (And.intro rfl (congrArg (fun z => ((1, z) : ZV) :: st.map (cz ad)) (o64R r).symm)))
  · have e : t = 2 := e
    subst e
    exact And.intro rfl (And.intro rfl (congrArg (fun z => z :: st.map (cz ad)) (cz_c hi g).symm))
theorem zq_getS {k x : Nat} (hdg : Dg M pc ins len (200 :: k :: lk)) (ho : ax_op ins = 8) (hxs : x = 1 ∨ x = 3) (K : ZQ sb sp ρ0 ad sh M (pc + len) h lv ((if k = 0 then .retAddr (x + 1) else .int 0) :: st) pc' h' lv' st') : ZQ sb sp ρ0 ad sh M pc h lv (.retAddr x :: st) pc' h' lv' st' := by
  refine zq_nx K hdg ho (fun hi zl hz cr => ?_)
  rw [List.map_cons, cz_s]
  show (bif Nat.beq k 0 then _ else _)
  by_cases hk : k = 0
  · subst hk
    exact And.intro rfl (And.intro rfl (congrArg (fun z => z :: st.map (cz ad)) (show ((6, Int.ofNat x + 1) : ZV) = cz ad (.retAddr (x + 1)) from rfl)))
  · rw [bb_nb hk, if_neg hk]
    exact And.intro rfl (And.intro rfl rfl)
theorem zq_putf {ci k tc c0 n : Nat} {x : Int} {V : Value} {fs : List (Nat × Nat)} (hdg : Dg M pc ins len (ci :: k :: tc :: lk)) (ho : ax_op ins = 9) (hsh : sh[c0]? = some (ci, n, fs)) (hci : ci < 100) (hV : fok tc V x) (K : ZQ sb sp ρ0 ad sh M (pc + len) (uph h c0 k x) lv st pc' h' lv' st') : ZQ sb sp ρ0 ad sh M pc h lv (V :: .ref (ad c0) :: st) pc' h' lv' st' := by
  refine zq_nx K hdg ho (fun hi zl hz cr => ?_)
  rw [List.map_cons, List.map_cons, cz_c hi]
  show obr False (ax_nth sh c0) _
  refine obr_t (nthe hsh) ?_
  show gdr False (Nat.beq ci ci && Nat.blt ci 100) _
  refine gdr_t (by rw [bb_rf, bb_lo hci]; rfl) ?_
  have e : (cz ad V).2 = x := by
    match tc, hV with
    | 0, hV => obtain ⟨y, rfl, e⟩ := hV; exact e
    | 1, hV => obtain ⟨y, rfl, e, -⟩ := hV; exact e
    | 2, hV => obtain ⟨y, rfl, e⟩ := hV; exact e
    | n + 3, hV => exact hV.elim
  exact And.intro (congrArg (uph h c0 k) e) (And.intro rfl rfl)
theorem zq_iald {c0 n : Nat} {fs : List (Nat × Nat)} {i : Int32} (hdg : Dg M pc .iaload 1 lk) (hsh : sh[c0]? = some (100, n, fs)) (h1 : 0 ≤ i.toInt) (h2 : i.toInt < n) (hr : R32 (h c0 i.toInt.toNat)) (K : ZQ sb sp ρ0 ad sh M (pc + 1) h lv (.int (Int32.ofInt (h c0 i.toInt.toNat)) :: st) pc' h' lv' st') : ZQ sb sp ρ0 ad sh M pc h lv (.int i :: .ref (ad c0) :: st) pc' h' lv' st' := by
  refine zq_nx K hdg (op := 10) rfl (fun hi zl hz cr => ?_)
  rw [List.map_cons, List.map_cons, cz_c hi]
  show obr False (ax_nth sh c0) _
  refine obr_t (nthe hsh) ?_
  exact And.intro ⟨h1, h2⟩ (And.intro hr (And.intro rfl (And.intro rfl (congrArg (fun z => ((0, z) : ZV) :: st.map (cz ad)) (o32R hr).symm))))
theorem zq_bald {c0 n : Nat} {fs : List (Nat × Nat)} {i : Int32} (hdg : Dg M pc .baload 1 lk) (hsh : sh[c0]? = some (102, n, fs)) (h1 : 0 ≤ i.toInt) (h2 : i.toInt < n) (hr : R32 (h c0 i.toInt.toNat)) (K : ZQ sb sp ρ0 ad sh M (pc + 1) h lv (.int (Int32.ofInt (h c0 i.toInt.toNat)) :: st) pc' h' lv' st') : ZQ sb sp ρ0 ad sh M pc h lv (.int i :: .ref (ad c0) :: st) pc' h' lv' st' := by
  refine zq_nx K hdg (op := 12) rfl (fun hi zl hz cr => ?_)
  rw [List.map_cons, List.map_cons, cz_c hi]
  show obr False (ax_nth sh c0) _
  refine obr_t (nthe hsh) ?_
  exact And.intro ⟨h1, h2⟩ (And.intro hr (And.intro rfl (And.intro rfl (congrArg (fun z => ((0, z) : ZV) :: st.map (cz ad)) (o32R hr).symm))))
theorem zq_lald {c0 n : Nat} {fs : List (Nat × Nat)} {i : Int32} (hdg : Dg M pc .laload 1 lk) (hsh : sh[c0]? = some (101, n, fs)) (h1 : 0 ≤ i.toInt) (h2 : i.toInt < n) (hr : R64 (h c0 i.toInt.toNat)) (K : ZQ sb sp ρ0 ad sh M (pc + 1) h lv (.long (Int64.ofInt (h c0 i.toInt.toNat)) :: st) pc' h' lv' st') : ZQ sb sp ρ0 ad sh M pc h lv (.int i :: .ref (ad c0) :: st) pc' h' lv' st' := by
  refine zq_nx K hdg (op := 11) rfl (fun hi zl hz cr => ?_)
  rw [List.map_cons, List.map_cons, cz_c hi]
  show obr False (ax_nth sh c0) _
  refine obr_t (nthe hsh) ?_
  exact And.intro ⟨h1, h2⟩ (And.intro hr (And.intro rfl (And.intro rfl (congrArg (fun z => ((1, z) : ZV) :: st.map (cz ad)) (o64R hr).symm))))
theorem z_sel_ok {i : Int} {kk : ZV → Prop} : ∀ (fs : List (Nat × Nat)) (j k : Nat) (f : Nat × Nat), fs[k]? = some f → i = Int.ofNat (j + k) → kk (2, Int.ofNat f.2) → z_sel False exB i kk fs j
  | [], _, _, _, h, _, _ => by cases h
  | g :: t, j, 0, f, h, e, hk => by
    have h : some g = some f := h
    cases h
    exact Or.inl ⟨e, hk⟩
  | g :: t, j, k + 1, f, h, e, hk => by
    have h : t[k]? = some f := by simpa using h
    refine Or.inr ⟨fun q => ?_, z_sel_ok t (j + 1) k f h (by rw [e]; congr 1; omega) hk⟩
    rw [e] at q
    have := Int.ofNat.inj q
    omega
theorem zq_aald {c0 n kd : Nat} {fs : List (Nat × Nat)} {f : Nat × Nat} {i : Int32} (hdg : Dg M pc .aaload 1 lk) (hsh : sh[c0]? = some (kd, n, fs)) (hk1 : 103 ≤ kd) (h1 : 0 ≤ i.toInt) (hf : fs[i.toInt.toNat]? = some f) (K : ZQ sb sp ρ0 ad sh M (pc + 1) h lv (.ref (ad f.2) :: st) pc' h' lv' st') : ZQ sb sp ρ0 ad sh M pc h lv (.int i :: .ref (ad c0) :: st) pc' h' lv' st' := by
  refine zq_nx K hdg (op := 13) rfl (fun hi zl hz cr => ?_)
  rw [List.map_cons, List.map_cons, cz_c hi]
  show obr False (ax_nth sh c0) _
  refine obr_t (nthe hsh) ?_
  show gdr False (Nat.ble 103 kd) _
  refine gdr_t (Nat.ble_eq_true_of_le hk1) ?_
  refine z_sel_ok fs 0 i.toInt.toNat f hf (by show i.toInt = ((0 + i.toInt.toNat : Nat) : Int); omega) ?_
  exact And.intro rfl (And.intro rfl (congrArg (fun z => z :: st.map (cz ad)) (cz_c hi f.2).symm))
theorem zq_iast {c0 n : Nat} {fs : List (Nat × Nat)} {i x : Int32} (hdg : Dg M pc .iastore 1 lk) (hsh : sh[c0]? = some (100, n, fs)) (h1 : 0 ≤ i.toInt) (h2 : i.toInt < n) (K : ZQ sb sp ρ0 ad sh M (pc + 1) (uph h c0 i.toInt.toNat x.toInt) lv st pc' h' lv' st') : ZQ sb sp ρ0 ad sh M pc h lv (.int x :: .int i :: .ref (ad c0) :: st) pc' h' lv' st' := by
  refine zq_nx K hdg (op := 14) rfl (fun hi zl hz cr => ?_)
  rw [List.map_cons, List.map_cons, List.map_cons, cz_c hi]
  show obr False (ax_nth sh c0) _
  refine obr_t (nthe hsh) ?_
  exact And.intro ⟨h1, h2⟩ (And.intro rfl (And.intro rfl rfl))
theorem zq_bast {c0 n : Nat} {fs : List (Nat × Nat)} {i x : Int32} (hdg : Dg M pc .bastore 1 lk) (hsh : sh[c0]? = some (102, n, fs)) (h1 : 0 ≤ i.toInt) (h2 : i.toInt < n) (K : ZQ sb sp ρ0 ad sh M (pc + 1) (uph h c0 i.toInt.toNat x.toInt) lv st pc' h' lv' st') : ZQ sb sp ρ0 ad sh M pc h lv (.int x :: .int i :: .ref (ad c0) :: st) pc' h' lv' st' := by
  refine zq_nx K hdg (op := 16) rfl (fun hi zl hz cr => ?_)
  rw [List.map_cons, List.map_cons, List.map_cons, cz_c hi]
  show obr False (ax_nth sh c0) _
  refine obr_t (nthe hsh) ?_
  exact And.intro ⟨h1, h2⟩ (And.intro rfl (And.intro rfl rfl))
theorem zq_last {c0 n : Nat} {fs : List (Nat × Nat)} {i : Int32} {x : Int64} (hdg : Dg M pc .lastore 1 lk) (hsh : sh[c0]? = some (101, n, fs)) (h1 : 0 ≤ i.toInt) (h2 : i.toInt < n) (K : ZQ sb sp ρ0 ad sh M (pc + 1) (uph h c0 i.toInt.toNat x.toInt) lv st pc' h' lv' st') : ZQ sb sp ρ0 ad sh M pc h lv (.long x :: .int i :: .ref (ad c0) :: st) pc' h' lv' st' := by
  refine zq_nx K hdg (op := 15) rfl (fun hi zl hz cr => ?_)
  rw [List.map_cons, List.map_cons, List.map_cons, cz_c hi]
  show obr False (ax_nth sh c0) _
  refine obr_t (nthe hsh) ?_
  exact And.intro ⟨h1, h2⟩ (And.intro rfl (And.intro rfl rfl))
theorem zq_alen {c0 n kd : Nat} {fs : List (Nat × Nat)} (hdg : Dg M pc .arraylength 1 lk) (hsh : sh[c0]? = some (kd, n, fs)) (K : ZQ sb sp ρ0 ad sh M (pc + 1) h lv (.int (nI n) :: st) pc' h' lv' st') : ZQ sb sp ρ0 ad sh M pc h lv (.ref (ad c0) :: st) pc' h' lv' st' := by
  refine zq_nx K hdg (op := 53) rfl (fun hi zl hz cr => ?_)
  rw [List.map_cons, cz_c hi]
  show obr False (ax_nth sh c0) _
  refine obr_t (nthe hsh) ?_
  exact And.intro rfl (And.intro rfl (congrArg (fun z => ((0, z) : ZV) :: st.map (cz ad)) (z32_eq n)))
theorem zq_slen {L : Nat} (hdg : Dg M pc .arraylength 1 lk) (hL : ρ0[6]? = some (L + 9223372036854775808)) (K : ZQ sb sp ρ0 ad sh M (pc + 1) h lv (.int (nI L) :: st) pc' h' lv' st') : ZQ sb sp ρ0 ad sh M pc h lv (.retAddr 0 :: st) pc' h' lv' st' := by
  have e : sl0 ρ0 = L := by
    unfold sl0
    rw [List.getD_eq_getElem?_getD, hL]
    show L + 9223372036854775808 - 9223372036854775808 = L
    omega
  refine zq_nx K hdg (op := 53) rfl (fun hi zl hz cr => ?_)
  rw [List.map_cons, cz_s]
  exact And.intro rfl (And.intro rfl (congrArg (fun z => ((0, z) : ZV) :: st.map (cz ad)) (show z32 (sl0 ρ0) = (nI L).toInt by rw [e, z32_eq])))
theorem zq_sld {L : Nat} {i : Int32} (hdg : Dg M pc .iaload 1 lk) (hL : ρ0[6]? = some (L + 9223372036854775808)) (h1 : 0 ≤ i.toInt) (h2 : i.toInt < L) (hr : R32 ((sp (1000 + i.toInt.toNat) : Int) - 9223372036854775808)) (K : ZQ sb sp ρ0 ad sh M (pc + 1) h lv (.int (Int32.ofInt ((sp (1000 + i.toInt.toNat) : Int) - 9223372036854775808)) :: st) pc' h' lv' st') : ZQ sb sp ρ0 ad sh M pc h lv (.int i :: .retAddr 0 :: st) pc' h' lv' st' := by
  have e : sl0 ρ0 = L := by
    unfold sl0
    rw [List.getD_eq_getElem?_getD, hL]
    show L + 9223372036854775808 - 9223372036854775808 = L
    omega
  refine zq_nx K hdg (op := 10) rfl (fun hi zl hz cr => ?_)
  rw [List.map_cons, List.map_cons, cz_s]
  exact And.intro ⟨h1, by rw [e]; exact h2⟩ (And.intro hr (And.intro rfl (And.intro rfl (congrArg (fun z => ((0, z) : ZV) :: st.map (cz ad)) (o32R hr).symm))))
theorem zq_tlen {x : Nat} (hdg : Dg M pc .arraylength 1 lk) (hx2 : x = 2 ∨ x = 4) (K : ZQ sb sp ρ0 ad sh M (pc + 1) h lv (.int (nI (sb x).length) :: st) pc' h' lv' st') : ZQ sb sp ρ0 ad sh M pc h lv (.retAddr x :: st) pc' h' lv' st' := by
  refine zq_nx K hdg (op := 53) rfl (fun hi zl hz cr => ?_)
  rw [List.map_cons, cz_s]
  rcases hx2 with rfl | rfl
  · exact And.intro rfl (And.intro rfl (congrArg (fun z => ((0, z) : ZV) :: st.map (cz ad)) (z32_eq (sb 2).length)))
  · exact And.intro rfl (And.intro rfl (congrArg (fun z => ((0, z) : ZV) :: st.map (cz ad)) (z32_eq (sb 4).length)))
theorem zq_tld {x n : Nat} {i : Int32} (hdg : Dg M pc .baload 1 lk) (hx2 : x = 2 ∨ x = 4) (h1 : 0 ≤ i.toInt) (hn : (sb x)[i.toInt.toNat]? = some n) (K : ZQ sb sp ρ0 ad sh M (pc + 1) h lv (.int (nI n) :: st) pc' h' lv' st') : ZQ sb sp ρ0 ad sh M pc h lv (.int i :: .retAddr x :: st) pc' h' lv' st' := by
  have hl := (List.getElem?_eq_some_iff.mp hn).1
  have e : z32 ((sb x).getD i.toInt.toNat 0) = (nI n).toInt := by rw [List.getD_eq_getElem?_getD, hn, z32_eq]; rfl
  refine zq_nx K hdg (op := 12) rfl (fun hi zl hz cr => ?_)
  rw [List.map_cons, List.map_cons, cz_s]
  rcases hx2 with rfl | rfl
  · exact And.intro ⟨h1, by show i.toInt < (((sb 2).length : Nat) : Int); omega⟩ (And.intro rfl (And.intro rfl (congrArg (fun z => ((0, z) : ZV) :: st.map (cz ad)) e)))
  · exact And.intro ⟨h1, by show i.toInt < (((sb 4).length : Nat) : Int); omega⟩ (And.intro rfl (And.intro rfl (congrArg (fun z => ((0, z) : ZV) :: st.map (cz ad)) e)))
theorem zq_gets0 (hdg : Dg M pc ins len (0 :: lk)) (ho : ax_op ins = 56) (K : ZQ sb sp ρ0 ad sh M (pc + len) h lv (.int 1 :: st) pc' h' lv' st') : ZQ sb sp ρ0 ad sh M pc h lv st pc' h' lv' st' := by
  refine zq_nx K hdg ho (fun hi zl hz cr => ?_)
  exact And.intro rfl (And.intro rfl rfl)
theorem zq_gets1 {x : Nat} (hx : x ≠ 0) (hdg : Dg M pc ins len (x :: lk)) (ho : ax_op ins = 56) (K : ZQ sb sp ρ0 ad sh M (pc + len) h lv (.float 0 :: st) pc' h' lv' st') : ZQ sb sp ρ0 ad sh M pc h lv st pc' h' lv' st' := by
  refine zq_nx K hdg ho (fun hi zl hz cr => ?_)
  show (bif Nat.beq x 0 then _ else _)
  rw [bb_nb hx]
  exact And.intro rfl (And.intro rfl rfl)
theorem zq_min {x y : Int32} {rest : List Value} (hdg : Dg M pc ins len (902 :: lk)) (ho : ax_op ins = 21) (K : ZQ sb sp ρ0 ad sh M (pc + len) h lv (.int (if y < x then y else x) :: rest) pc' h' lv' st') : ZQ sb sp ρ0 ad sh M pc h lv (.int y :: .int x :: rest) pc' h' lv' st' := by
  have e : zmin x.toInt y.toInt = (if y < x then y else x).toInt := by
    unfold zmin
    by_cases c : y < x
    · rw [if_pos c, if_pos (Int32.lt_iff_toInt_lt.mp c)]
    · rw [if_neg c, if_neg (fun z => c (Int32.lt_iff_toInt_lt.mpr z))]
  refine zq_nx K hdg ho (fun hi zl hz cr => ?_)
  exact And.intro rfl (And.intro rfl (congrArg (fun z => ((0, z) : ZV) :: rest.map (cz ad)) e))
theorem zq_max {b : Nat} {x y : Int32} {rest : List Value} (hdg : Dg M pc ins len (903 :: b :: lk)) (ho : ax_op ins = 21) (K : ZQ sb sp ρ0 ad sh M (pc + len) h lv (.int (if x < y then y else x) :: rest) pc' h' lv' st') : ZQ sb sp ρ0 ad sh M pc h lv (.int y :: .int x :: rest) pc' h' lv' st' := by
  have e : zmax x.toInt y.toInt = (if x < y then y else x).toInt := by
    unfold zmax
    by_cases c : x < y
    · rw [if_pos c, if_pos (Int32.lt_iff_toInt_lt.mp c)]
    · rw [if_neg c, if_neg (fun z => c (Int32.lt_iff_toInt_lt.mpr z))]
  refine zq_nx K hdg ho (fun hi zl hz cr => ?_)
  exact And.intro rfl (And.intro rfl (congrArg (fun z => ((0, z) : ZV) :: rest.map (cz ad)) e))
theorem zq_copy {cs cd : Nat} {n dp sq : Int32} {rest : List Value} (hdg : Dg M pc ins len (901 :: lk)) (ho : ax_op ins = 21) (b1 : 0 ≤ sq.toInt) (b2 : 0 ≤ dp.toInt) (b3 : 0 ≤ n.toInt) (K : ZQ sb sp ρ0 ad sh M (pc + len) (cph h cs cd sq.toInt.toNat dp.toInt.toNat n.toInt.toNat) lv rest pc' h' lv' st') : ZQ sb sp ρ0 ad sh M pc h lv (.int n :: .int dp :: .ref (ad cd) :: .int sq :: .ref (ad cs) :: rest) pc' h' lv' st' := by
  refine zq_nx K hdg ho (fun hi zl hz cr => ?_)
  rw [List.map_cons, List.map_cons, List.map_cons, List.map_cons, List.map_cons, cz_c hi, cz_c hi]
  exact And.intro ⟨b1, b2, b3⟩ (And.intro rfl (And.intro rfl rfl))
theorem z_sw_ok {x : Int32} {T d : Nat} {g : Nat → Prop} (hg : g T) : ∀ (ks : List Nat), ((∀ k t, ax_pr k t ks → x ≠ nI k) → d = T) → (∀ k t, ax_pr k t ks → x = nI k → t = T) → z_sw exB x.toInt g d ks
  | [], hD, _ => by
    have e : d = T := hD (fun _ _ q => q.elim)
    subst e
    exact hg
  | [_], hD, _ => by
    have e : d = T := hD (fun _ _ q => q.elim)
    subst e
    exact hg
  | k :: t :: r, hD, hK => by
    by_cases c : x = nI k
    · have e : t = T := hK k t (Or.inl ⟨rfl, rfl⟩) c
      subst e
      exact Or.inl ⟨by rw [z32_eq, c], hg⟩
    · refine Or.inr ⟨fun z => c (Int32.toInt_inj.mp (by rw [z, z32_eq])), z_sw_ok hg r (fun q => hD (fun k' t' p => ?_)) (fun k' t' p => hK k' t' (Or.inr p))⟩
      rcases p with ⟨e1, -⟩ | p
      · rw [← e1]; exact c
      · exact q k' t' p
theorem zq_table {d lo hi T : Nat} {ks : List Nat} {x : Int32} (hdg : Dg M pc ins len (d :: lo :: hi :: ks)) (ho : ax_op ins = 57) (K : ZQ sb sp ρ0 ad sh M T h lv st pc' h' lv' st') (hD : x.toInt < (nI lo).toInt ∨ (nI hi).toInt < x.toInt → d = T) (hND : (∀ k t, ax_pr k t ks → x ≠ nI k) → d = T) (hK : ∀ k t, ax_pr k t ks → x = nI k → t = T) : ZQ sb sp ρ0 ad sh M pc h lv (.int x :: st) pc' h' lv' st' := by
  refine zq_step K hdg (fun hi' zl hz => ⟨zl, hz, fun cr => ?_⟩)
  rw [ho]
  show exB (x.toInt < z32 lo ∨ z32 hi < x.toInt) _ _
  by_cases c : x.toInt < z32 lo ∨ z32 hi < x.toInt
  · have e : d = T := hD (by rw [z32_eq, z32_eq] at c; exact c)
    subst e
    exact Or.inl (And.intro c rfl)
  · exact Or.inr (And.intro c (z_sw_ok (x := x) (g := fun t => ((T, h, zl, st.map (cz ad)) : ZS) = (t, h, zl, st.map (cz ad))) rfl ks hND hK))
theorem zq_look {d T : Nat} {ks : List Nat} {x : Int32} (hdg : Dg M pc ins len (d :: ks)) (ho : ax_op ins = 58) (K : ZQ sb sp ρ0 ad sh M T h lv st pc' h' lv' st') (hND : (∀ k t, ax_pr k t ks → x ≠ nI k) → d = T) (hK : ∀ k t, ax_pr k t ks → x = nI k → t = T) : ZQ sb sp ρ0 ad sh M pc h lv (.int x :: st) pc' h' lv' st' := by
  refine zq_step K hdg (fun hi' zl hz => ⟨zl, hz, fun cr => ?_⟩)
  rw [ho]
  exact z_sw_ok (x := x) (g := fun t => ((T, h, zl, st.map (cz ad)) : ZS) = (t, h, zl, st.map (cz ad))) rfl ks hND hK
theorem z_args_ok : ∀ (u rest acc : List ZV), z_args u.length (u ++ rest) acc = some (u.reverse ++ acc, rest)
  | [], rest, acc => rfl
  | v :: u, rest, acc => by
    show z_args u.length (u ++ rest) (v :: acc) = _
    rw [z_args_ok u rest (v :: acc), List.reverse_cons, List.append_assoc]
    rfl
theorem Zlr.args {ad : Nat → Nat} : ∀ (as : List Value) (i : Nat), Zlr ad (z_locs i (as.map (cz ad))) (lv_args i as) ∧ ∀ q ∈ lv_args i as, i ≤ q.1
  | [], i => ⟨(fun q hq => by cases hq), (fun q hq => by cases hq)⟩
  | v :: r, i => by
    obtain ⟨A, B⟩ := Zlr.args (ad := ad) r (if v.category = 2 then i + 2 else i + 1)
    have e : (bif Nat.beq (cz ad v).1 1 then i + 2 else i + 1) = (if v.category = 2 then i + 2 else i + 1) := by
      rw [cz_t]
      by_cases c : v.category = 2
      · rw [if_pos c, c]; rfl
      · rw [if_neg c, bb_nb c]; rfl
    have g : i + 1 ≤ (if v.category = 2 then i + 2 else i + 1) := by split <;> omega
    refine ⟨fun q hq => ?_, fun q hq => ?_⟩
    · have hq : q ∈ (i, v) :: lv_args (if v.category = 2 then i + 2 else i + 1) r := hq
      show zlk ((i, cz ad v) :: z_locs (bif Nat.beq (cz ad v).1 1 then i + 2 else i + 1) (r.map (cz ad))) q.1 = _
      rw [zlk_cons]
      rcases List.mem_cons.mp hq with rfl | hq
      · show (bif Nat.beq i i then _ else _) = _
        rw [bb_rf]; rfl
      · have := B q hq
        show (bif Nat.beq i q.1 then _ else _) = _
        rw [bb_nb (show i ≠ q.1 by omega), e]
        exact A q hq
    · have hq : q ∈ (i, v) :: lv_args (if v.category = 2 then i + 2 else i + 1) r := hq
      rcases List.mem_cons.mp hq with rfl | hq
      · exact Nat.le_refl _
      · have := B q hq
        omega
theorem rtz_of {C : MR} {pc : Nat} {st : List Value} (h : ∃ ins, decode C.2.1 pc = .ok (ins, 1) ∧ rokc C.2.2.2.1 ins st) : rtz C pc (st.map (cz ad)) := by
  obtain ⟨ins, hd, hk⟩ := h
  refine ⟨ins, hd, ?_⟩
  cases ins <;> first | exact hk.elim | skip
  case ireturn =>
    obtain ⟨x, rfl, e⟩ := hk
    have := i32_rng x
    refine ⟨_, rfl, ⟨by omega, by omega⟩, ?_⟩
    rcases e with e | ⟨e, e2⟩ | ⟨e, -⟩ | ⟨e, -⟩
    · exact Or.inl e
    · exact Or.inr (Or.inl ⟨e, e2⟩)
    · exact Or.inr (Or.inr (Or.inl e))
    · exact Or.inr (Or.inr (Or.inr e))
  case lreturn =>
    obtain ⟨x, rfl, e⟩ := hk
    have := i64_rng x
    exact ⟨_, rfl, ⟨by omega, by omega⟩, e⟩
  case areturn => obtain ⟨x, rfl, e⟩ := hk; exact ⟨_, rfl, e⟩
  case return_ => obtain ⟨rfl, e⟩ := hk; exact ⟨rfl, e⟩
theorem zq_call {a b : Nat} {C : MR} {as rest : List Value} (hC : mth a b = some C) (hdg : Dg M pc ins len (a :: b :: lk)) (ho : ax_op ins = 21) (h9 : Nat.beq a 901 = false ∧ Nat.beq a 902 = false ∧ Nat.beq a 903 = false) (hna : as.length = C.2.2.2.2.2.1)
    {pcr : Nat} {hr : PH} {lvr : LVs} {str : List Value} (hW : ZQ sb sp ρ0 ad sh C 0 h (lv_args 0 as) [] pcr hr lvr str) (hR : ∃ ins, decode C.2.1 pcr = .ok (ins, 1) ∧ rokc C.2.2.2.1 ins str) (K : ZQ sb sp ρ0 ad sh M (pc + len) hr lv (str ++ rest) pc' h' lv' st') : ZQ sb sp ρ0 ad sh M pc h lv (as.reverse ++ rest) pc' h' lv' st' := by
  intro hi zl hz
  obtain ⟨f1, n1, zl1, a1, -⟩ := hW hi _ (Zlr.args as 0).1
  obtain ⟨f2, n2, zl2, a2, b2⟩ := K hi zl hz
  have CC : Zc (zp0 sb sp ρ0 sh) (max (f1 + 1) f2) C h (as.map (cz ad)) hr (str.map (cz ad)) := Zc_le (Nat.le_max_left _ _) ⟨mth_gd hC, n1, pcr, zl1, a1, rtz_of hR⟩
  refine ⟨max (f1 + 1) f2, n2 + 1, zl2, ⟨(pc + len, hr, zl, (str ++ rest).map (cz ad)), ⟨(pc, ax_op ins, len, a :: b :: lk, ins), hdg.2, rfl, ?_⟩, Zn_le (Nat.le_max_right _ _) a2⟩, b2⟩
  rw [ho]
  show (bif Nat.beq a 901 then _ else bif Nat.beq a 902 then _ else bif Nat.beq a 903 then _ else _)
  rw [h9.1, h9.2.1, h9.2.2]
  refine obr_t hC ?_
  have e : z_args C.2.2.2.2.2.1 ((as.reverse ++ rest).map (cz ad)) [] = some (as.map (cz ad), rest.map (cz ad)) := by
    rw [List.map_append, ← hna, show as.length = (as.reverse.map (cz ad)).length by simp, z_args_ok, List.append_nil]
    simp
  refine obr_t e ?_
  exact ⟨hr, str.map (cz ad), CC, by rw [List.map_append]⟩
theorem zq_rf : ZQ sb sp ρ0 ad sh M pc h lv st pc h lv st := fun _ zl hz => ⟨0, 0, zl, rfl, hz⟩
theorem zq_bd (K : ZQ sb sp ρ0 ad sh M pc h lv st pc1 h1 lv1 st1) (KK : ZQ sb sp ρ0 ad sh M pc1 h1 lv1 st1 pc' h' lv' st') : ZQ sb sp ρ0 ad sh M pc h lv st pc' h' lv' st' := by
  intro hi zl hz
  obtain ⟨f1, n1, zl1, a1, b1⟩ := K hi zl hz
  obtain ⟨f2, n2, zl2, a2, b2⟩ := KK hi zl1 b1
  exact ⟨max f1 f2, n1 + n2, zl2, Zn_add n1 (Zn_le (Nat.le_max_left _ _) a1) (Zn_le (Nat.le_max_right _ _) a2), b2⟩
theorem zq_less (hs : ∀ q ∈ lv1, q ∈ lv) (K : ZQ sb sp ρ0 ad sh M pc h lv1 st pc' h' lv' st') : ZQ sb sp ρ0 ad sh M pc h lv st pc' h' lv' st' := fun hi zl hz => K hi zl (fun q hq => hz q (hs q hq))
end ZX
end
section
/-! 25b.wpd -/
/-! THE MACHINE BY STEPS, 4: a walk has one end -/
section WPS
variable (sb : Nat → List Nat) (dC : Nat → ClassId) (dI : Nat → Nat → Nat) (dA : Nat → ClassId) (sp : Nat → Nat) (H0 : Heap) (l : Launch) (ρ0 : List Nat) (ad : Nat → Nat) (rf : Nat → Nat → Option Nat) (sh : SHP)
/-- one state -/
def one (pc : Nat) (h : PH) (lv : LVs) (st : List Value) : PO := fun pc' h' lv' st' => pc' = pc ∧ h' = h ∧ lv' = lv ∧ st' = st
def Wp (M : MR) (pc : Nat) (h : PH) (lv : LVs) (st : List Value) (P : PO) : Prop := ∃ pc' h' lv' st', P pc' h' lv' st' ∧ Wp0 sb dC dI dA sp H0 l ρ0 ad rf sh M pc h (lvt sp lv) (st.map (tv sp)) (one pc' h' (lvt sp lv') (st'.map (tv sp))) ∧ ZQ sb sp ρ0 ad sh M pc h lv st pc' h' lv' st'
end WPS
theorem tv_pvt (sp : Nat → Nat) : ∀ (t n : Nat), tv sp (pvt t n) = pv sp t n
  | 0, _ => rfl
  | 1, _ => rfl
  | _ + 2, _ => rfl
theorem ho_ld (sp : Nat → Nat) {o : Nat} {V : Value} (h : (o = 1 ∧ ∃ x, V = .int x) ∨ (o = 2 ∧ ∃ x, V = .long x) ∨ (o = 3 ∧ isRf V)) : (o = 1 ∧ ∃ x, tv sp V = .int x) ∨ (o = 2 ∧ ∃ x, tv sp V = .long x) ∨ (o = 3 ∧ ∃ x, tv sp V = .ref x) := by
  rcases h with ⟨e, x, rfl⟩ | ⟨e, x, rfl⟩ | ⟨e, h⟩
  · exact Or.inl ⟨e, x, rfl⟩
  · exact Or.inr (Or.inl ⟨e, x, rfl⟩)
  · exact Or.inr (Or.inr ⟨e, h.tv sp⟩)
theorem ho_st (sp : Nat → Nat) {o : Nat} {V : Value} (h : (o = 4 ∧ ∃ x, V = .int x) ∨ (o = 6 ∧ isRf V)) : (o = 4 ∧ ∃ x, tv sp V = .int x) ∨ (o = 6 ∧ ∃ x, tv sp V = .ref x) := by
  rcases h with ⟨e, x, rfl⟩ | ⟨e, h⟩
  · exact Or.inl ⟨e, x, rfl⟩
  · exact Or.inr ⟨e, h.tv sp⟩
theorem fok_tv (sp : Nat → Nat) {tc : Nat} {V : Value} {x : Int} (h : fok tc V x) : fok tc (tv sp V) x := by
  match tc, h with
  | 0, h => obtain ⟨y, rfl, e⟩ := h; exact ⟨y, rfl, e⟩
  | 1, h => obtain ⟨y, rfl, e⟩ := h; exact ⟨y, rfl, e⟩
  | 2, h => obtain ⟨y, rfl, e⟩ := h; exact ⟨y, rfl, e⟩
  | n + 3, h => exact h.elim
theorem rokc_tv (sp : Nat → Nat) {ret : Option FieldType} {ins : Instr} {st : List Value} (h : rokc ret ins st) : rokc ret ins (st.map (tv sp)) := by
  cases ins <;> first | exact h.elim | skip
  case ireturn => obtain ⟨x, rfl, e⟩ := h; exact ⟨x, rfl, e⟩
  case lreturn => obtain ⟨x, rfl, e⟩ := h; exact ⟨x, rfl, e⟩
  case areturn => obtain ⟨x, rfl, e⟩ := h; exact ⟨x, rfl, e⟩
  case return_ => obtain ⟨rfl, e⟩ := h; exact ⟨rfl, e⟩
def rcvt (ad : Nat → Nat) (sh : SHP) (ci : Nat) (as : List Value) : Prop := (ci < 100 ∧ ∃ c0 n fs, as.head? = some (.ref (ad c0)) ∧ sh[c0]? = some (ci, n, fs)) ∨ (ci = 200 ∧ ∃ x, (x = 1 ∨ x = 3) ∧ as.head? = some (.retAddr x))
theorem rcvt.tv {ad : Nat → Nat} {sh : SHP} {ci : Nat} {as : List Value} (h : rcvt ad sh ci as) (sp : Nat → Nat) : rcvc sp ad sh ci (as.map (tv sp)) := by
  rcases h with ⟨a, c0, n, fs, b, d⟩ | ⟨a, x, b, d⟩
  · exact Or.inl ⟨a, c0, n, fs, by rw [List.head?_map, b]; rfl, d⟩
  · exact Or.inr ⟨a, x, b, by rw [List.head?_map, d]; rfl⟩
section WPT
variable {sb : Nat → List Nat} {dC : Nat → ClassId} {dI : Nat → Nat → Nat} {dA : Nat → ClassId} {sp : Nat → Nat} {H0 : Heap} {l : Launch} {ρ0 : List Nat} {ad : Nat → Nat} {rf : Nat → Nat → Option Nat} {sh : SHP}
variable {M : MR} {pc len : Nat} {ins : Instr} {lk : List Nat} {h : PH} {lv : LVs} {st : List Value} {P P' : PO}
theorem wp_rf (hP : P pc h lv st) : Wp sb dC dI dA sp H0 l ρ0 ad rf sh M pc h lv st P := ⟨pc, h, lv, st, hP, w0_rf ⟨rfl, rfl, rfl, rfl⟩, zq_rf⟩
theorem wp_bd (K : Wp sb dC dI dA sp H0 l ρ0 ad rf sh M pc h lv st P') (KK : ∀ pc' h' lv' st', P' pc' h' lv' st' → Wp sb dC dI dA sp H0 l ρ0 ad rf sh M pc' h' lv' st' P) : Wp sb dC dI dA sp H0 l ρ0 ad rf sh M pc h lv st P := by
  obtain ⟨pc1, h1, lv1, st1, p1, K1, Z1⟩ := K
  obtain ⟨pc2, h2, lv2, st2, p2, K2, Z2⟩ := KK pc1 h1 lv1 st1 p1
  refine ⟨pc2, h2, lv2, st2, p2, w0_bd K1 (fun pc' h' lv' st' q => ?_), zq_bd Z1 Z2⟩
  obtain ⟨rfl, rfl, rfl, rfl⟩ := q
  exact K2
theorem wp_push {t n : Nat} (hdg : Dg M pc ins len (t :: n :: lk)) (hlen : len = ax_len ins) (hlk : lok mth M pc ins (t :: n :: lk) = true) (ho : ax_op ins = 0) (K : Wp sb dC dI dA sp H0 l ρ0 ad rf sh M (pc + len) h lv (pvt t n :: st) P) : Wp sb dC dI dA sp H0 l ρ0 ad rf sh M pc h lv st P := by
  obtain ⟨pc1, h1', lv1, st1, p1, K1, Z1⟩ := K
  rw [List.map_cons, tv_pvt] at K1
  exact ⟨pc1, h1', lv1, st1, p1, w0_push hdg.1 hlen hlk ho K1, zq_push hdg hlk ho Z1⟩
theorem wp_load {k : Nat} {V : Value} (hdg : Dg M pc ins len (k :: lk)) (hlen : len = ax_len ins) (hlk : lok mth M pc ins (k :: lk) = true) (hV : (k, V) ∈ lv) (ho : (ax_op ins = 1 ∧ ∃ x, V = .int x) ∨ (ax_op ins = 2 ∧ ∃ x, V = .long x) ∨ (ax_op ins = 3 ∧ isRf V)) (K : Wp sb dC dI dA sp H0 l ρ0 ad rf sh M (pc + len) h lv (V :: st) P) : Wp sb dC dI dA sp H0 l ρ0 ad rf sh M pc h lv st P := by
  obtain ⟨pc1, h1', lv1, st1, p1, K1, Z1⟩ := K
  exact ⟨pc1, h1', lv1, st1, p1, w0_load hdg.1 hlen hlk (lvt_mem hV) (ho_ld sp ho) K1, zq_load hdg hV ho Z1⟩
theorem wp_sto1 {k : Nat} {V : Value} (hdg : Dg M pc ins len (k :: lk)) (hlen : len = ax_len ins) (hlk : lok mth M pc ins (k :: lk) = true) (ho : (ax_op ins = 4 ∧ ∃ x, V = .int x) ∨ (ax_op ins = 6 ∧ isRf V)) (K : Wp sb dC dI dA sp H0 l ρ0 ad rf sh M (pc + len) h ((k, V) :: lv.filter (pk1 k)) st P) : Wp sb dC dI dA sp H0 l ρ0 ad rf sh M pc h lv (V :: st) P := by
  obtain ⟨pc1, h1', lv1, st1, p1, K1, Z1⟩ := K
  rw [show lvt sp ((k, V) :: lv.filter (pk1 k)) = (k, tv sp V) :: (lvt sp lv).filter (pk1 k) from by rw [lvt_flt (tv_p1 sp k)]; rfl] at K1
  exact ⟨pc1, h1', lv1, st1, p1, w0_sto1 hdg.1 hlen hlk (ho_st sp ho) K1, zq_sto1 hdg ho Z1⟩
theorem wp_sto2 {k : Nat} {x : Int64} (hdg : Dg M pc ins len (k :: lk)) (hlen : len = ax_len ins) (hlk : lok mth M pc ins (k :: lk) = true) (ho : ax_op ins = 5) (K : Wp sb dC dI dA sp H0 l ρ0 ad rf sh M (pc + len) h ((k, .long x) :: lv.filter (pk2 k)) st P) : Wp sb dC dI dA sp H0 l ρ0 ad rf sh M pc h lv (.long x :: st) P := by
  obtain ⟨pc1, h1', lv1, st1, p1, K1, Z1⟩ := K
  rw [show lvt sp ((k, .long x) :: lv.filter (pk2 k)) = (k, .long x) :: (lvt sp lv).filter (pk2 k) from by rw [lvt_flt (tv_p2 sp k)]; rfl] at K1
  exact ⟨pc1, h1', lv1, st1, p1, w0_sto2 hdg.1 hlen hlk ho K1, zq_sto2 hdg ho Z1⟩
theorem wp_iinc {k n : Nat} {x : Int32} (hdg : Dg M pc ins len (k :: n :: lk)) (hlen : len = ax_len ins) (hlk : lok mth M pc ins (k :: n :: lk) = true) (ho : ax_op ins = 7) (hV : (k, .int x) ∈ lv) (K : Wp sb dC dI dA sp H0 l ρ0 ad rf sh M (pc + len) h ((k, .int (x + nI n)) :: lv.filter (pk1 k)) st P) : Wp sb dC dI dA sp H0 l ρ0 ad rf sh M pc h lv st P := by
  obtain ⟨pc1, h1', lv1, st1, p1, K1, Z1⟩ := K
  rw [show lvt sp ((k, .int (x + nI n)) :: lv.filter (pk1 k)) = (k, .int (x + nI n)) :: (lvt sp lv).filter (pk1 k) from by rw [lvt_flt (tv_p1 sp k)]; rfl] at K1
  exact ⟨pc1, h1', lv1, st1, p1, w0_iinc hdg.1 hlen hlk ho (lvt_mem hV) K1, zq_iinc hdg ho hV Z1⟩
theorem wp_ib {op : Nat} {x y : Int32} (hdg : Dg M pc ins len lk) (hlen : len = ax_len ins) (ho : ax_op ins = op + 26) (ho2 : op < 9) (K : Wp sb dC dI dA sp H0 l ρ0 ad rf sh M (pc + len) h lv (.int (ax_fop op x y) :: st) P) : Wp sb dC dI dA sp H0 l ρ0 ad rf sh M pc h lv (.int y :: .int x :: st) P := by
  obtain ⟨pc1, h1', lv1, st1, p1, K1, Z1⟩ := K
  exact ⟨pc1, h1', lv1, st1, p1, w0_ib hdg.1 hlen ho ho2 K1, zq_ib hdg ho ho2 Z1⟩
theorem wp_id {op : Nat} {x y : Int32} (hdg : Dg M pc ins len lk) (hlen : len = ax_len ins) (ho : ax_op ins = op + 35) (ho2 : op < 2) (hy : ¬ y = 0) (K : Wp sb dC dI dA sp H0 l ρ0 ad rf sh M (pc + len) h lv (.int (if op = 0 then x / y else x - x / y * y) :: st) P) : Wp sb dC dI dA sp H0 l ρ0 ad rf sh M pc h lv (.int y :: .int x :: st) P := by
  obtain ⟨pc1, h1', lv1, st1, p1, K1, Z1⟩ := K
  exact ⟨pc1, h1', lv1, st1, p1, w0_id hdg.1 hlen ho ho2 hy K1, zq_id hdg ho ho2 hy Z1⟩
theorem wp_lb {op : Nat} {x y : Int64} (hdg : Dg M pc ins len lk) (hlen : len = ax_len ins) (ho : ax_op ins = op + 37) (ho2 : op < 5) (K : Wp sb dC dI dA sp H0 l ρ0 ad rf sh M (pc + len) h lv (.long (ax_flo op x y) :: st) P) : Wp sb dC dI dA sp H0 l ρ0 ad rf sh M pc h lv (.long y :: .long x :: st) P := by
  obtain ⟨pc1, h1', lv1, st1, p1, K1, Z1⟩ := K
  exact ⟨pc1, h1', lv1, st1, p1, w0_lb hdg.1 hlen ho ho2 K1, zq_lb hdg ho ho2 Z1⟩
theorem wp_ld {op : Nat} {x y : Int64} (hdg : Dg M pc ins 1 lk) (ho : ax_op ins = op + 60) (ho2 : op < 2) (hy : ¬ y = 0) (K : Wp sb dC dI dA sp H0 l ρ0 ad rf sh M (pc + 1) h lv (.long (if op = 0 then x / y else x - x / y * y) :: st) P) : Wp sb dC dI dA sp H0 l ρ0 ad rf sh M pc h lv (.long y :: .long x :: st) P := by
  obtain ⟨pc1, h1', lv1, st1, p1, K1, Z1⟩ := K
  exact ⟨pc1, h1', lv1, st1, p1, w0_ld hdg.1 ho ho2 hy K1, zq_ld hdg ho ho2 hy Z1⟩
theorem wp_lshl {x : Int64} {y : Int32} (hdg : Dg M pc ins len lk) (hlen : len = ax_len ins) (ho : ax_op ins = 42) (K : Wp sb dC dI dA sp H0 l ρ0 ad rf sh M (pc + len) h lv (.long (x <<< (y.toInt64 &&& 63)) :: st) P) : Wp sb dC dI dA sp H0 l ρ0 ad rf sh M pc h lv (.int y :: .long x :: st) P := by
  obtain ⟨pc1, h1', lv1, st1, p1, K1, Z1⟩ := K
  exact ⟨pc1, h1', lv1, st1, p1, w0_lshl hdg.1 hlen ho K1, zq_lshl hdg ho Z1⟩
theorem wp_lcmp {x y : Int64} (hdg : Dg M pc ins len lk) (hlen : len = ax_len ins) (ho : ax_op ins = 43) (K : Wp sb dC dI dA sp H0 l ρ0 ad rf sh M (pc + len) h lv (.int (lg_cmp x y) :: st) P) : Wp sb dC dI dA sp H0 l ρ0 ad rf sh M pc h lv (.long y :: .long x :: st) P := by
  obtain ⟨pc1, h1', lv1, st1, p1, K1, Z1⟩ := K
  exact ⟨pc1, h1', lv1, st1, p1, w0_lcmp hdg.1 hlen ho K1, zq_lcmp hdg ho Z1⟩
theorem wp_un {op : Nat} {x : Int32} (hdg : Dg M pc ins len lk) (hlen : len = ax_len ins) (ho : ax_op ins = op + 44) (ho2 : op < 4) (K : Wp sb dC dI dA sp H0 l ρ0 ad rf sh M (pc + len) h lv (.int (ax_fu op x) :: st) P) : Wp sb dC dI dA sp H0 l ρ0 ad rf sh M pc h lv (.int x :: st) P := by
  obtain ⟨pc1, h1', lv1, st1, p1, K1, Z1⟩ := K
  exact ⟨pc1, h1', lv1, st1, p1, w0_un hdg.1 hlen ho ho2 K1, zq_un hdg ho ho2 Z1⟩
theorem wp_i2l {x : Int32} (hdg : Dg M pc ins len lk) (hlen : len = ax_len ins) (ho : ax_op ins = 48) (K : Wp sb dC dI dA sp H0 l ρ0 ad rf sh M (pc + len) h lv (.long x.toInt64 :: st) P) : Wp sb dC dI dA sp H0 l ρ0 ad rf sh M pc h lv (.int x :: st) P := by
  obtain ⟨pc1, h1', lv1, st1, p1, K1, Z1⟩ := K
  exact ⟨pc1, h1', lv1, st1, p1, w0_i2l hdg.1 hlen ho K1, zq_i2l hdg ho Z1⟩
theorem wp_l2i {x : Int64} (hdg : Dg M pc ins len lk) (hlen : len = ax_len ins) (ho : ax_op ins = 49) (K : Wp sb dC dI dA sp H0 l ρ0 ad rf sh M (pc + len) h lv (.int x.toInt32 :: st) P) : Wp sb dC dI dA sp H0 l ρ0 ad rf sh M pc h lv (.long x :: st) P := by
  obtain ⟨pc1, h1', lv1, st1, p1, K1, Z1⟩ := K
  exact ⟨pc1, h1', lv1, st1, p1, w0_l2i hdg.1 hlen ho K1, zq_l2i hdg ho Z1⟩
theorem wp_dup {V : Value} (hdg : Dg M pc ins len lk) (hlen : len = ax_len ins) (ho : ax_op ins = 50) (hc : V.category = 1) (K : Wp sb dC dI dA sp H0 l ρ0 ad rf sh M (pc + len) h lv (V :: V :: st) P) : Wp sb dC dI dA sp H0 l ρ0 ad rf sh M pc h lv (V :: st) P := by
  obtain ⟨pc1, h1', lv1, st1, p1, K1, Z1⟩ := K
  exact ⟨pc1, h1', lv1, st1, p1, w0_dup hdg.1 hlen ho (by rw [tv_cat]; exact hc) K1, zq_dup hdg ho hc Z1⟩
theorem wp_dup2a {V : Value} (hdg : Dg M pc ins len lk) (hlen : len = ax_len ins) (ho : ax_op ins = 51) (hc : V.category = 2) (K : Wp sb dC dI dA sp H0 l ρ0 ad rf sh M (pc + len) h lv (V :: V :: st) P) : Wp sb dC dI dA sp H0 l ρ0 ad rf sh M pc h lv (V :: st) P := by
  obtain ⟨pc1, h1', lv1, st1, p1, K1, Z1⟩ := K
  exact ⟨pc1, h1', lv1, st1, p1, w0_dup2a hdg.1 hlen ho (by rw [tv_cat]; exact hc) K1, zq_dup2a hdg ho hc Z1⟩
theorem wp_dup2b {V U : Value} (hdg : Dg M pc ins len lk) (hlen : len = ax_len ins) (ho : ax_op ins = 51) (hc : V.category = 1) (hc2 : U.category = 1) (K : Wp sb dC dI dA sp H0 l ρ0 ad rf sh M (pc + len) h lv (V :: U :: V :: U :: st) P) : Wp sb dC dI dA sp H0 l ρ0 ad rf sh M pc h lv (V :: U :: st) P := by
  obtain ⟨pc1, h1', lv1, st1, p1, K1, Z1⟩ := K
  exact ⟨pc1, h1', lv1, st1, p1, w0_dup2b hdg.1 hlen ho (by rw [tv_cat]; exact hc) (by rw [tv_cat]; exact hc2) K1, zq_dup2b hdg ho hc hc2 Z1⟩
theorem wp_pop {V : Value} (hdg : Dg M pc ins len lk) (hlen : len = ax_len ins) (ho : ax_op ins = 52) (hc : V.category = 1) (K : Wp sb dC dI dA sp H0 l ρ0 ad rf sh M (pc + len) h lv st P) : Wp sb dC dI dA sp H0 l ρ0 ad rf sh M pc h lv (V :: st) P := by
  obtain ⟨pc1, h1', lv1, st1, p1, K1, Z1⟩ := K
  exact ⟨pc1, h1', lv1, st1, p1, w0_pop hdg.1 hlen ho (by rw [tv_cat]; exact hc) K1, zq_pop hdg ho hc Z1⟩
theorem wp_pop2 {V : Value} (hdg : Dg M pc ins 1 lk) (ho : ax_op ins = 59) (hc : V.category = 2) (K : Wp sb dC dI dA sp H0 l ρ0 ad rf sh M (pc + 1) h lv st P) : Wp sb dC dI dA sp H0 l ρ0 ad rf sh M pc h lv (V :: st) P := by
  obtain ⟨pc1, h1', lv1, st1, p1, K1, Z1⟩ := K
  exact ⟨pc1, h1', lv1, st1, p1, w0_pop2 hdg.1 ho (by rw [tv_cat]; exact hc) K1, zq_pop2 hdg ho hc Z1⟩
theorem wp_icmp {t k : Nat} {x y : Int32} (hdg : Dg M pc ins len (t :: k :: lk)) (hlen : len = ax_len ins) (hlk : lok mth M pc ins (t :: k :: lk) = true) (ho : ax_op ins = 18) (KT : ax_cp k x y → Wp sb dC dI dA sp H0 l ρ0 ad rf sh M t h lv st P) (KF : ¬ ax_cp k x y → Wp sb dC dI dA sp H0 l ρ0 ad rf sh M (pc + len) h lv st P) : Wp sb dC dI dA sp H0 l ρ0 ad rf sh M pc h lv (.int y :: .int x :: st) P := by
  by_cases c : ax_cp k x y
  · obtain ⟨pc1, h1', lv1, st1, p1, K1, Z1⟩ := KT c
    exact ⟨pc1, h1', lv1, st1, p1, w0_icmp hdg.1 hlen hlk ho (fun _ => K1) (fun z => absurd c z), zq_icmpT hdg ho c Z1⟩
  · obtain ⟨pc1, h1', lv1, st1, p1, K1, Z1⟩ := KF c
    exact ⟨pc1, h1', lv1, st1, p1, w0_icmp hdg.1 hlen hlk ho (fun z => absurd z c) (fun _ => K1), zq_icmpF hdg ho c Z1⟩
theorem wp_ifc {t k : Nat} {x : Int32} (hdg : Dg M pc ins len (t :: k :: lk)) (hlen : len = ax_len ins) (hlk : lok mth M pc ins (t :: k :: lk) = true) (ho : ax_op ins = 19) (KT : ax_cp k x 0 → Wp sb dC dI dA sp H0 l ρ0 ad rf sh M t h lv st P) (KF : ¬ ax_cp k x 0 → Wp sb dC dI dA sp H0 l ρ0 ad rf sh M (pc + len) h lv st P) : Wp sb dC dI dA sp H0 l ρ0 ad rf sh M pc h lv (.int x :: st) P := by
  by_cases c : ax_cp k x 0
  · obtain ⟨pc1, h1', lv1, st1, p1, K1, Z1⟩ := KT c
    exact ⟨pc1, h1', lv1, st1, p1, w0_ifc hdg.1 hlen hlk ho (fun _ => K1) (fun z => absurd c z), zq_ifcT hdg ho c Z1⟩
  · obtain ⟨pc1, h1', lv1, st1, p1, K1, Z1⟩ := KF c
    exact ⟨pc1, h1', lv1, st1, p1, w0_ifc hdg.1 hlen hlk ho (fun z => absurd z c) (fun _ => K1), zq_ifcF hdg ho c Z1⟩
theorem wp_goto {t : Nat} (hdg : Dg M pc ins len (t :: lk)) (hlen : len = ax_len ins) (hlk : lok mth M pc ins (t :: lk) = true) (ho : ax_op ins = 20) (K : Wp sb dC dI dA sp H0 l ρ0 ad rf sh M t h lv st P) : Wp sb dC dI dA sp H0 l ρ0 ad rf sh M pc h lv st P := by
  obtain ⟨pc1, h1', lv1, st1, p1, K1, Z1⟩ := K
  exact ⟨pc1, h1', lv1, st1, p1, w0_goto hdg.1 hlen hlk ho K1, zq_goto hdg ho Z1⟩
theorem wp_getf {ci k c0 n : Nat} {fs : List (Nat × Nat)} {f : Nat × Nat} (hdg : Dg M pc ins len (ci :: k :: lk)) (hlen : len = ax_len ins) (hlk : lok mth M pc ins (ci :: k :: lk) = true) (ho : ax_op ins = 8) (hsh : sh[c0]? = some (ci, n, fs)) (hci : ci < 100) (hf : fs[k]? = some f) (hfr : (f.1 = 0 ∧ R32 (h c0 k)) ∨ (f.1 = 1 ∧ R64 (h c0 k)) ∨ f.1 = 2) (K : Wp sb dC dI dA sp H0 l ρ0 ad rf sh M (pc + len) h lv (pf ad (h c0) k f :: st) P) : Wp sb dC dI dA sp H0 l ρ0 ad rf sh M pc h lv (.ref (ad c0) :: st) P := by
  obtain ⟨pc1, h1', lv1, st1, p1, K1, Z1⟩ := K
  rw [List.map_cons, tv_pf] at K1
  exact ⟨pc1, h1', lv1, st1, p1, w0_getf hdg.1 hlen hlk ho hsh hci hf K1, zq_getf hdg ho hsh hci hf hfr Z1⟩
theorem wp_getS {k x : Nat} (hdg : Dg M pc ins len (200 :: k :: lk)) (hlen : len = ax_len ins) (hlk : lok mth M pc ins (200 :: k :: lk) = true) (ho : ax_op ins = 8) (hxs : x = 1 ∨ x = 3) (K : Wp sb dC dI dA sp H0 l ρ0 ad rf sh M (pc + len) h lv ((if k = 0 then .retAddr (x + 1) else .int 0) :: st) P) : Wp sb dC dI dA sp H0 l ρ0 ad rf sh M pc h lv (.retAddr x :: st) P := by
  obtain ⟨pc1, h1', lv1, st1, p1, K1, Z1⟩ := K
  rw [List.map_cons, show tv sp (if k = 0 then .retAddr (x + 1) else .int 0) = (if k = 0 then .ref (sp (x + 1)) else .int 0) from by split <;> rfl] at K1
  exact ⟨pc1, h1', lv1, st1, p1, w0_getS hdg.1 hlen hlk ho hxs K1, zq_getS hdg ho hxs Z1⟩
theorem wp_putf {ci k tc c0 n : Nat} {x : Int} {V : Value} {fs : List (Nat × Nat)} {f : Nat × Nat} (hdg : Dg M pc ins len (ci :: k :: tc :: lk)) (hlen : len = ax_len ins) (hlk : lok mth M pc ins (ci :: k :: tc :: lk) = true) (ho : ax_op ins = 9) (hsh : sh[c0]? = some (ci, n, fs)) (hci : ci < 100) (hf : fs[k]? = some f) (hft : (f.1 = 0 ∧ (tc = 0 ∨ tc = 1)) ∨ (f.1 = 1 ∧ tc = 2)) (hV : fok tc V x) (hni : M.1.name ≠ "<init>") (K : Wp sb dC dI dA sp H0 l ρ0 ad rf sh M (pc + len) (uph h c0 k x) lv st P) : Wp sb dC dI dA sp H0 l ρ0 ad rf sh M pc h lv (V :: .ref (ad c0) :: st) P := by
  obtain ⟨pc1, h1', lv1, st1, p1, K1, Z1⟩ := K
  exact ⟨pc1, h1', lv1, st1, p1, w0_putf hdg.1 hlen hlk ho hsh hci hf hft (fok_tv sp hV) hni K1, zq_putf hdg ho hsh hci hV Z1⟩
theorem wp_iald {c0 n : Nat} {fs : List (Nat × Nat)} {i : Int32} (hdg : Dg M pc .iaload 1 lk) (hsh : sh[c0]? = some (100, n, fs)) (h1 : 0 ≤ i.toInt) (h2 : i.toInt < n) (hrg : R32 (h c0 i.toInt.toNat)) (K : Wp sb dC dI dA sp H0 l ρ0 ad rf sh M (pc + 1) h lv (.int (Int32.ofInt (h c0 i.toInt.toNat)) :: st) P) : Wp sb dC dI dA sp H0 l ρ0 ad rf sh M pc h lv (.int i :: .ref (ad c0) :: st) P := by
  obtain ⟨pc1, h1', lv1, st1, p1, K1, Z1⟩ := K
  exact ⟨pc1, h1', lv1, st1, p1, w0_iald hdg.1 hsh h1 h2 K1, zq_iald hdg hsh h1 h2 hrg Z1⟩
theorem wp_bald {c0 n : Nat} {fs : List (Nat × Nat)} {i : Int32} (hdg : Dg M pc .baload 1 lk) (hsh : sh[c0]? = some (102, n, fs)) (h1 : 0 ≤ i.toInt) (h2 : i.toInt < n) (hrg : R32 (h c0 i.toInt.toNat)) (K : Wp sb dC dI dA sp H0 l ρ0 ad rf sh M (pc + 1) h lv (.int (Int32.ofInt (h c0 i.toInt.toNat)) :: st) P) : Wp sb dC dI dA sp H0 l ρ0 ad rf sh M pc h lv (.int i :: .ref (ad c0) :: st) P := by
  obtain ⟨pc1, h1', lv1, st1, p1, K1, Z1⟩ := K
  exact ⟨pc1, h1', lv1, st1, p1, w0_bald hdg.1 hsh h1 h2 K1, zq_bald hdg hsh h1 h2 hrg Z1⟩
theorem wp_lald {c0 n : Nat} {fs : List (Nat × Nat)} {i : Int32} (hdg : Dg M pc .laload 1 lk) (hsh : sh[c0]? = some (101, n, fs)) (h1 : 0 ≤ i.toInt) (h2 : i.toInt < n) (hrg : R64 (h c0 i.toInt.toNat)) (K : Wp sb dC dI dA sp H0 l ρ0 ad rf sh M (pc + 1) h lv (.long (Int64.ofInt (h c0 i.toInt.toNat)) :: st) P) : Wp sb dC dI dA sp H0 l ρ0 ad rf sh M pc h lv (.int i :: .ref (ad c0) :: st) P := by
  obtain ⟨pc1, h1', lv1, st1, p1, K1, Z1⟩ := K
  exact ⟨pc1, h1', lv1, st1, p1, w0_lald hdg.1 hsh h1 h2 K1, zq_lald hdg hsh h1 h2 hrg Z1⟩
theorem wp_aald {c0 n kd : Nat} {fs : List (Nat × Nat)} {f : Nat × Nat} {i : Int32} (hdg : Dg M pc .aaload 1 lk) (hsh : sh[c0]? = some (kd, n, fs)) (hk1 : 103 ≤ kd) (hk2 : kd ≤ 105) (h1 : 0 ≤ i.toInt) (h2 : i.toInt < n) (hfi : fs[i.toInt.toNat]? = some f) (hr : rf c0 i.toInt.toNat = some (ad f.2)) (K : Wp sb dC dI dA sp H0 l ρ0 ad rf sh M (pc + 1) h lv (.ref (ad f.2) :: st) P) : Wp sb dC dI dA sp H0 l ρ0 ad rf sh M pc h lv (.int i :: .ref (ad c0) :: st) P := by
  obtain ⟨pc1, h1', lv1, st1, p1, K1, Z1⟩ := K
  exact ⟨pc1, h1', lv1, st1, p1, w0_aald hdg.1 hsh hk1 hk2 h1 h2 hr K1, zq_aald hdg hsh hk1 h1 hfi Z1⟩
theorem wp_iast {c0 n : Nat} {fs : List (Nat × Nat)} {i x : Int32} (hdg : Dg M pc .iastore 1 lk) (hsh : sh[c0]? = some (100, n, fs)) (h1 : 0 ≤ i.toInt) (h2 : i.toInt < n) (K : Wp sb dC dI dA sp H0 l ρ0 ad rf sh M (pc + 1) (uph h c0 i.toInt.toNat x.toInt) lv st P) : Wp sb dC dI dA sp H0 l ρ0 ad rf sh M pc h lv (.int x :: .int i :: .ref (ad c0) :: st) P := by
  obtain ⟨pc1, h1', lv1, st1, p1, K1, Z1⟩ := K
  exact ⟨pc1, h1', lv1, st1, p1, w0_iast hdg.1 hsh h1 h2 K1, zq_iast hdg hsh h1 h2 Z1⟩
theorem wp_bast {c0 n : Nat} {fs : List (Nat × Nat)} {i x : Int32} (hdg : Dg M pc .bastore 1 lk) (hsh : sh[c0]? = some (102, n, fs)) (h1 : 0 ≤ i.toInt) (h2 : i.toInt < n) (h3 : -128 ≤ x.toInt) (h4 : x.toInt ≤ 127) (K : Wp sb dC dI dA sp H0 l ρ0 ad rf sh M (pc + 1) (uph h c0 i.toInt.toNat x.toInt) lv st P) : Wp sb dC dI dA sp H0 l ρ0 ad rf sh M pc h lv (.int x :: .int i :: .ref (ad c0) :: st) P := by
  obtain ⟨pc1, h1', lv1, st1, p1, K1, Z1⟩ := K
  exact ⟨pc1, h1', lv1, st1, p1, w0_bast hdg.1 hsh h1 h2 h3 h4 K1, zq_bast hdg hsh h1 h2 Z1⟩
theorem wp_last {c0 n : Nat} {fs : List (Nat × Nat)} {i : Int32} {x : Int64} (hdg : Dg M pc .lastore 1 lk) (hsh : sh[c0]? = some (101, n, fs)) (h1 : 0 ≤ i.toInt) (h2 : i.toInt < n) (K : Wp sb dC dI dA sp H0 l ρ0 ad rf sh M (pc + 1) (uph h c0 i.toInt.toNat x.toInt) lv st P) : Wp sb dC dI dA sp H0 l ρ0 ad rf sh M pc h lv (.long x :: .int i :: .ref (ad c0) :: st) P := by
  obtain ⟨pc1, h1', lv1, st1, p1, K1, Z1⟩ := K
  exact ⟨pc1, h1', lv1, st1, p1, w0_last hdg.1 hsh h1 h2 K1, zq_last hdg hsh h1 h2 Z1⟩
theorem wp_alen {c0 n kd : Nat} {fs : List (Nat × Nat)} (hdg : Dg M pc .arraylength 1 lk) (hsh : sh[c0]? = some (kd, n, fs)) (hk1 : 100 ≤ kd) (hk2 : kd ≤ 105) (K : Wp sb dC dI dA sp H0 l ρ0 ad rf sh M (pc + 1) h lv (.int (nI n) :: st) P) : Wp sb dC dI dA sp H0 l ρ0 ad rf sh M pc h lv (.ref (ad c0) :: st) P := by
  obtain ⟨pc1, h1', lv1, st1, p1, K1, Z1⟩ := K
  exact ⟨pc1, h1', lv1, st1, p1, w0_alen hdg.1 hsh hk1 hk2 K1, zq_alen hdg hsh Z1⟩
theorem wp_slen {L : Nat} (hdg : Dg M pc .arraylength 1 lk) (hL : ρ0[6]? = some (L + 9223372036854775808)) (K : Wp sb dC dI dA sp H0 l ρ0 ad rf sh M (pc + 1) h lv (.int (nI L) :: st) P) : Wp sb dC dI dA sp H0 l ρ0 ad rf sh M pc h lv (.retAddr 0 :: st) P := by
  obtain ⟨pc1, h1', lv1, st1, p1, K1, Z1⟩ := K
  exact ⟨pc1, h1', lv1, st1, p1, w0_slen hdg.1 hL K1, zq_slen hdg hL Z1⟩
theorem wp_sld {L : Nat} {i : Int32} (hdg : Dg M pc .iaload 1 lk) (hL : ρ0[6]? = some (L + 9223372036854775808)) (h1 : 0 ≤ i.toInt) (h2 : i.toInt < L) (hrg : R32 ((sp (1000 + i.toInt.toNat) : Int) - 9223372036854775808)) (K : Wp sb dC dI dA sp H0 l ρ0 ad rf sh M (pc + 1) h lv (.int (Int32.ofInt ((sp (1000 + i.toInt.toNat) : Int) - 9223372036854775808)) :: st) P) : Wp sb dC dI dA sp H0 l ρ0 ad rf sh M pc h lv (.int i :: .retAddr 0 :: st) P := by
  obtain ⟨pc1, h1', lv1, st1, p1, K1, Z1⟩ := K
  exact ⟨pc1, h1', lv1, st1, p1, w0_sld hdg.1 hL h1 h2 K1, zq_sld hdg hL h1 h2 hrg Z1⟩
theorem wp_tlen {x : Nat} (hdg : Dg M pc .arraylength 1 lk) (hx2 : x = 2 ∨ x = 4) (K : Wp sb dC dI dA sp H0 l ρ0 ad rf sh M (pc + 1) h lv (.int (nI (sb x).length) :: st) P) : Wp sb dC dI dA sp H0 l ρ0 ad rf sh M pc h lv (.retAddr x :: st) P := by
  obtain ⟨pc1, h1', lv1, st1, p1, K1, Z1⟩ := K
  exact ⟨pc1, h1', lv1, st1, p1, w0_tlen hdg.1 hx2 K1, zq_tlen hdg hx2 Z1⟩
theorem wp_tld {x n : Nat} {i : Int32} (hdg : Dg M pc .baload 1 lk) (hx2 : x = 2 ∨ x = 4) (h1 : 0 ≤ i.toInt) (hn : (sb x)[i.toInt.toNat]? = some n) (K : Wp sb dC dI dA sp H0 l ρ0 ad rf sh M (pc + 1) h lv (.int (nI n) :: st) P) : Wp sb dC dI dA sp H0 l ρ0 ad rf sh M pc h lv (.int i :: .retAddr x :: st) P := by
  obtain ⟨pc1, h1', lv1, st1, p1, K1, Z1⟩ := K
  exact ⟨pc1, h1', lv1, st1, p1, w0_tld hdg.1 hx2 h1 hn K1, zq_tld hdg hx2 h1 hn Z1⟩
theorem wp_gets {x : Nat} (hdg : Dg M pc ins len (x :: lk)) (hlen : len = ax_len ins) (hlk : lok mth M pc ins (x :: lk) = true) (ho : ax_op ins = 56) (K1 : x = 0 → Wp sb dC dI dA sp H0 l ρ0 ad rf sh M (pc + len) h lv (.int 1 :: st) P) (K2 : x ≠ 0 → Wp sb dC dI dA sp H0 l ρ0 ad rf sh M (pc + len) h lv (.float 0 :: st) P) : Wp sb dC dI dA sp H0 l ρ0 ad rf sh M pc h lv st P := by
  by_cases c : x = 0
  · subst c
    obtain ⟨pc1, h1', lv1, st1, p1, KA, Z1⟩ := K1 rfl
    exact ⟨pc1, h1', lv1, st1, p1, w0_gets hdg.1 hlen hlk ho (fun _ => KA) (fun z => absurd rfl z), zq_gets0 hdg ho Z1⟩
  · obtain ⟨pc1, h1', lv1, st1, p1, KA, Z1⟩ := K2 c
    exact ⟨pc1, h1', lv1, st1, p1, w0_gets hdg.1 hlen hlk ho (fun z => absurd z c) (fun _ => KA), zq_gets1 c hdg ho Z1⟩
theorem wp_min {x y : Int32} {rest : List Value} (hdg : Dg M pc ins len (902 :: lk)) (hlen : len = ax_len ins) (hlk : lok mth M pc ins (902 :: lk) = true) (ho : ax_op ins = 21) (hf : 1 ≤ M.2.2.2.2.1.frames) (hl2 : (rest.map fun v => v.category).sum + 13 ≤ M.2.2.2.2.1.locals) (K : Wp sb dC dI dA sp H0 l ρ0 ad rf sh M (pc + len) h lv (.int (if y < x then y else x) :: rest) P) : Wp sb dC dI dA sp H0 l ρ0 ad rf sh M pc h lv (.int y :: .int x :: rest) P := by
  obtain ⟨pc1, h1', lv1, st1, p1, K1, Z1⟩ := K
  exact ⟨pc1, h1', lv1, st1, p1, w0_min hdg.1 hlen hlk ho hf (by rw [tv_sum]; exact hl2) K1, zq_min hdg ho Z1⟩
theorem wp_copy {cs cd n0 n1 kd : Nat} {f0 f1 : List (Nat × Nat)} {n dp sq : Int32} {rest : List Value} (hdg : Dg M pc ins len (901 :: lk)) (hlen : len = ax_len ins) (hlk : lok mth M pc ins (901 :: lk) = true) (ho : ax_op ins = 21) (hf : 1 ≤ M.2.2.2.2.1.frames) (hl2 : (rest.map fun v => v.category).sum + 18 ≤ M.2.2.2.2.1.locals) (hs0 : sh[cs]? = some (kd, n0, f0)) (hs1 : sh[cd]? = some (kd, n1, f1)) (hkd : kd = 100 ∨ kd = 101) (b1 : 0 ≤ sq.toInt) (b2 : 0 ≤ dp.toInt) (b3 : 0 ≤ n.toInt) (b4 : sq.toInt + n.toInt ≤ n0) (b5 : dp.toInt + n.toInt ≤ n1) (K : Wp sb dC dI dA sp H0 l ρ0 ad rf sh M (pc + len) (cph h cs cd sq.toInt.toNat dp.toInt.toNat n.toInt.toNat) lv rest P) : Wp sb dC dI dA sp H0 l ρ0 ad rf sh M pc h lv (.int n :: .int dp :: .ref (ad cd) :: .int sq :: .ref (ad cs) :: rest) P := by
  obtain ⟨pc1, h1', lv1, st1, p1, K1, Z1⟩ := K
  exact ⟨pc1, h1', lv1, st1, p1, w0_copy hdg.1 hlen hlk ho hf (by rw [tv_sum]; exact hl2) hs0 hs1 hkd b1 b2 b3 b4 b5 K1, zq_copy hdg ho b1 b2 b3 Z1⟩
theorem wp_table {d lo hi T : Nat} {ks : List Nat} {x : Int32} (hdg : Dg M pc ins len (d :: lo :: hi :: ks)) (hlk : lok mth M pc ins (d :: lo :: hi :: ks) = true) (ho : ax_op ins = 57) (K : Wp sb dC dI dA sp H0 l ρ0 ad rf sh M T h lv st P) (hD : x.toInt < (nI lo).toInt ∨ (nI hi).toInt < x.toInt → d = T) (hND : (∀ k t, ax_pr k t ks → x ≠ nI k) → d = T) (hK : ∀ k t, ax_pr k t ks → x = nI k → t = T) : Wp sb dC dI dA sp H0 l ρ0 ad rf sh M pc h lv (.int x :: st) P := by
  obtain ⟨pc1, h1', lv1, st1, p1, K1, Z1⟩ := K
  exact ⟨pc1, h1', lv1, st1, p1, w0_table hdg.1 hlk ho (fun z => by rw [hD z]; exact K1) (fun k t z1 z2 => by rw [hK k t z1 z2]; exact K1), zq_table hdg ho Z1 hD hND hK⟩
theorem wp_look {d T : Nat} {ks : List Nat} {x : Int32} (hdg : Dg M pc ins len (d :: ks)) (hlk : lok mth M pc ins (d :: ks) = true) (ho : ax_op ins = 58) (K : Wp sb dC dI dA sp H0 l ρ0 ad rf sh M T h lv st P) (hD : (∀ k t, ax_pr k t ks → x ≠ nI k) → d = T) (hK : ∀ k t, ax_pr k t ks → x = nI k → t = T) : Wp sb dC dI dA sp H0 l ρ0 ad rf sh M pc h lv (.int x :: st) P := by
  obtain ⟨pc1, h1', lv1, st1, p1, K1, Z1⟩ := K
  exact ⟨pc1, h1', lv1, st1, p1, w0_look hdg.1 hlk ho (fun z => by rw [hD z]; exact K1) (fun k t z1 z2 => by rw [hK k t z1 z2]; exact K1), zq_look hdg ho Z1 hD hK⟩
theorem wp_call {a b kc ci : Nat} {C : MR} {as rest : List Value} (hC : mth a b = some C) (hCC : Mcw C) (hdg : Dg M pc ins len (a :: b :: kc :: ci :: lk)) (hlen : len = ax_len ins) (hlk : lok mth M pc ins (a :: b :: kc :: ci :: lk) = true) (ho : ax_op ins = 21) (h9 : (Nat.beq a 900 = false ∧ Nat.beq a 901 = false ∧ Nat.beq a 902 = false) ∧ Nat.beq a 903 = false) (hkc : kc = 0 ∨ kc = 2) (hna : as.length = C.2.2.2.2.2.1) (hf1 : C.2.2.2.2.1.frames < M.2.2.2.2.1.frames) (hf2 : 8 + (C.2.2.1 + 11) + C.2.2.2.2.1.locals ≤ M.2.2.2.2.1.locals) (hwr : (rest.map fun v => v.category).sum ≤ 8) (hwa : (as.map fun v => v.category).sum ≤ C.2.2.1) (hz : C.2.2.2.2.1.cells = 0 ∧ C.2.2.2.2.1.slots = 0) (hrc : kc = 0 → rcvt ad sh ci as)
    (hW : Wp sb dC dI dA sp H0 l ρ0 ad rf sh C 0 h (lv_args 0 as) [] P') (hR : Rt C P') (K : ∀ pc' h' lv' st', P' pc' h' lv' st' → Wp sb dC dI dA sp H0 l ρ0 ad rf sh M (pc + len) h' lv (st' ++ rest) P) : Wp sb dC dI dA sp H0 l ρ0 ad rf sh M pc h lv (as.reverse ++ rest) P := by
  obtain ⟨pc1, h1', lv1, st1, p1, W1, Z1⟩ := hW
  obtain ⟨pc2, h2', lv2, st2, p2, K2, Z2⟩ := K pc1 h1' lv1 st1 p1
  refine ⟨pc2, h2', lv2, st2, p2, ?_, zq_call hC hdg ho ⟨h9.1.2.1, h9.1.2.2, h9.2⟩ hna Z1 (hR _ _ _ _ p1) Z2⟩
  rw [← lvt_args] at W1
  rw [List.map_append, List.map_reverse]
  refine w0_call (P' := one pc1 h1' (lvt sp lv1) (st1.map (tv sp))) hC hCC hdg.1 hlen hlk ho h9.1 hkc (by rw [List.length_map]; exact hna) hf1 hf2 (by rw [tv_sum]; exact hwr) (by rw [tv_sum]; exact hwa) hz (fun z => (hrc z).tv sp) W1 (fun pc' h' lv' st' q => ?_) (fun pc' h' lv' st' q => ?_)
  · obtain ⟨rfl, rfl, rfl, rfl⟩ := q
    obtain ⟨i0, d0, k0⟩ := hR _ _ _ _ p1
    exact ⟨i0, d0, rokc_tv sp k0⟩
  · obtain ⟨rfl, rfl, rfl, rfl⟩ := q
    rw [← List.map_append]
    exact K2
theorem wp_max {b : Nat} {x y : Int32} {rest : List Value} (hmt : mth 903 b = none) (hdg : Dg M pc ins len (903 :: b :: lk)) (hlen : len = ax_len ins) (hlk : lok mth M pc ins (903 :: b :: lk) = true) (ho : ax_op ins = 21) (hf : 1 ≤ M.2.2.2.2.1.frames) (hl2 : (rest.map fun v => v.category).sum + 13 ≤ M.2.2.2.2.1.locals) (K : Wp sb dC dI dA sp H0 l ρ0 ad rf sh M (pc + len) h lv (.int (if x < y then y else x) :: rest) P) : Wp sb dC dI dA sp H0 l ρ0 ad rf sh M pc h lv (.int y :: .int x :: rest) P := by
  obtain ⟨pc1, h1', lv1, st1, p1, K1, Z1⟩ := K
  exact ⟨pc1, h1', lv1, st1, p1, w0_max hmt hdg.1 hlen hlk ho hf (by rw [tv_sum]; exact hl2) K1, zq_max hdg ho Z1⟩
theorem wp_less {LV LV' : LVs} (hs : ∀ q ∈ LV', q ∈ LV) (K : Wp sb dC dI dA sp H0 l ρ0 ad rf sh M pc h LV' st P) : Wp sb dC dI dA sp H0 l ρ0 ad rf sh M pc h LV st P := by
  obtain ⟨pc1, h1', lv1, st1, p1, K1, Z1⟩ := K
  refine ⟨pc1, h1', lv1, st1, p1, ?_, zq_less hs Z1⟩
  intro p e R s m args below meth c Q nc ns hX hN hG H locs ls z1 z2 z3 z4
  refine K1 p e R s m args below meth c Q nc ns hX hN hG H locs ls z1 z2 z3 ⟨z4.1, z4.2.1, fun q hq => ?_⟩
  obtain ⟨q0, q1, q2⟩ := List.mem_map.mp hq
  subst q2
  exact z4.2.2 _ (lvt_mem (hs q0 q1))
end WPT
end
section
/-! 26.lf -/
/-! LINEAR FORMS over unknowns: a number and terms, by the unknowns' numbers; ranges of the unknowns -/
abbrev LF : Type := Int × List (Nat × Int)
abbrev SG : Type := List (Int × Int)
def Lt (ρ : List Int) : List (Nat × Int) → Int → Prop
  | [], x => x = 0
  | q :: r, x => ∃ (z y : Int), ρ[q.1]? = some z ∧ Lt ρ r y ∧ x = q.2 * z + y
def Lv (ρ : List Int) (f : LF) (x : Int) : Prop := ∃ y, Lt ρ f.2 y ∧ x = f.1 + y
theorem Lt.mono {ρ ρ' : List Int} (h : Sb ρ ρ') : ∀ {l : List (Nat × Int)} {x : Int}, Lt ρ l x → Lt ρ' l x
  | [], _, e => e
  | _ :: _, _, ⟨z, y, a, b, c⟩ => ⟨z, y, h _ _ a, Lt.mono h b, c⟩
theorem Lv.mono {ρ ρ' : List Int} (h : Sb ρ ρ') {f : LF} {x : Int} (q : Lv ρ f x) : Lv ρ' f x := by
  obtain ⟨y, a, b⟩ := q
  exact ⟨y, a.mono h, b⟩
theorem Lt.fn {ρ : List Int} : ∀ {l : List (Nat × Int)} {x y : Int}, Lt ρ l x → Lt ρ l y → x = y
  | [], x, y, a, b => by have a : x = 0 := a; have b : y = 0 := b; rw [a, b]
  | _ :: _, _, _, ⟨z, u, a1, a2, a3⟩, ⟨z', u', b1, b2, b3⟩ => by
    rw [a1] at b1
    cases b1
    rw [a3, b3, Lt.fn a2 b2]
theorem Lv.fn {ρ : List Int} {f : LF} {x y : Int} (a : Lv ρ f x) (b : Lv ρ f y) : x = y := by
  obtain ⟨u, a1, a2⟩ := a
  obtain ⟨v, b1, b2⟩ := b
  rw [a2, b2, a1.fn b1]
theorem Lv.c (ρ : List Int) (n : Int) : Lv ρ (n, []) n := ⟨0, rfl, by omega⟩
theorem Lv.v {ρ : List Int} {k : Nat} {z : Int} (h : ρ[k]? = some z) : Lv ρ (0, [(k, 1)]) z := ⟨z, ⟨z, 0, h, rfl, by omega⟩, by omega⟩
theorem Lv.cn {ρ : List Int} {n x : Int} (h : Lv ρ (n, []) x) : x = n := h.fn (Lv.c ρ n)
/-- a whole number, made plain -/
noncomputable def i_fc {β : Type} (i : Int) (k : Int → β) : β := Int.rec (motive := fun _ => β) (fun n => ax_fc n (fun m => k (Int.ofNat m))) (fun n => ax_fc n (fun m => k (Int.negSucc m))) i
theorem i_fc_eq {β : Type} (i : Int) (k : Int → β) : i_fc i k = k i := by
  cases i with
  | ofNat n => exact ax_fc_eq n (fun m => k (Int.ofNat m))
  | negSucc n => exact ax_fc_eq n (fun m => k (Int.negSucc m))
noncomputable def i_z (i : Int) : Bool := Int.rec (motive := fun _ => Bool) (fun n => Nat.beq n 0) (fun _ => false) i
noncomputable def i_nn (i : Int) : Bool := Int.rec (motive := fun _ => Bool) (fun _ => true) (fun _ => false) i
theorem i_z_ok {i : Int} (h : i_z i = true) : i = 0 := by
  cases i with
  | ofNat n =>
    have : n = 0 := Nat.eq_of_beq_eq_true h
    subst this
    rfl
  | negSucc n => cases h
theorem i_z_no {i : Int} (h : i_z i = false) : i ≠ 0 := fun e => by
  subst e
  cases h
theorem i_nn_ok {i : Int} (h : i_nn i = true) : 0 ≤ i := by
  cases i with
  | ofNat n => exact Int.natCast_nonneg n
  | negSucc n => cases h
theorem i_nn_no {i : Int} (h : i_nn i = false) : i < 0 := by
  cases i with
  | ofNat n => cases h
  | negSucc n => exact Int.negSucc_lt_zero n
noncomputable def i_le (a b : Int) : Bool := i_nn (b - a)
theorem i_le_ok {a b : Int} (h : i_le a b = true) : a ≤ b := by have := i_nn_ok h; omega
theorem i_le_no {a b : Int} (h : i_le a b = false) : b < a := by have := i_nn_no h; omega
noncomputable def i_eq (a b : Int) : Bool := i_z (a - b)
theorem i_eq_ok {a b : Int} (h : i_eq a b = true) : a = b := by have := i_z_ok h; omega
theorem i_eq_no {a b : Int} (h : i_eq a b = false) : a ≠ b := by have := i_z_no h; omega
noncomputable def i_min (a b : Int) : Int := bif i_le a b then a else b
noncomputable def i_max (a b : Int) : Int := bif i_le a b then b else a
theorem i_min_ok (a b : Int) : i_min a b ≤ a ∧ i_min a b ≤ b ∧ (i_min a b = a ∨ i_min a b = b) := by
  unfold i_min
  cases h : i_le a b with
  | true => have := i_le_ok h; exact ⟨Int.le_refl a, this, Or.inl rfl⟩
  | false => have := i_le_no h; exact ⟨Int.le_of_lt this, Int.le_refl b, Or.inr rfl⟩
theorem i_max_ok (a b : Int) : a ≤ i_max a b ∧ b ≤ i_max a b ∧ (i_max a b = a ∨ i_max a b = b) := by
  unfold i_max
  cases h : i_le a b with
  | true => have := i_le_ok h; exact ⟨this, Int.le_refl b, Or.inr rfl⟩
  | false => have := i_le_no h; exact ⟨Int.le_refl a, Int.le_of_lt this, Or.inl rfl⟩
noncomputable def lf_ins {β : Type} (k : Nat) (a : Int) (l : List (Nat × Int)) : (List (Nat × Int) → β) → β := List.rec (motive := fun _ => (List (Nat × Int) → β) → β) (fun kk => bif i_z a then kk [] else kk [(k, a)]) (fun q t ih kk => bif Nat.beq q.1 k then i_fc (q.2 + a) (fun b => bif i_z b then kk t else kk ((k, b) :: t)) else bif Nat.blt k q.1 then kk ((k, a) :: q :: t) else ih (fun r => kk (q :: r))) l
theorem lf_ins_ok {β : Type} (k : Nat) (a : Int) : ∀ (l : List (Nat × Int)) (kk : List (Nat × Int) → β), ∃ r, lf_ins k a l kk = kk r ∧ ∀ (ρ : List Int) (x z : Int), Lt ρ l x → ρ[k]? = some z → Lt ρ r (a * z + x)
  | [], kk => by
    show ∃ r, (bif i_z a then kk [] else kk [(k, a)]) = kk r ∧ _
    cases h : i_z a with
    | true => exact ⟨[], rfl, fun ρ x z hx hz => by have hx : x = 0 := hx; show _ = (0 : Int); rw [i_z_ok h, hx]; omega⟩
    | false => exact ⟨[(k, a)], rfl, fun ρ x z hx hz => ⟨z, 0, hz, rfl, by have hx : x = 0 := hx; rw [hx]⟩⟩
  | q :: t, kk => by
    show ∃ r, (bif Nat.beq q.1 k then i_fc (q.2 + a) (fun b => bif i_z b then kk t else kk ((k, b) :: t)) else bif Nat.blt k q.1 then kk ((k, a) :: q :: t) else lf_ins k a t (fun r => kk (q :: r))) = kk r ∧ _
    cases h : Nat.beq q.1 k with
    | true =>
      have e : q.1 = k := Nat.eq_of_beq_eq_true h
      show ∃ r, i_fc (q.2 + a) (fun b => bif i_z b then kk t else kk ((k, b) :: t)) = kk r ∧ _
      rw [i_fc_eq]
      have KK : ∀ (ρ : List Int) (x z : Int), Lt ρ (q :: t) x → ρ[k]? = some z → ∃ y, Lt ρ t y ∧ a * z + x = (q.2 + a) * z + y := fun ρ x z hx hz => by
        obtain ⟨z', y, a1, a2, a3⟩ := hx
        rw [e, hz] at a1
        cases a1
        exact ⟨y, a2, by rw [a3, Int.add_mul]; omega⟩
      cases h2 : i_z (q.2 + a) with
      | true => exact ⟨t, rfl, fun ρ x z hx hz => by
          obtain ⟨y, k1, k2⟩ := KK ρ x z hx hz
          rw [k2, i_z_ok h2, Int.zero_mul, Int.zero_add]
          exact k1⟩
      | false => exact ⟨(k, q.2 + a) :: t, rfl, fun ρ x z hx hz => by
          obtain ⟨y, k1, k2⟩ := KK ρ x z hx hz
          exact ⟨z, y, hz, k1, k2⟩⟩
    | false =>
      show ∃ r, (bif Nat.blt k q.1 then kk ((k, a) :: q :: t) else lf_ins k a t (fun r => kk (q :: r))) = kk r ∧ _
      cases h2 : Nat.blt k q.1 with
      | true => exact ⟨(k, a) :: q :: t, rfl, fun ρ x z hx hz => ⟨z, x, hz, hx, rfl⟩⟩
      | false =>
        obtain ⟨r, e1, e2⟩ := lf_ins_ok k a t (fun r => kk (q :: r))
        exact ⟨q :: r, e1, fun ρ x z hx hz => by
          obtain ⟨z', y, a1, a2, a3⟩ := hx
          exact ⟨z', _, a1, e2 ρ y z a2 hz, by rw [a3]; omega⟩⟩
/-- c times the terms l, and m -/
noncomputable def lf_acc {β : Type} (c : Int) (l : List (Nat × Int)) : List (Nat × Int) → (List (Nat × Int) → β) → β := List.rec (motive := fun _ => List (Nat × Int) → (List (Nat × Int) → β) → β) (fun m kk => kk m) (fun q _ ih m kk => i_fc (c * q.2) (fun a => lf_ins q.1 a m (fun m' => ih m' kk))) l
theorem lf_acc_ok {β : Type} (c : Int) : ∀ (l m : List (Nat × Int)) (kk : List (Nat × Int) → β), ∃ r, lf_acc c l m kk = kk r ∧ ∀ (ρ : List Int) (x y : Int), Lt ρ l x → Lt ρ m y → Lt ρ r (c * x + y)
  | [], m, kk => ⟨m, rfl, fun ρ x y hx hy => by have hx : x = 0 := hx; rw [hx, Int.mul_zero, Int.zero_add]; exact hy⟩
  | q :: t, m, kk => by
    show ∃ r, i_fc (c * q.2) (fun a => lf_ins q.1 a m (fun m' => lf_acc c t m' kk)) = kk r ∧ _
    rw [i_fc_eq]
    obtain ⟨m', e1, e2⟩ := lf_ins_ok q.1 (c * q.2) m (fun m' => lf_acc c t m' kk)
    obtain ⟨r, e3, e4⟩ := lf_acc_ok c t m' kk
    refine ⟨r, e1.trans e3, fun ρ x y hx hy => ?_⟩
    obtain ⟨z, u, a1, a2, a3⟩ := hx
    have := e4 ρ u _ a2 (e2 ρ y z hy a1)
    rw [a3, Int.mul_add, ← Int.mul_assoc]
    rw [show c * q.2 * z + c * u + y = c * u + (c * q.2 * z + y) by omega]
    exact this
/-- c f + g -/
noncomputable def lf_add {β : Type} (c : Int) (f g : LF) (kk : LF → β) : β := lf_acc c f.2 g.2 (fun r => i_fc (c * f.1 + g.1) (fun n => kk (n, r)))
theorem lf_add_ok {β : Type} (c : Int) (f g : LF) (kk : LF → β) : ∃ r, lf_add c f g kk = kk r ∧ ∀ (ρ : List Int) (x y : Int), Lv ρ f x → Lv ρ g y → Lv ρ r (c * x + y) := by
  unfold lf_add
  obtain ⟨r, e3, e4⟩ := lf_acc_ok c f.2 g.2 (fun r => i_fc (c * f.1 + g.1) (fun n => kk (n, r)))
  rw [i_fc_eq] at e3
  refine ⟨(c * f.1 + g.1, r), e3, fun ρ x y hx hy => ?_⟩
  obtain ⟨u, a1, a2⟩ := hx
  obtain ⟨v, b1, b2⟩ := hy
  refine ⟨_, e4 ρ u v a1 b1, ?_⟩
  rw [a2, b2, Int.mul_add]
  show _ = c * f.1 + g.1 + _
  omega
/-- c f + n -/
noncomputable def lf_sc {β : Type} (c : Int) (f : LF) (n : Int) (kk : LF → β) : β := lf_add c f (n, []) kk
theorem lf_sc_ok {β : Type} (c : Int) (f : LF) (n : Int) (kk : LF → β) : ∃ r, lf_sc c f n kk = kk r ∧ ∀ (ρ : List Int) (x : Int), Lv ρ f x → Lv ρ r (c * x + n) := by
  obtain ⟨r, e1, e2⟩ := lf_add_ok c f (n, []) kk
  exact ⟨r, e1, fun ρ x hx => e2 ρ x n hx (Lv.c ρ n)⟩
/-! ranges -/
def Sr (ρ : List Int) (σ : SG) : Prop := ρ.length = σ.length ∧ ∀ (k : Nat) (z : Int), ρ[k]? = some z → ∃ q, σ[k]? = some q ∧ q.1 ≤ z ∧ z ≤ q.2
theorem Sr.app {ρ : List Int} {σ : SG} (h : Sr ρ σ) {z lo hi : Int} (h1 : lo ≤ z) (h2 : z ≤ hi) : Sr (ρ ++ [z]) (σ ++ [(lo, hi)]) := by
  refine ⟨by simp [h.1], fun k y hy => ?_⟩
  by_cases hk : k < ρ.length
  · rw [List.getElem?_append_left hk] at hy
    obtain ⟨q, e1, e2⟩ := h.2 k y hy
    exact ⟨q, by rw [List.getElem?_append_left (by rw [← h.1]; exact hk)]; exact e1, e2⟩
  · rw [List.getElem?_append_right (by omega)] at hy
    have hz : k - ρ.length < 1 := (List.getElem?_eq_some_iff.mp hy).1
    have hk0 : k = ρ.length := by omega
    subst hk0
    simp at hy
    subst hy
    exact ⟨(lo, hi), by rw [h.1]; simp, h1, h2⟩
theorem Sr.cut {ρ : List Int} {σ : SG} (h : Sr ρ σ) {k : Nat} {lo hi : Int} (hz : ∀ z, ρ[k]? = some z → lo ≤ z ∧ z ≤ hi) : Sr ρ (σ.set k (lo, hi)) := by
  refine ⟨by simp [h.1], fun j y hy => ?_⟩
  obtain ⟨q, e1, e2⟩ := h.2 j y hy
  by_cases hj : j = k
  · subst hj
    have hl : j < σ.length := (List.getElem?_eq_some_iff.mp e1).1
    exact ⟨(lo, hi), by rw [List.getElem?_set_self hl], hz y hy⟩
  · exact ⟨q, by rw [List.getElem?_set_ne (fun q => hj q.symm)]; exact e1, e2⟩
noncomputable def s_at (σ : SG) (k : Nat) : Int × Int := match ax_nth σ k with
  | some q => q
  | none => (0, 0)
theorem s_at_ok {ρ : List Int} {σ : SG} (h : Sr ρ σ) {k : Nat} {z : Int} (hz : ρ[k]? = some z) : (s_at σ k).1 ≤ z ∧ z ≤ (s_at σ k).2 := by
  obtain ⟨q, e1, e2⟩ := h.2 k z hz
  unfold s_at
  rw [ax_nth_eq, e1]
  exact e2
/-- the least, the most that a form can be -/
noncomputable def lf_lot (σ : SG) (l : List (Nat × Int)) : Int := List.rec (motive := fun _ => Int) 0 (fun q _ ih => bif i_nn q.2 then q.2 * (s_at σ q.1).1 + ih else q.2 * (s_at σ q.1).2 + ih) l
noncomputable def lf_hit (σ : SG) (l : List (Nat × Int)) : Int := List.rec (motive := fun _ => Int) 0 (fun q _ ih => bif i_nn q.2 then q.2 * (s_at σ q.1).2 + ih else q.2 * (s_at σ q.1).1 + ih) l
theorem lf_t_ok {ρ : List Int} {σ : SG} (hS : Sr ρ σ) : ∀ {l : List (Nat × Int)} {x : Int}, Lt ρ l x → lf_lot σ l ≤ x ∧ x ≤ lf_hit σ l
  | [], x, hx => by have hx : x = 0 := hx; subst hx; exact ⟨Int.le_refl 0, Int.le_refl 0⟩
  | q :: t, x, hx => by
    obtain ⟨z, y, a1, a2, a3⟩ := hx
    have i1 := lf_t_ok hS a2
    have i2 := s_at_ok hS a1
    have e1 : lf_lot σ (q :: t) = bif i_nn q.2 then q.2 * (s_at σ q.1).1 + lf_lot σ t else q.2 * (s_at σ q.1).2 + lf_lot σ t := rfl
    have e2 : lf_hit σ (q :: t) = bif i_nn q.2 then q.2 * (s_at σ q.1).2 + lf_hit σ t else q.2 * (s_at σ q.1).1 + lf_hit σ t := rfl
    rw [e1, e2]
    cases hn : i_nn q.2 with
    | true =>
      have m1 := Int.mul_le_mul_of_nonneg_left i2.1 (i_nn_ok hn)
      have m2 := Int.mul_le_mul_of_nonneg_left i2.2 (i_nn_ok hn)
      simp only [cond_true]
      omega
    | false =>
      have m1 := Int.mul_le_mul_of_nonpos_left (Int.le_of_lt (i_nn_no hn)) i2.1
      have m2 := Int.mul_le_mul_of_nonpos_left (Int.le_of_lt (i_nn_no hn)) i2.2
      simp only [cond_false]
      omega
noncomputable def lf_lo (σ : SG) (f : LF) : Int := f.1 + lf_lot σ f.2
noncomputable def lf_hi (σ : SG) (f : LF) : Int := f.1 + lf_hit σ f.2
theorem lf_b_ok {ρ : List Int} {σ : SG} (hS : Sr ρ σ) {f : LF} {x : Int} (h : Lv ρ f x) : lf_lo σ f ≤ x ∧ x ≤ lf_hi σ f := by
  obtain ⟨y, a, b⟩ := h
  have := lf_t_ok hS a
  unfold lf_lo lf_hi
  omega
/-! facts: forms that are 0 or more, forms that aren't 0 -/
abbrev NS : Type := SG × List LF × List LF
def Nk (ρ : List Int) (N : NS) : Prop := Sr ρ N.1 ∧ (∀ f ∈ N.2.1, ∃ x, Lv ρ f x ∧ 0 ≤ x) ∧ (∀ f ∈ N.2.2, ∃ x, Lv ρ f x ∧ x ≠ 0)
/-- the number of an unknown in a form -/
noncomputable def lf_co (k : Nat) (l : List (Nat × Int)) : Int := List.rec (motive := fun _ => Int) 0 (fun q _ ih => bif Nat.beq q.1 k then q.2 else ih) l
/-- how often a fact g may be taken from f -/
noncomputable def lf_mu (f g : LF) : Int := List.rec (motive := fun _ => Int) 1 (fun q _ _ => bif i_nn (lf_co q.1 f.2 / q.2 - 1) then lf_co q.1 f.2 / q.2 else 1) g.2
noncomputable def lf_p0 (σ : SG) (f : LF) : Bool := i_nn (lf_lo σ f)
noncomputable def lf_p1 (σ : SG) (fc : List LF) (f : LF) : Bool := lf_p0 σ f || List.rec (motive := fun _ => Bool) false (fun g _ ih => i_fc (lf_mu f g) (fun m => bif i_nn m then lf_add (-m) g f (lf_p0 σ) else false) || ih) fc
noncomputable def lf_p2 (σ : SG) (fc : List LF) (f : LF) : Bool := lf_p1 σ fc f || List.rec (motive := fun _ => Bool) false (fun g _ ih => i_fc (lf_mu f g) (fun m => bif i_nn m then lf_add (-m) g f (lf_p1 σ fc) else false) || ih) fc
noncomputable def pv1 (N : NS) (f : LF) : Bool := lf_p1 N.1 N.2.1 f
noncomputable def pv2 (N : NS) (f : LF) : Bool := lf_p2 N.1 N.2.1 f
theorem lf_p0_ok {ρ : List Int} {σ : SG} (hS : Sr ρ σ) {f : LF} {x : Int} (h : lf_p0 σ f = true) (hx : Lv ρ f x) : 0 ≤ x := by
  have := lf_b_ok hS hx
  have := i_nn_ok h
  omega
theorem lf_any_ok {ρ : List Int} {f : LF} {x : Int} (hx : Lv ρ f x) {T : LF → Bool} (hT : ∀ f' y, T f' = true → Lv ρ f' y → 0 ≤ y) : ∀ (fc : List LF), (∀ g ∈ fc, ∃ y, Lv ρ g y ∧ 0 ≤ y) → (List.rec (motive := fun _ => Bool) false (fun g _ ih => i_fc (lf_mu f g) (fun m => bif i_nn m then lf_add (-m) g f T else false) || ih) fc : Bool) = true → 0 ≤ x
  | [], _, h => by cases h
  | g :: t, hf, h => by
    rcases (Bool.or_eq_true _ _).mp h with h1 | h1
    · rw [i_fc_eq] at h1
      cases hm : i_nn (lf_mu f g) with
      | false => rw [hm] at h1; cases h1
      | true =>
        rw [hm] at h1
        obtain ⟨r, e1, e2⟩ := lf_add_ok (-(lf_mu f g)) g f T
        have h2 : T r = true := by rw [← e1]; exact h1
        obtain ⟨y, y1, y2⟩ := hf g List.mem_cons_self
        have h3 := hT _ _ h2 (e2 ρ y x y1 hx)
        have h4 := Int.mul_nonneg (i_nn_ok hm) y2
        rw [Int.neg_mul] at h3
        omega
    · exact lf_any_ok hx hT t (fun g hg => hf g (List.mem_cons_of_mem _ hg)) h1
theorem lf_p1_ok {ρ : List Int} {σ : SG} (hS : Sr ρ σ) {fc : List LF} (hF : ∀ g ∈ fc, ∃ y, Lv ρ g y ∧ 0 ≤ y) {f : LF} {x : Int} (h : lf_p1 σ fc f = true) (hx : Lv ρ f x) : 0 ≤ x := by
  rcases (Bool.or_eq_true _ _).mp h with h1 | h1
  · exact lf_p0_ok hS h1 hx
  · exact lf_any_ok hx (fun f' y a b => lf_p0_ok hS a b) fc hF h1
theorem pv1_ok {ρ : List Int} {N : NS} (hN : Nk ρ N) {f : LF} {x : Int} (h : pv1 N f = true) (hx : Lv ρ f x) : 0 ≤ x := lf_p1_ok hN.1 hN.2.1 h hx
theorem pv2_ok {ρ : List Int} {N : NS} (hN : Nk ρ N) {f : LF} {x : Int} (h : pv2 N f = true) (hx : Lv ρ f x) : 0 ≤ x := by
  rcases (Bool.or_eq_true _ _).mp h with h1 | h1
  · exact lf_p1_ok hN.1 hN.2.1 h1 hx
  · exact lf_any_ok hx (fun f' y a b => lf_p1_ok hN.1 hN.2.1 a b) N.2.1 hN.2.1 h1
/-- forms that are the same -/
noncomputable def lt_eq (l : List (Nat × Int)) : List (Nat × Int) → Bool := List.rec (motive := fun _ => List (Nat × Int) → Bool) (fun m => List.rec (motive := fun _ => Bool) true (fun _ _ _ => false) m) (fun q _ ih m => List.rec (motive := fun _ => Bool) false (fun q' t' _ => Nat.beq q.1 q'.1 && (i_eq q.2 q'.2 && ih t')) m) l
theorem lt_eq_ok : ∀ {l m : List (Nat × Int)}, lt_eq l m = true → l = m
  | [], [], _ => rfl
  | [], _ :: _, h => by cases h
  | _ :: _, [], h => by cases h
  | q :: t, q' :: t', h => by
    have h : (Nat.beq q.1 q'.1 && (i_eq q.2 q'.2 && lt_eq t t')) = true := h
    have a := bb_and h
    have b := bb_and a.2
    obtain ⟨q1, q2⟩ := q
    obtain ⟨r1, r2⟩ := q'
    have e1 : q1 = r1 := Nat.eq_of_beq_eq_true a.1
    have e2 : q2 = r2 := i_eq_ok b.1
    have e3 : t = t' := lt_eq_ok b.2
    subst e1
    subst e2
    subst e3
    rfl
noncomputable def lf_eq (f g : LF) : Bool := i_eq f.1 g.1 && lt_eq f.2 g.2
theorem lf_eq_ok {f g : LF} (h : lf_eq f g = true) : f = g := by
  have a := bb_and h
  obtain ⟨f1, f2⟩ := f
  obtain ⟨g1, g2⟩ := g
  have e1 : f1 = g1 := i_eq_ok a.1
  have e2 : f2 = g2 := lt_eq_ok a.2
  subst e1
  subst e2
  rfl
/-- unknowns that can be one number alone are that number -/
noncomputable def lf_fd {β : Type} (σ : SG) (l : List (Nat × Int)) : Int → (LF → β) → β := List.rec (motive := fun _ => Int → (LF → β) → β) (fun n kk => i_fc n (fun m => kk (m, []))) (fun q _ ih n kk => bif i_eq (s_at σ q.1).1 (s_at σ q.1).2 then ih (n + q.2 * (s_at σ q.1).1) kk else ih n (fun r => kk (r.1, q :: r.2))) l
theorem lf_fd_ok {β : Type} {ρ : List Int} {σ : SG} (hS : Sr ρ σ) : ∀ (l : List (Nat × Int)) (n : Int) (kk : LF → β), ∃ r, lf_fd σ l n kk = kk r ∧ ∀ x, Lt ρ l x → Lv ρ r (n + x)
  | [], n, kk => ⟨(n, []), i_fc_eq n (fun m => kk (m, [])), fun x hx => by have hx : x = 0 := hx; subst hx; exact ⟨0, rfl, by show n + 0 = n + 0; rfl⟩⟩
  | q :: t, n, kk => by
    show ∃ r, (bif i_eq (s_at σ q.1).1 (s_at σ q.1).2 then lf_fd σ t (n + q.2 * (s_at σ q.1).1) kk else lf_fd σ t n (fun r => kk (r.1, q :: r.2))) = kk r ∧ _
    cases h : i_eq (s_at σ q.1).1 (s_at σ q.1).2 with
    | true =>
      obtain ⟨r, e1, e2⟩ := lf_fd_ok hS t (n + q.2 * (s_at σ q.1).1) kk
      refine ⟨r, e1, fun x hx => ?_⟩
      obtain ⟨z, y, a1, a2, a3⟩ := hx
      have b := s_at_ok hS a1
      have c := i_eq_ok h
      have hz : z = (s_at σ q.1).1 := by omega
      have := e2 y a2
      rw [a3, hz, ← Int.add_assoc]
      exact this
    | false =>
      obtain ⟨r, e1, e2⟩ := lf_fd_ok hS t n (fun r => kk (r.1, q :: r.2))
      refine ⟨(r.1, q :: r.2), e1, fun x hx => ?_⟩
      obtain ⟨z, y, a1, a2, a3⟩ := hx
      obtain ⟨u, b1, b2⟩ := e2 y a2
      exact ⟨q.2 * z + u, ⟨z, u, a1, b1, rfl⟩, by show n + x = r.1 + _; omega⟩
noncomputable def lf_nv {β : Type} (σ : SG) (f : LF) (kk : LF → β) : β := lf_fd σ f.2 f.1 kk
theorem lf_nv_ok {β : Type} {ρ : List Int} {σ : SG} (hS : Sr ρ σ) (f : LF) (kk : LF → β) : ∃ r, lf_nv σ f kk = kk r ∧ ∀ x, Lv ρ f x → Lv ρ r x := by
  obtain ⟨r, e1, e2⟩ := lf_fd_ok hS f.2 f.1 kk
  exact ⟨r, e1, fun x hx => by obtain ⟨y, a, b⟩ := hx; rw [b]; exact e2 y a⟩
/-- a form is taken to be 0 or more: the ranges of its unknowns, a fact -/
noncomputable def s_nar {β : Type} (σ0 : SG) (hi : Int) (l : List (Nat × Int)) : SG → (SG → Option β) → Option β := List.rec (motive := fun _ => SG → (SG → Option β) → Option β) (fun σ kk => kk σ) (fun q _ ih σ kk =>
    bif i_eq q.2 1 then i_fc (i_max (s_at σ0 q.1).1 ((s_at σ0 q.1).2 - hi)) (fun a => ax_set σ q.1 (a, (s_at σ0 q.1).2) (fun σ' => ih σ' kk))
    else bif i_eq q.2 (-1) then i_fc (i_min (s_at σ0 q.1).2 ((s_at σ0 q.1).1 + hi)) (fun b => ax_set σ q.1 ((s_at σ0 q.1).1, b) (fun σ' => ih σ' kk))
    else ih σ kk) l
theorem lf_one {ρ : List Int} {σ : SG} (hS : Sr ρ σ) : ∀ {l : List (Nat × Int)} {x z : Int} {q : Nat × Int}, Lt ρ l x → q ∈ l → ρ[q.1]? = some z → (q.2 = 1 → x + (s_at σ q.1).2 ≤ lf_hit σ l + z) ∧ (q.2 = -1 → x + z ≤ lf_hit σ l + (s_at σ q.1).1)
  | [], _, _, _, _, hq, _ => by cases hq
  | p :: t, x, z, q, hx, hq, hz => by
    obtain ⟨z', y, a1, a2, a3⟩ := hx
    have e2 : lf_hit σ (p :: t) = bif i_nn p.2 then p.2 * (s_at σ p.1).2 + lf_hit σ t else p.2 * (s_at σ p.1).1 + lf_hit σ t := rfl
    have i1 := lf_t_ok hS a2
    have i2 := s_at_ok hS a1
    rcases List.mem_cons.mp hq with rfl | hq
    · rw [hz] at a1
      cases a1
      refine ⟨fun h1 => ?_, fun h1 => ?_⟩
      · rw [h1] at a3
        rw [e2, h1]
        simp only [show i_nn 1 = true from rfl, cond_true]
        omega
      · rw [h1] at a3
        rw [e2, h1]
        simp only [show i_nn (-1) = false from rfl, cond_false]
        omega
    · have ih := lf_one hS a2 hq hz
      have hb : p.2 * z' ≤ lf_hit σ (p :: t) - lf_hit σ t := by
        rw [e2]
        cases hn : i_nn p.2 with
        | true =>
          have m2 := Int.mul_le_mul_of_nonneg_left i2.2 (i_nn_ok hn)
          simp only [cond_true]
          omega
        | false =>
          have m1 := Int.mul_le_mul_of_nonpos_left (Int.le_of_lt (i_nn_no hn)) i2.1
          simp only [cond_false]
          omega
      exact ⟨fun h1 => by have := ih.1 h1; omega, fun h1 => by have := ih.2 h1; omega⟩
theorem s_nar_ok {β : Type} {ρ : List Int} {f : List (Nat × Int)} {n x : Int} (hx : Lt ρ f x) (h0 : 0 ≤ n + x) {σ0 : SG} (hS0 : Sr ρ σ0) : ∀ (l : List (Nat × Int)) (σ : SG), Sr ρ σ → (∀ q ∈ l, q ∈ f) → ∀ (kk : SG → Option β) (r : β), s_nar σ0 (n + lf_hit σ0 f) l σ kk = some r → ∃ σ', kk σ' = some r ∧ Sr ρ σ'
  | [], σ, hS, _, kk, r, h => ⟨σ, h, hS⟩
  | q :: t, σ, hS, hq, kk, r, h => by
    have h : (bif i_eq q.2 1 then i_fc (i_max (s_at σ0 q.1).1 ((s_at σ0 q.1).2 - (n + lf_hit σ0 f))) (fun a => ax_set σ q.1 (a, (s_at σ0 q.1).2) (fun σ' => s_nar σ0 (n + lf_hit σ0 f) t σ' kk))
      else bif i_eq q.2 (-1) then i_fc (i_min (s_at σ0 q.1).2 ((s_at σ0 q.1).1 + (n + lf_hit σ0 f))) (fun b => ax_set σ q.1 ((s_at σ0 q.1).1, b) (fun σ' => s_nar σ0 (n + lf_hit σ0 f) t σ' kk))
      else s_nar σ0 (n + lf_hit σ0 f) t σ kk) = some r := h
    have hq' : ∀ p ∈ t, p ∈ f := fun p hp => hq p (List.mem_cons_of_mem _ hp)
    cases h1 : i_eq q.2 1 with
    | true =>
      rw [h1] at h
      have h : i_fc (i_max (s_at σ0 q.1).1 ((s_at σ0 q.1).2 - (n + lf_hit σ0 f))) (fun a => ax_set σ q.1 (a, (s_at σ0 q.1).2) (fun σ' => s_nar σ0 (n + lf_hit σ0 f) t σ' kk)) = some r := h
      rw [i_fc_eq, ax_set_eq] at h
      refine s_nar_ok hx h0 hS0 t _ (hS.cut (fun z hz => ?_)) hq' kk r h
      have b := s_at_ok hS0 hz
      have c := (lf_one hS0 hx (hq q List.mem_cons_self) hz).1 (i_eq_ok h1)
      have m := i_max_ok (s_at σ0 q.1).1 ((s_at σ0 q.1).2 - (n + lf_hit σ0 f))
      omega
    | false =>
      rw [h1] at h
      have h : (bif i_eq q.2 (-1) then i_fc (i_min (s_at σ0 q.1).2 ((s_at σ0 q.1).1 + (n + lf_hit σ0 f))) (fun b => ax_set σ q.1 ((s_at σ0 q.1).1, b) (fun σ' => s_nar σ0 (n + lf_hit σ0 f) t σ' kk))
        else s_nar σ0 (n + lf_hit σ0 f) t σ kk) = some r := h
      cases h2 : i_eq q.2 (-1) with
      | true =>
        rw [h2] at h
        have h : i_fc (i_min (s_at σ0 q.1).2 ((s_at σ0 q.1).1 + (n + lf_hit σ0 f))) (fun b => ax_set σ q.1 ((s_at σ0 q.1).1, b) (fun σ' => s_nar σ0 (n + lf_hit σ0 f) t σ' kk)) = some r := h
        rw [i_fc_eq, ax_set_eq] at h
        refine s_nar_ok hx h0 hS0 t _ (hS.cut (fun z hz => ?_)) hq' kk r h
        have b := s_at_ok hS0 hz
        have c := (lf_one hS0 hx (hq q List.mem_cons_self) hz).2 (i_eq_ok h2)
        have m := i_min_ok (s_at σ0 q.1).2 ((s_at σ0 q.1).1 + (n + lf_hit σ0 f))
        omega
      | false =>
        rw [h2] at h
        exact s_nar_ok hx h0 hS0 t σ hS hq' kk r h
def lf_two (l : List (Nat × Int)) : Bool := match l with
  | _ :: _ :: _ => true
  | _ => false
noncomputable def asm {β : Type} (N : NS) (f : LF) (pr : Option β) (kk : NS → Option β) : Option β :=
  i_fc (f.1 + lf_hit N.1 f.2) (fun hi => bif i_nn hi then s_nar N.1 hi f.2 N.1 (fun σ' => kk (σ', (bif lf_two f.2 then f :: N.2.1 else N.2.1), N.2.2)) else pr)
theorem asm_ok {β : Type} {ρ : List Int} {N : NS} (hN : Nk ρ N) {f : LF} {x : Int} (hf : Lv ρ f x) (h0 : 0 ≤ x) {pr : Option β} {kk : NS → Option β} {r : β} (h : asm N f pr kk = some r) : ∃ N', kk N' = some r ∧ Nk ρ N' := by
  unfold asm at h
  rw [i_fc_eq] at h
  obtain ⟨y, a, b⟩ := id hf
  cases hn : i_nn (f.1 + lf_hit N.1 f.2) with
  | false =>
    exfalso
    have := (lf_t_ok hN.1 a).2
    have := i_nn_no hn
    omega
  | true =>
    rw [hn] at h
    obtain ⟨σ', e1, e2⟩ := s_nar_ok a (by omega) hN.1 f.2 N.1 hN.1 (fun _ h => h) _ r h
    refine ⟨_, e1, e2, ?_, hN.2.2⟩
    show ∀ g ∈ (bif lf_two f.2 then f :: N.2.1 else N.2.1), _
    cases lf_two f.2 with
    | false => exact hN.2.1
    | true =>
      intro g hg
      rcases List.mem_cons.mp hg with rfl | hg
      · exact ⟨x, hf, h0⟩
      · exact hN.2.1 g hg
theorem Lv.dec {ρ : List Int} {f : LF} {x : Int} (n : Int) (h : Lv ρ f x) : Lv ρ (f.1 - n, f.2) (x - n) := by
  obtain ⟨y, a, b⟩ := h
  exact ⟨y, a, by show x - n = f.1 - n + y; omega⟩
/-- a form is taken not to be 0 -/
noncomputable def asn {β : Type} (N : NS) (f : LF) (pr : Option β) (kk : NS → Option β) : Option β := match f.2 with
  | [] => bif i_z f.1 then pr else kk N
  | [q] => i_fc (bif i_eq q.2 1 then -f.1 else f.1) (fun v => bif i_eq q.2 1 || i_eq q.2 (-1) then
      (bif i_eq v (s_at N.1 q.1).1 then (bif i_eq v (s_at N.1 q.1).2 then pr else i_fc (v + 1) (fun a => ax_set N.1 q.1 (a, (s_at N.1 q.1).2) (fun σ' => kk (σ', N.2.1, N.2.2))))
       else bif i_eq v (s_at N.1 q.1).2 then i_fc (v - 1) (fun b => ax_set N.1 q.1 ((s_at N.1 q.1).1, b) (fun σ' => kk (σ', N.2.1, N.2.2)))
       else kk (N.1, N.2.1, f :: N.2.2)) else kk (N.1, N.2.1, f :: N.2.2))
  | _ => bif i_nn (lf_lo N.1 f) then asm N (f.1 - 1, f.2) pr kk else kk (N.1, N.2.1, f :: N.2.2)
theorem asn_ok {β : Type} {ρ : List Int} {N : NS} (hN : Nk ρ N) {f : LF} {x : Int} (hf : Lv ρ f x) (h0 : x ≠ 0) {pr : Option β} {kk : NS → Option β} {r : β} (h : asn N f pr kk = some r) : ∃ N', kk N' = some r ∧ Nk ρ N' := by
  have PUSH : Nk ρ (N.1, N.2.1, f :: N.2.2) := ⟨hN.1, hN.2.1, fun g hg => by
    rcases List.mem_cons.mp hg with rfl | hg
    · exact ⟨x, hf, h0⟩
    · exact hN.2.2 g hg⟩
  obtain ⟨n, l⟩ := f
  obtain ⟨y, a, b⟩ := id hf
  unfold asn at h
  match l, h, a with
  | [], h, a =>
    have a : y = 0 := a
    dsimp only at h b
    cases hz : i_z n with
    | true => exfalso; have := i_z_ok hz; omega
    | false => rw [hz] at h; exact ⟨N, h, hN⟩
  | [q], h, a =>
    dsimp only at h b
    rw [i_fc_eq] at h
    obtain ⟨z, u, a1, a2, a3⟩ := a
    have a2 : u = 0 := a2
    have hs := s_at_ok hN.1 a1
    cases hc : (i_eq q.2 1 || i_eq q.2 (-1)) with
    | false => rw [hc] at h; exact ⟨_, h, PUSH⟩
    | true =>
      rw [hc] at h
      have hv : z ≠ (bif i_eq q.2 1 then -n else n) := by
        cases h1 : i_eq q.2 1 with
        | true =>
          have e := i_eq_ok h1
          rw [e] at a3
          show z ≠ -n
          omega
        | false =>
          rw [h1] at hc
          have e := i_eq_ok (a := q.2) (b := -1) hc
          rw [e] at a3
          show z ≠ n
          omega
      generalize (bif i_eq q.2 1 then -n else n) = v at h hv
      simp only [cond_true] at h
      cases h2 : i_eq v (s_at N.1 q.1).1 with
      | true =>
        have e2 := i_eq_ok h2
        rw [h2] at h
        simp only [cond_true] at h
        cases h3 : i_eq v (s_at N.1 q.1).2 with
        | true => exfalso; have := i_eq_ok h3; omega
        | false =>
          rw [h3] at h
          simp only [cond_false] at h
          rw [i_fc_eq, ax_set_eq] at h
          exact ⟨_, h, hN.1.cut (fun z' hz' => by rw [a1] at hz'; cases hz'; omega), hN.2.1, hN.2.2⟩
      | false =>
        rw [h2] at h
        simp only [cond_false] at h
        cases h3 : i_eq v (s_at N.1 q.1).2 with
        | true =>
          have e3 := i_eq_ok h3
          rw [h3] at h
          simp only [cond_true] at h
          rw [i_fc_eq, ax_set_eq] at h
          exact ⟨_, h, hN.1.cut (fun z' hz' => by rw [a1] at hz'; cases hz'; omega), hN.2.1, hN.2.2⟩
        | false =>
          rw [h3] at h
          exact ⟨_, h, PUSH⟩
  | q1 :: q2 :: t, h, a =>
    have h : (bif i_nn (lf_lo N.1 (n, q1 :: q2 :: t)) then asm N (n - 1, q1 :: q2 :: t) pr kk else kk (N.1, N.2.1, (n, q1 :: q2 :: t) :: N.2.2)) = some r := h
    cases hz : i_nn (lf_lo N.1 (n, q1 :: q2 :: t)) with
    | false => rw [hz] at h; exact ⟨_, h, PUSH⟩
    | true =>
      rw [hz] at h
      have b1 := lf_b_ok hN.1 hf
      have b2 := i_nn_ok hz
      exact asm_ok hN (hf.dec 1) (by omega) h
/-- a new unknown -/
noncomputable def nwv {β : Type} (N : NS) (lo hi : Int) (kk : NS → LF → β) : β := i_fc lo (fun lo => i_fc hi (fun hi => ax_fc N.1.length (fun n => kk (N.1 ++ [(lo, hi)], N.2.1, N.2.2) (0, [(n, 1)]))))
theorem nwv_ok {β : Type} {ρ : List Int} {N : NS} (hN : Nk ρ N) {lo hi : Int} (kk : NS → LF → β) {z : Int} (h1 : lo ≤ z) (h2 : z ≤ hi) : ∃ N' f, nwv N lo hi kk = kk N' f ∧ Sb ρ (ρ ++ [z]) ∧ Nk (ρ ++ [z]) N' ∧ Lv (ρ ++ [z]) f z := by
  unfold nwv
  rw [i_fc_eq, i_fc_eq, ax_fc_eq]
  refine ⟨_, _, rfl, Sb.app _ _, ⟨hN.1.app h1 h2, fun g hg => ?_, fun g hg => ?_⟩, Lv.v ?_⟩
  · obtain ⟨x, a, b⟩ := hN.2.1 g hg
    exact ⟨x, a.mono (Sb.app _ _), b⟩
  · obtain ⟨x, a, b⟩ := hN.2.2 g hg
    exact ⟨x, a.mono (Sb.app _ _), b⟩
  · rw [← hN.1.1]
    simp
end
section
/-! 27.nop -/
/-! NUMBERS: what the operations give, by forms and ranges -/
noncomputable def in32 (N : NS) (f : LF) : Bool := i_le (-2147483648) (lf_lo N.1 f) && i_le (lf_hi N.1 f) 2147483647
noncomputable def in64 (N : NS) (f : LF) : Bool := i_le (-9223372036854775808) (lf_lo N.1 f) && i_le (lf_hi N.1 f) 9223372036854775807
theorem in32_ok {ρ : List Int} {N : NS} (hN : Nk ρ N) {f : LF} {x : Int} (h : in32 N f = true) (hx : Lv ρ f x) : -2147483648 ≤ x ∧ x ≤ 2147483647 := by
  have w := bb_and h
  have b := lf_b_ok hN.1 hx
  have := i_le_ok w.1
  have := i_le_ok w.2
  omega
theorem in64_ok {ρ : List Int} {N : NS} (hN : Nk ρ N) {f : LF} {x : Int} (h : in64 N f = true) (hx : Lv ρ f x) : -9223372036854775808 ≤ x ∧ x ≤ 9223372036854775807 := by
  have w := bb_and h
  have b := lf_b_ok hN.1 hx
  have := i_le_ok w.1
  have := i_le_ok w.2
  omega
noncomputable def n_f32 {β : Type} (N : NS) (kk : NS → LF → Option β) : Option β := nwv N (-2147483648) 2147483647 kk
noncomputable def n_f64 {β : Type} (N : NS) (kk : NS → LF → Option β) : Option β := nwv N (-9223372036854775808) 9223372036854775807 kk
/-- what an operation's rule must give -/
def NR {β : Type} (ρ : List Int) (kk : NS → LF → Option β) (r : β) (z : Int) : Prop := ∃ (N' : NS) (f : LF) (ρ' : List Int), kk N' f = some r ∧ Sb ρ ρ' ∧ Nk ρ' N' ∧ Lv ρ' f z
theorem NR.same {β : Type} {ρ : List Int} {kk : NS → LF → Option β} {r : β} {z : Int} {N : NS} (hN : Nk ρ N) {f : LF} (hf : Lv ρ f z) (h : kk N f = some r) : NR ρ kk r z := ⟨N, f, ρ, h, Sb.rf ρ, hN, hf⟩
theorem NR.new {β : Type} {ρ : List Int} {kk : NS → LF → Option β} {r : β} {z : Int} {N : NS} (hN : Nk ρ N) {lo hi : Int} (h1 : lo ≤ z) (h2 : z ≤ hi) (h : nwv N lo hi kk = some r) : NR ρ kk r z := by
  obtain ⟨N', f, e1, e2, e3, e4⟩ := nwv_ok hN kk h1 h2
  exact ⟨N', f, _, by rw [← e1]; exact h, e2, e3, e4⟩
theorem NR.f32 {β : Type} {ρ : List Int} {kk : NS → LF → Option β} {r : β} {x : Int32} {N : NS} (hN : Nk ρ N) (h : n_f32 N kk = some r) : NR ρ kk r x.toInt := by
  have := i32_rng x
  exact NR.new hN (by omega) (by omega) h
theorem NR.f64 {β : Type} {ρ : List Int} {kk : NS → LF → Option β} {r : β} {x : Int64} {N : NS} (hN : Nk ρ N) (h : n_f64 N kk = some r) : NR ρ kk r x.toInt := by
  have := i64_rng x
  exact NR.new hN (by omega) (by omega) h
theorem NR.ex32 {β : Type} {ρ : List Int} {kk : NS → LF → Option β} {r : β} {x : Int32} {N : NS} (hN : Nk ρ N) {f : LF} {z : Int} (hf : Lv ρ f z) (hz : -2147483648 ≤ z → z ≤ 2147483647 → x.toInt = z) (h : (bif in32 N f then kk N f else n_f32 N kk) = some r) : NR ρ kk r x.toInt := by
  cases hb : in32 N f with
  | true =>
    rw [hb] at h
    have b := in32_ok hN hb hf
    rw [hz b.1 b.2]
    exact NR.same hN hf h
  | false => rw [hb] at h; exact NR.f32 hN h
theorem NR.ex64 {β : Type} {ρ : List Int} {kk : NS → LF → Option β} {r : β} {x : Int64} {N : NS} (hN : Nk ρ N) {f : LF} {z : Int} (hf : Lv ρ f z) (hz : -9223372036854775808 ≤ z → z ≤ 9223372036854775807 → x.toInt = z) (h : (bif in64 N f then kk N f else n_f64 N kk) = some r) : NR ρ kk r x.toInt := by
  cases hb : in64 N f with
  | true =>
    rw [hb] at h
    have b := in64_ok hN hb hf
    rw [hz b.1 b.2]
    exact NR.same hN hf h
  | false => rw [hb] at h; exact NR.f64 hN h
theorem t_add (x y : Int32) (h1 : -2147483648 ≤ x.toInt + y.toInt) (h2 : x.toInt + y.toInt ≤ 2147483647) : (x + y).toInt = x.toInt + y.toInt := by
  rw [Int32.toInt_add, Int.bmod_def]
  omega
theorem t_sub (x y : Int32) (h1 : -2147483648 ≤ x.toInt - y.toInt) (h2 : x.toInt - y.toInt ≤ 2147483647) : (x - y).toInt = x.toInt - y.toInt := by
  rw [Int32.toInt_sub, Int.bmod_def]
  omega
theorem bm32 {z : Int} (h1 : -2147483648 ≤ z) (h2 : z ≤ 2147483647) : z.bmod 4294967296 = z := by
  rw [Int.bmod_def]
  omega
theorem bm64 {z : Int} (h1 : -9223372036854775808 ≤ z) (h2 : z ≤ 9223372036854775807) : z.bmod 18446744073709551616 = z := by
  rw [Int.bmod_def]
  omega
theorem t_mul (x y : Int32) (h1 : -2147483648 ≤ x.toInt * y.toInt) (h2 : x.toInt * y.toInt ≤ 2147483647) : (x * y).toInt = x.toInt * y.toInt := by
  rw [Int32.toInt_mul]
  exact bm32 h1 h2
theorem nn_nI {x : Int32} (h : 0 ≤ x.toInt) : x = nI x.toInt.toNat ∧ x.toInt.toNat < 2147483648 := by
  have := i32_rng x
  have hn : x.toInt.toNat < 2147483648 := by omega
  refine ⟨?_, hn⟩
  apply Int32.toInt_inj.mp
  rw [nI_toInt (by omega)]
  omega
theorem any_nI (y : Int32) : ∃ n, n < 4294967296 ∧ y = nI n := ⟨y.toBitVec.toNat, y.toBitVec.isLt, i32_bv (by rw [nI_bvn y.toBitVec.isLt])⟩
/-- the least number of ones that is no less -/
def ones (m : Nat) : Nat := 2 ^ (Nat.log2 m + 1) - 1
theorem ones_lt (m : Nat) : m < 2 ^ (Nat.log2 m + 1) := Nat.lt_log2_self
def cst (f : LF) : Bool := match f.2 with
  | [] => true
  | _ => false
theorem cst_ok {ρ : List Int} {f : LF} {x : Int} (h : cst f = true) (hx : Lv ρ f x) : x = f.1 := by
  obtain ⟨n, l⟩ := f
  cases l with
  | nil => exact hx.cn
  | cons q t => cases h
/-- both are numbers that are 0 or more: by bits -/
noncomputable def n_cc {β : Type} (op : Nat) (N : NS) (a b : LF) (kk : NS → LF → Option β) (el : Option β) : Option β := bif cst a && (cst b && (i_nn a.1 && i_nn b.1)) then ax_fc (ax_cop op a.1.toNat b.1.toNat) (fun n => bif Nat.blt n 2147483648 then kk N (Int.ofNat n, []) else n_f32 N kk) else el
theorem n_cc_ok {β : Type} {ρ : List Int} {N : NS} (hN : Nk ρ N) {op : Nat} {a b : LF} {x y : Int32} (ha : Lv ρ a x.toInt) (hb : Lv ρ b y.toInt) {kk : NS → LF → Option β} {el : Option β} {r : β} (hel : el = some r → NR ρ kk r (ax_fop op x y).toInt) (h : n_cc op N a b kk el = some r) : NR ρ kk r (ax_fop op x y).toInt := by
  unfold n_cc at h
  cases hc : (cst a && (cst b && (i_nn a.1 && i_nn b.1))) with
  | false => rw [hc] at h; exact hel h
  | true =>
    rw [hc] at h
    have w := bb_and hc
    have w2 := bb_and w.2
    have w3 := bb_and w2.2
    have ea := cst_ok w.1 ha
    have eb := cst_ok w2.1 hb
    have na := i_nn_ok w3.1
    have nb := i_nn_ok w3.2
    have hx := nn_nI (x := x) (by omega)
    have hy := nn_nI (x := y) (by omega)
    have hk := ax_cop_ok op x.toInt.toNat y.toInt.toNat (by omega) (by omega)
    rw [← hx.1, ← hy.1] at hk
    simp only [cond_true] at h
    rw [ax_fc_eq, ← ea, ← eb] at h
    cases hl : Nat.blt (ax_cop op x.toInt.toNat y.toInt.toNat) 2147483648 with
    | true =>
      rw [hl] at h
      have hl := bb_lt hl
      refine NR.same hN (f := (Int.ofNat (ax_cop op x.toInt.toNat y.toInt.toNat), [])) ?_ h
      rw [← hk, nI_toInt (by omega)]
      exact Lv.c ρ _
    | false => rw [hl] at h; exact NR.f32 hN h
noncomputable def n_and {β : Type} (N : NS) (a b : LF) (kk : NS → LF → Option β) : Option β :=
  bif i_nn (lf_lo N.1 b) then nwv N 0 (bif i_nn (lf_lo N.1 a) then i_min (lf_hi N.1 a) (lf_hi N.1 b) else lf_hi N.1 b) (fun N' f => bif cst b then kk N' f else lf_add (-1) f b (fun g => kk (N'.1, g :: N'.2.1, N'.2.2) f))
  else bif i_nn (lf_lo N.1 a) then nwv N 0 (lf_hi N.1 a) kk else n_f32 N kk
theorem and_i {x y : Int32} (h : 0 ≤ y.toInt) : 0 ≤ (x &&& y).toInt ∧ (x &&& y).toInt ≤ y.toInt := by
  have h1 := zI_cast (x &&& y)
  have h2 := zI_cast y
  have := and_rng (x := x) (y := y) (by omega)
  omega
theorem and_c (x y : Int32) : x &&& y = y &&& x := by
  apply Int32.toBitVec_inj.mp
  rw [Int32.toBitVec_and, Int32.toBitVec_and]
  exact BitVec.and_comm _ _
theorem n_and_ok {β : Type} {ρ : List Int} {N : NS} (hN : Nk ρ N) {a b : LF} {x y : Int32} (ha : Lv ρ a x.toInt) (hb : Lv ρ b y.toInt) {kk : NS → LF → Option β} {r : β} (h : n_and N a b kk = some r) : NR ρ kk r (x &&& y).toInt := by
  unfold n_and at h
  have ba := lf_b_ok hN.1 ha
  have bb := lf_b_ok hN.1 hb
  cases h1 : i_nn (lf_lo N.1 b) with
  | true =>
    rw [h1] at h
    simp only [cond_true] at h
    have n1 := i_nn_ok h1
    have k1 := and_i (x := x) (y := y) (by omega)
    have hup : (x &&& y).toInt ≤ (bif i_nn (lf_lo N.1 a) then i_min (lf_hi N.1 a) (lf_hi N.1 b) else lf_hi N.1 b) := by
      cases h2 : i_nn (lf_lo N.1 a) with
      | true =>
        have n2 := i_nn_ok h2
        have k2 := and_i (x := y) (y := x) (by omega)
        rw [and_c] at k2
        have m := i_min_ok (lf_hi N.1 a) (lf_hi N.1 b)
        show _ ≤ i_min _ _
        omega
      | false => show _ ≤ lf_hi N.1 b; omega
    obtain ⟨N', f, e1, e2, e3, e4⟩ := nwv_ok hN (fun N' f => bif cst b then kk N' f else lf_add (-1) f b (fun g => kk (N'.1, g :: N'.2.1, N'.2.2) f)) k1.1 hup
    rw [e1] at h
    cases hc : cst b with
    | true => rw [hc] at h; exact ⟨N', f, _, h, e2, e3, e4⟩
    | false =>
      rw [hc] at h
      simp only [cond_false] at h
      obtain ⟨g, g1, g2⟩ := lf_add_ok (-1) f b (fun g => kk (N'.1, g :: N'.2.1, N'.2.2) f)
      rw [g1] at h
      refine ⟨_, f, _, h, e2, ⟨e3.1, fun q hq => ?_, e3.2.2⟩, e4⟩
      rcases List.mem_cons.mp hq with rfl | hq
      · exact ⟨_, g2 _ _ _ e4 (hb.mono e2), by omega⟩
      · exact e3.2.1 q hq
  | false =>
    rw [h1] at h
    simp only [cond_false] at h
    cases h2 : i_nn (lf_lo N.1 a) with
    | true =>
      rw [h2] at h
      have n2 := i_nn_ok h2
      have k2 := and_i (x := y) (y := x) (by omega)
      rw [and_c] at k2
      exact NR.new hN k2.1 (by omega) h
    | false => rw [h2] at h; exact NR.f32 hN h
noncomputable def n_orx {β : Type} (N : NS) (a b : LF) (kk : NS → LF → Option β) : Option β :=
  bif i_nn (lf_lo N.1 a) && i_nn (lf_lo N.1 b) then nwv N 0 (Int.ofNat (ones (i_max (lf_hi N.1 a) (lf_hi N.1 b)).toNat)) kk else n_f32 N kk
theorem n_orx_ok {β : Type} {ρ : List Int} {N : NS} (hN : Nk ρ N) {op : Nat} (hop : op = 4 ∨ op = 5) {a b : LF} {x y : Int32} (ha : Lv ρ a x.toInt) (hb : Lv ρ b y.toInt) {kk : NS → LF → Option β} {r : β} (h : n_orx N a b kk = some r) : NR ρ kk r (ax_fop op x y).toInt := by
  unfold n_orx at h
  have ba := lf_b_ok hN.1 ha
  have bb := lf_b_ok hN.1 hb
  cases h1 : (i_nn (lf_lo N.1 a) && i_nn (lf_lo N.1 b)) with
  | false => rw [h1] at h; exact NR.f32 hN h
  | true =>
    rw [h1] at h
    have w := bb_and h1
    have na := i_nn_ok w.1
    have nb := i_nn_ok w.2
    have hx := nn_nI (x := x) (by omega)
    have hy := nn_nI (x := y) (by omega)
    have hk := ax_cop_ok op x.toInt.toNat y.toInt.toNat (by omega) (by omega)
    rw [← hx.1, ← hy.1] at hk
    have m := i_max_ok (lf_hi N.1 a) (lf_hi N.1 b)
    have l0 := ones_lt (i_max (lf_hi N.1 a) (lf_hi N.1 b)).toNat
    have l1 : x.toInt.toNat < 2 ^ (Nat.log2 (i_max (lf_hi N.1 a) (lf_hi N.1 b)).toNat + 1) := by omega
    have l2 : y.toInt.toNat < 2 ^ (Nat.log2 (i_max (lf_hi N.1 a) (lf_hi N.1 b)).toNat + 1) := by omega
    have l3 : ax_cop op x.toInt.toNat y.toInt.toNat < 2 ^ (Nat.log2 (i_max (lf_hi N.1 a) (lf_hi N.1 b)).toNat + 1) ∧ ax_cop op x.toInt.toNat y.toInt.toNat < 2 ^ 31 := by
      rcases hop with rfl | rfl
      · exact ⟨Nat.or_lt_two_pow l1 l2, Nat.or_lt_two_pow hx.2 hy.2⟩
      · exact ⟨Nat.xor_lt_two_pow l1 l2, Nat.xor_lt_two_pow hx.2 hy.2⟩
    rw [← hk, nI_toInt (by omega)]
    refine NR.new hN (Int.natCast_nonneg _) ?_ h
    show ((ax_cop op x.toInt.toNat y.toInt.toNat : Nat) : Int) ≤ ((ones _ : Nat) : Int)
    unfold ones
    omega
/-- 6: left; 7, 8: right -/
noncomputable def n_shl {β : Type} (N : NS) (a b : LF) (kk : NS → LF → Option β) : Option β :=
  bif i_nn (lf_lo N.1 a) && (i_nn (lf_lo N.1 b) && i_le (lf_hi N.1 b) 31) then
    (bif cst b then lf_sc (Int.ofNat (2 ^ b.1.toNat)) a 0 (fun f => bif in32 N f then kk N f else n_f32 N kk)
     else i_fc (lf_hi N.1 a * Int.ofNat (2 ^ (lf_hi N.1 b).toNat)) (fun u => bif i_le u 2147483647 then nwv N (lf_lo N.1 a) u kk else n_f32 N kk))
  else n_f32 N kk
theorem n_shl_ok {β : Type} {ρ : List Int} {N : NS} (hN : Nk ρ N) {a b : LF} {x y : Int32} (ha : Lv ρ a x.toInt) (hb : Lv ρ b y.toInt) {kk : NS → LF → Option β} {r : β} (h : n_shl N a b kk = some r) : NR ρ kk r (ax_fop 6 x y).toInt := by
  unfold n_shl at h
  have ba := lf_b_ok hN.1 ha
  have bb := lf_b_ok hN.1 hb
  cases h1 : (i_nn (lf_lo N.1 a) && (i_nn (lf_lo N.1 b) && i_le (lf_hi N.1 b) 31)) with
  | false => rw [h1] at h; exact NR.f32 hN h
  | true =>
    rw [h1] at h
    simp only [cond_true] at h
    have w := bb_and h1
    have w2 := bb_and w.2
    have na := i_nn_ok w.1
    have nb := i_nn_ok w2.1
    have n31 := i_le_ok w2.2
    have hx := nn_nI (x := x) (by omega)
    have hy := nn_nI (x := y) (by omega)
    have hk := ax_cop_ok 6 x.toInt.toNat y.toInt.toNat (by omega) (by omega)
    rw [← hx.1, ← hy.1] at hk
    have hk2 : ax_cop 6 x.toInt.toNat y.toInt.toNat = (x.toInt.toNat * 2 ^ y.toInt.toNat) % 4294967296 := by
      show (x.toInt.toNat * 2 ^ (y.toInt.toNat % 32)) % 4294967296 = _
      rw [Nat.mod_eq_of_lt (show y.toInt.toNat < 32 by omega)]
    have EX : (x.toInt.toNat * 2 ^ y.toInt.toNat) < 2147483648 → (ax_fop 6 x y).toInt = ((x.toInt.toNat * 2 ^ y.toInt.toNat : Nat) : Int) := fun q => by
      rw [← hk, hk2, Nat.mod_eq_of_lt (by omega), nI_toInt (by omega)]
    cases hc : cst b with
    | true =>
      rw [hc] at h
      simp only [cond_true] at h
      have eb := cst_ok hc hb
      obtain ⟨f, g1, g2⟩ := lf_sc_ok (Int.ofNat (2 ^ b.1.toNat)) a 0 (fun f => bif in32 N f then kk N f else n_f32 N kk)
      rw [g1] at h
      refine NR.ex32 hN (g2 ρ _ ha) (fun z1 z2 => ?_) h
      have e2 : ((x.toInt.toNat * 2 ^ y.toInt.toNat : Nat) : Int) = Int.ofNat (2 ^ b.1.toNat) * x.toInt + 0 := by
        rw [eb, Int.natCast_mul, Int.toNat_of_nonneg (by omega), Int.mul_comm]
        show _ = ((2 ^ b.1.toNat : Nat) : Int) * x.toInt + 0
        omega
      rw [← e2] at z2 ⊢
      exact EX (by omega)
    | false =>
      rw [hc] at h
      simp only [cond_false] at h
      rw [i_fc_eq] at h
      cases h2 : i_le (lf_hi N.1 a * Int.ofNat (2 ^ (lf_hi N.1 b).toNat)) 2147483647 with
      | false => rw [h2] at h; exact NR.f32 hN h
      | true =>
        rw [h2] at h
        simp only [cond_true] at h
        have u := i_le_ok h2
        have p1 : 2 ^ y.toInt.toNat ≤ 2 ^ (lf_hi N.1 b).toNat := Nat.pow_le_pow_right (by omega) (by omega)
        have p2 : x.toInt.toNat * 2 ^ y.toInt.toNat ≤ (lf_hi N.1 a).toNat * 2 ^ (lf_hi N.1 b).toNat := Nat.mul_le_mul (by omega) p1
        have p3 : (((lf_hi N.1 a).toNat * 2 ^ (lf_hi N.1 b).toNat : Nat) : Int) = lf_hi N.1 a * Int.ofNat (2 ^ (lf_hi N.1 b).toNat) := by
          rw [Int.natCast_mul, Int.toNat_of_nonneg (by omega)]
          rfl
        have p4 : x.toInt.toNat * 1 ≤ x.toInt.toNat * 2 ^ y.toInt.toNat := Nat.mul_le_mul (Nat.le_refl _) Nat.one_le_two_pow
        rw [EX (by omega)]
        exact NR.new hN (by omega) (by omega) h
noncomputable def n_shr {β : Type} (N : NS) (a b : LF) (kk : NS → LF → Option β) : Option β :=
  bif i_nn (lf_lo N.1 a) then (bif cst b && (i_nn b.1 && i_le b.1 31) then nwv N 0 (Int.ofNat ((lf_hi N.1 a).toNat / 2 ^ b.1.toNat)) kk else nwv N 0 (lf_hi N.1 a) kk) else n_f32 N kk
theorem n_shr_ok {β : Type} {ρ : List Int} {N : NS} (hN : Nk ρ N) {op : Nat} (hop : op = 7 ∨ op = 8) {a b : LF} {x y : Int32} (ha : Lv ρ a x.toInt) (hb : Lv ρ b y.toInt) {kk : NS → LF → Option β} {r : β} (h : n_shr N a b kk = some r) : NR ρ kk r (ax_fop op x y).toInt := by
  unfold n_shr at h
  have ba := lf_b_ok hN.1 ha
  have bb := lf_b_ok hN.1 hb
  cases h1 : i_nn (lf_lo N.1 a) with
  | false => rw [h1] at h; exact NR.f32 hN h
  | true =>
    rw [h1] at h
    simp only [cond_true] at h
    have na := i_nn_ok h1
    have hx := nn_nI (x := x) (by omega)
    obtain ⟨m, hm, hy⟩ := any_nI y
    have hk := ax_cop_ok op x.toInt.toNat m (by omega) hm
    rw [← hx.1, ← hy] at hk
    have hk2 : ax_cop op x.toInt.toNat m = x.toInt.toNat / 2 ^ (m % 32) := by
      rcases hop with rfl | rfl
      · show (bif Nat.blt x.toInt.toNat 2147483648 then x.toInt.toNat / 2 ^ (m % 32) else _) = _
        rw [show Nat.blt x.toInt.toNat 2147483648 = true from Nat.ble_eq_true_of_le hx.2]
        rfl
      · rfl
    have hle := Nat.div_le_self x.toInt.toNat (2 ^ (m % 32))
    rw [← hk, hk2, nI_toInt (by omega)]
    cases hc : (cst b && (i_nn b.1 && i_le b.1 31)) with
    | false =>
      rw [hc] at h
      exact NR.new hN (Int.natCast_nonneg _) (by omega) h
    | true =>
      rw [hc] at h
      have w := bb_and hc
      have w2 := bb_and w.2
      have eb := cst_ok w.1 hb
      have n0 := i_nn_ok w2.1
      have n31 := i_le_ok w2.2
      have em : m % 32 = b.1.toNat := by
        have hy2 := nn_nI (x := y) (by omega)
        have : y.toBitVec.toNat = m := by rw [hy, nI_bvn hm]
        have : y.toBitVec.toNat = y.toInt.toNat := by
          have e := nI_bvn (n := y.toInt.toNat) (by omega)
          rw [← hy2.1] at e
          exact e
        omega
      refine NR.new hN (Int.natCast_nonneg _) ?_ h
      rw [em]
      show ((x.toInt.toNat / 2 ^ b.1.toNat : Nat) : Int) ≤ (((lf_hi N.1 a).toNat / 2 ^ b.1.toNat : Nat) : Int)
      have := Nat.div_le_div_right (c := 2 ^ b.1.toNat) (show x.toInt.toNat ≤ (lf_hi N.1 a).toNat by omega)
      omega
noncomputable def n_mul {β : Type} (N : NS) (a b : LF) (kk : NS → LF → Option β) : Option β :=
  bif cst a then lf_sc a.1 b 0 (fun f => bif in32 N f then kk N f else n_f32 N kk)
  else bif cst b then lf_sc b.1 a 0 (fun f => bif in32 N f then kk N f else n_f32 N kk) else n_f32 N kk
theorem n_mul_ok {β : Type} {ρ : List Int} {N : NS} (hN : Nk ρ N) {a b : LF} {x y : Int32} (ha : Lv ρ a x.toInt) (hb : Lv ρ b y.toInt) {kk : NS → LF → Option β} {r : β} (h : n_mul N a b kk = some r) : NR ρ kk r (x * y).toInt := by
  unfold n_mul at h
  cases h1 : cst a with
  | true =>
    rw [h1] at h
    simp only [cond_true] at h
    have ea := cst_ok h1 ha
    obtain ⟨f, g1, g2⟩ := lf_sc_ok a.1 b 0 (fun f => bif in32 N f then kk N f else n_f32 N kk)
    rw [g1] at h
    have e : a.1 * y.toInt + 0 = x.toInt * y.toInt := by rw [ea]; omega
    have hf := g2 ρ _ hb
    rw [e] at hf
    exact NR.ex32 hN hf (fun z1 z2 => t_mul x y z1 z2) h
  | false =>
    rw [h1] at h
    simp only [cond_false] at h
    cases h2 : cst b with
    | true =>
      rw [h2] at h
      simp only [cond_true] at h
      have eb := cst_ok h2 hb
      obtain ⟨f, g1, g2⟩ := lf_sc_ok b.1 a 0 (fun f => bif in32 N f then kk N f else n_f32 N kk)
      rw [g1] at h
      have e : b.1 * x.toInt + 0 = x.toInt * y.toInt := by rw [eb, Int.mul_comm]; omega
      have hf := g2 ρ _ ha
      rw [e] at hf
      exact NR.ex32 hN hf (fun z1 z2 => t_mul x y z1 z2) h
    | false => rw [h2] at h; exact NR.f32 hN h
noncomputable def n_ib {β : Type} (op : Nat) (N : NS) (a b : LF) (kk : NS → LF → Option β) : Option β :=
  bif Nat.ble op 2 then (bif Nat.beq op 0 then lf_add 1 a b (fun f => bif in32 N f then kk N f else n_f32 N kk)
    else bif Nat.beq op 1 then lf_add (-1) b a (fun f => bif in32 N f then kk N f else n_f32 N kk) else n_mul N a b kk)
  else bif Nat.beq op 5 && (cst b && i_eq b.1 (-1)) then lf_sc (-1) a (-1) (fun f => bif in32 N f then kk N f else n_f32 N kk)
  else n_cc op N a b kk (bif Nat.beq op 3 then n_and N a b kk else bif Nat.ble op 5 then n_orx N a b kk else bif Nat.beq op 6 then n_shl N a b kk else n_shr N a b kk)
theorem t_not (x y : Int32) (h : y.toInt = -1) : (x ^^^ y).toInt = -1 - x.toInt := by
  have hy : y = -1 := Int32.toInt_inj.mp (by rw [h]; rfl)
  subst hy
  have e : x ^^^ -1 = ~~~ x := by
    apply Int32.toBitVec_inj.mp
    rw [Int32.toBitVec_xor, Int32.toBitVec_not]
    show x.toBitVec ^^^ BitVec.allOnes 32 = _
    rw [BitVec.xor_allOnes]
  rw [e, Int32.toInt_not]
  have := i32_rng x
  show (-x.toInt - 1).bmod 4294967296 = -1 - x.toInt
  rw [bm32 (z := -x.toInt - 1) (by omega) (by omega)]
  omega
theorem n_ib_ok {β : Type} {ρ : List Int} {N : NS} (hN : Nk ρ N) {op : Nat} (ho : op < 9) {a b : LF} {x y : Int32} (ha : Lv ρ a x.toInt) (hb : Lv ρ b y.toInt) {kk : NS → LF → Option β} {r : β} (h : n_ib op N a b kk = some r) : NR ρ kk r (ax_fop op x y).toInt := by
  unfold n_ib at h
  cases h2 : Nat.ble op 2 with
  | true =>
    rw [h2] at h
    simp only [cond_true] at h
    have := bb_le h2
    rcases (show op = 0 ∨ op = 1 ∨ op = 2 by omega) with rfl | rfl | rfl
    · obtain ⟨f, g1, g2⟩ := lf_add_ok 1 a b (fun f => bif in32 N f then kk N f else n_f32 N kk)
      have h : lf_add 1 a b (fun f => bif in32 N f then kk N f else n_f32 N kk) = some r := h
      rw [g1] at h
      have hf := g2 ρ _ _ ha hb
      rw [show 1 * x.toInt + y.toInt = x.toInt + y.toInt by omega] at hf
      exact NR.ex32 hN hf (fun z1 z2 => t_add x y z1 z2) h
    · obtain ⟨f, g1, g2⟩ := lf_add_ok (-1) b a (fun f => bif in32 N f then kk N f else n_f32 N kk)
      have h : lf_add (-1) b a (fun f => bif in32 N f then kk N f else n_f32 N kk) = some r := h
      rw [g1] at h
      have hf := g2 ρ _ _ hb ha
      rw [show -1 * y.toInt + x.toInt = x.toInt - y.toInt by omega] at hf
      exact NR.ex32 hN hf (fun z1 z2 => t_sub x y z1 z2) h
    · exact n_mul_ok hN ha hb h
  | false =>
    rw [h2] at h
    simp only [cond_false] at h
    have := bb_nle h2
    cases h5 : (Nat.beq op 5 && (cst b && i_eq b.1 (-1))) with
    | true =>
      rw [h5] at h
      simp only [cond_true] at h
      have w := bb_and h5
      have w2 := bb_and w.2
      have e5 := bb_eq w.1
      subst e5
      have eb := cst_ok w2.1 hb
      have e1 := i_eq_ok w2.2
      obtain ⟨f, g1, g2⟩ := lf_sc_ok (-1) a (-1) (fun f => bif in32 N f then kk N f else n_f32 N kk)
      rw [g1] at h
      have hf := g2 ρ _ ha
      refine NR.ex32 hN hf (fun z1 z2 => ?_) h
      show (x ^^^ y).toInt = _
      rw [t_not x y (by omega)]
      omega
    | false =>
      rw [h5] at h
      simp only [cond_false] at h
      refine n_cc_ok hN ha hb (fun h => ?_) h
      rcases (show op = 3 ∨ op = 4 ∨ op = 5 ∨ op = 6 ∨ op = 7 ∨ op = 8 by omega) with rfl | rfl | rfl | rfl | rfl | rfl
      · exact n_and_ok hN ha hb h
      · exact n_orx_ok hN (Or.inl rfl) ha hb h
      · exact n_orx_ok hN (Or.inr rfl) ha hb h
      · exact n_shl_ok hN ha hb h
      · exact n_shr_ok hN (Or.inl rfl) ha hb h
      · exact n_shr_ok hN (Or.inr rfl) ha hb h
end
section
/-! 28.nop2 -/
/-! NUMBERS, 2: division, longs, conversions -/
theorem div_nn {x y : Int32} (h1 : 0 ≤ x.toInt) (h2 : 1 ≤ y.toInt) : (x / y).toInt = x.toInt / y.toInt := by
  rw [Int32.toInt_div, Int.tdiv_eq_ediv_of_nonneg h1]
  have b1 := i32_rng x
  have q1 := Int.ediv_nonneg h1 (show 0 ≤ y.toInt by omega)
  have q2 := Int.ediv_le_self y.toInt h1
  exact bm32 (by omega) (by omega)
theorem rem_nn {x y : Int32} (h1 : 0 ≤ x.toInt) (h2 : 1 ≤ y.toInt) : (x - x / y * y).toInt = x.toInt % y.toInt := by
  have b1 := i32_rng x
  have e1 := div_nn h1 h2
  have q1 := Int.ediv_nonneg h1 (show 0 ≤ y.toInt by omega)
  have e2 := Int.mul_ediv_add_emod x.toInt y.toInt
  have e3 := Int.emod_nonneg x.toInt (show y.toInt ≠ 0 by omega)
  have e4 := Int.mul_nonneg (show 0 ≤ y.toInt by omega) q1
  have e5 : (x / y * y).toInt = y.toInt * (x.toInt / y.toInt) := by
    rw [t_mul (x / y) y (by rw [e1, Int.mul_comm]; omega) (by rw [e1, Int.mul_comm]; omega), e1, Int.mul_comm]
  rw [t_sub x (x / y * y) (by rw [e5]; omega) (by rw [e5]; omega), e5]
  omega
theorem div_nnL {x y : Int64} (h1 : 0 ≤ x.toInt) (h2 : 1 ≤ y.toInt) : (x / y).toInt = x.toInt / y.toInt := by
  rw [Int64.toInt_div, Int.tdiv_eq_ediv_of_nonneg h1]
  have b1 := i64_rng x
  have q1 := Int.ediv_nonneg h1 (show 0 ≤ y.toInt by omega)
  have q2 := Int.ediv_le_self y.toInt h1
  exact bm64 (by omega) (by omega)
theorem t_mulL (x y : Int64) (h1 : -9223372036854775808 ≤ x.toInt * y.toInt) (h2 : x.toInt * y.toInt ≤ 9223372036854775807) : (x * y).toInt = x.toInt * y.toInt := by
  rw [Int64.toInt_mul]
  exact bm64 h1 h2
theorem t_addL (x y : Int64) (h1 : -9223372036854775808 ≤ x.toInt + y.toInt) (h2 : x.toInt + y.toInt ≤ 9223372036854775807) : (x + y).toInt = x.toInt + y.toInt := by
  rw [Int64.toInt_add]
  exact bm64 h1 h2
theorem t_subL (x y : Int64) (h1 : -9223372036854775808 ≤ x.toInt - y.toInt) (h2 : x.toInt - y.toInt ≤ 9223372036854775807) : (x - y).toInt = x.toInt - y.toInt := by
  rw [Int64.toInt_sub]
  exact bm64 h1 h2
theorem rem_nnL {x y : Int64} (h1 : 0 ≤ x.toInt) (h2 : 1 ≤ y.toInt) : (x - x / y * y).toInt = x.toInt % y.toInt := by
  have b1 := i64_rng x
  have e1 := div_nnL h1 h2
  have q1 := Int.ediv_nonneg h1 (show 0 ≤ y.toInt by omega)
  have e2 := Int.mul_ediv_add_emod x.toInt y.toInt
  have e3 := Int.emod_nonneg x.toInt (show y.toInt ≠ 0 by omega)
  have e4 := Int.mul_nonneg (show 0 ≤ y.toInt by omega) q1
  have e5 : (x / y * y).toInt = y.toInt * (x.toInt / y.toInt) := by
    rw [t_mulL (x / y) y (by rw [e1, Int.mul_comm]; omega) (by rw [e1, Int.mul_comm]; omega), e1, Int.mul_comm]
  rw [t_subL x (x / y * y) (by rw [e5]; omega) (by rw [e5]; omega), e5]
  omega
theorem ne0 {y : Int32} (h : y.toInt ≠ 0) : ¬ y = 0 := fun e => by
  subst e
  exact absurd h (by decide)
theorem ne0L {y : Int64} (h : y.toInt ≠ 0) : ¬ y = 0 := fun e => by
  subst e
  exact absurd h (by decide)
/-- longs: 0 add, 1 sub, others anything -/
noncomputable def n_lb {β : Type} (op : Nat) (N : NS) (a b : LF) (kk : NS → LF → Option β) : Option β :=
  bif Nat.beq op 0 then lf_add 1 a b (fun f => bif in64 N f then kk N f else n_f64 N kk)
  else bif Nat.beq op 1 then lf_add (-1) b a (fun f => bif in64 N f then kk N f else n_f64 N kk) else n_f64 N kk
theorem n_lb_ok {β : Type} {ρ : List Int} {N : NS} (hN : Nk ρ N) {op : Nat} {a b : LF} {x y : Int64} (ha : Lv ρ a x.toInt) (hb : Lv ρ b y.toInt) {kk : NS → LF → Option β} {r : β} (h : n_lb op N a b kk = some r) : NR ρ kk r (ax_flo op x y).toInt := by
  unfold n_lb at h
  cases h0 : Nat.beq op 0 with
  | true =>
    have e := bb_eq h0
    subst e
    obtain ⟨f, g1, g2⟩ := lf_add_ok 1 a b (fun f => bif in64 N f then kk N f else n_f64 N kk)
    have h : lf_add 1 a b (fun f => bif in64 N f then kk N f else n_f64 N kk) = some r := h
    rw [g1] at h
    have hf := g2 ρ _ _ ha hb
    rw [show 1 * x.toInt + y.toInt = x.toInt + y.toInt by omega] at hf
    exact NR.ex64 hN hf (fun z1 z2 => t_addL x y z1 z2) h
  | false =>
    rw [h0] at h
    simp only [cond_false] at h
    cases h1 : Nat.beq op 1 with
    | true =>
      have e := bb_eq h1
      subst e
      obtain ⟨f, g1, g2⟩ := lf_add_ok (-1) b a (fun f => bif in64 N f then kk N f else n_f64 N kk)
      have h : lf_add (-1) b a (fun f => bif in64 N f then kk N f else n_f64 N kk) = some r := h
      rw [g1] at h
      have hf := g2 ρ _ _ hb ha
      rw [show -1 * y.toInt + x.toInt = x.toInt - y.toInt by omega] at hf
      exact NR.ex64 hN hf (fun z1 z2 => t_subL x y z1 z2) h
    | false => rw [h1] at h; exact NR.f64 hN h
/-- 0 i2b, 1 i2s, 2 i2c, 3 ineg -/
noncomputable def n_cv {β : Type} (lo hi : Int) (N : NS) (a : LF) (kk : NS → LF → Option β) : Option β := bif i_le lo (lf_lo N.1 a) && i_le (lf_hi N.1 a) hi then kk N a else nwv N lo hi kk
theorem n_cv_ok {β : Type} {ρ : List Int} {N : NS} (hN : Nk ρ N) {lo hi : Int} {a : LF} {x z : Int} (ha : Lv ρ a x) (h1 : lo ≤ z) (h2 : z ≤ hi) (h3 : lo ≤ x → x ≤ hi → z = x) {kk : NS → LF → Option β} {r : β} (h : n_cv lo hi N a kk = some r) : NR ρ kk r z := by
  unfold n_cv at h
  cases hc : (i_le lo (lf_lo N.1 a) && i_le (lf_hi N.1 a) hi) with
  | true =>
    rw [hc] at h
    have w := bb_and hc
    have := i_le_ok w.1
    have := i_le_ok w.2
    have := lf_b_ok hN.1 ha
    rw [h3 (by omega) (by omega)]
    exact NR.same hN ha h
  | false => rw [hc] at h; exact NR.new hN h1 h2 h
noncomputable def n_un {β : Type} (op : Nat) (N : NS) (a : LF) (kk : NS → LF → Option β) : Option β :=
  bif Nat.ble op 1 then (bif Nat.beq op 0 then n_cv (-128) 127 N a kk else n_cv (-32768) 32767 N a kk)
  else bif Nat.beq op 2 then n_cv 0 65535 N a kk else lf_sc (-1) a 0 (fun f => bif in32 N f then kk N f else n_f32 N kk)
theorem n_un_ok {β : Type} {ρ : List Int} {N : NS} (hN : Nk ρ N) {op : Nat} (ho : op < 4) {a : LF} {x : Int32} (ha : Lv ρ a x.toInt) {kk : NS → LF → Option β} {r : β} (h : n_un op N a kk = some r) : NR ρ kk r (ax_fu op x).toInt := by
  rcases (show op = 0 ∨ op = 1 ∨ op = 2 ∨ op = 3 by omega) with rfl | rfl | rfl | rfl
  · have h : n_cv (-128) 127 N a kk = some r := h
    have e : (ax_fu 0 x).toInt = x.toInt.bmod 256 := by
      show x.toInt8.toInt32.toInt = _
      rw [Int8.toInt_toInt32, Int32.toInt_toInt8]
    rw [e, Int.bmod_def]
    exact n_cv_ok hN ha (by omega) (by omega) (fun _ _ => by omega) h
  · have h : n_cv (-32768) 32767 N a kk = some r := h
    have e : (ax_fu 1 x).toInt = x.toInt.bmod 65536 := by
      show x.toInt16.toInt32.toInt = _
      rw [Int16.toInt_toInt32, Int32.toInt_toInt16]
    rw [e, Int.bmod_def]
    exact n_cv_ok hN ha (by omega) (by omega) (fun _ _ => by omega) h
  · have h : n_cv 0 65535 N a kk = some r := h
    have z := ax_cuv_ok 2 x
    have z2 : (9223372036854775808 : Nat) ≤ zI (ax_fu 2 x) ∧ zI (ax_fu 2 x) ≤ 9223372036854841343 := z
    have z3 := zI_cast (ax_fu 2 x)
    refine n_cv_ok hN ha (by omega) (by omega) (fun q1 q2 => ?_) h
    have hx := nn_nI (x := x) (by omega)
    have c := ax_cu_ok 2 x.toInt.toNat (by omega)
    rw [← hx.1] at c
    have c2 : ax_cu 2 x.toInt.toNat = x.toInt.toNat := by
      show x.toInt.toNat % 65536 = _
      omega
    rw [c2] at c
    rw [← c, ← hx.1]
  · obtain ⟨f, g1, g2⟩ := lf_sc_ok (-1) a 0 (fun f => bif in32 N f then kk N f else n_f32 N kk)
    have h : lf_sc (-1) a 0 (fun f => bif in32 N f then kk N f else n_f32 N kk) = some r := h
    rw [g1] at h
    refine NR.ex32 hN (g2 ρ _ ha) (fun z1 z2 => ?_) h
    show (-x).toInt = _
    rw [Int32.toInt_neg]
    show (-x.toInt).bmod 4294967296 = _
    rw [bm32 (by omega) (by omega)]
    omega
theorem i2l_t (x : Int32) : x.toInt64.toInt = x.toInt := Int32.toInt_toInt64 x
noncomputable def n_l2i {β : Type} (N : NS) (a : LF) (kk : NS → LF → Option β) : Option β := n_cv (-2147483648) 2147483647 N a kk
theorem n_l2i_ok {β : Type} {ρ : List Int} {N : NS} (hN : Nk ρ N) {a : LF} {x : Int64} (ha : Lv ρ a x.toInt) {kk : NS → LF → Option β} {r : β} (h : n_l2i N a kk = some r) : NR ρ kk r x.toInt32.toInt := by
  have b := i32_rng x.toInt32
  refine n_cv_ok hN ha (by omega) (by omega) (fun q1 q2 => ?_) h
  rw [Int64.toInt_toInt32]
  exact bm32 (by omega) (by omega)
/-- the lesser -/
noncomputable def n_min {β : Type} (N : NS) (a b : LF) (kk : NS → LF → Option β) : Option β :=
  bif i_le (lf_hi N.1 a) (lf_lo N.1 b) then kk N a else bif i_le (lf_hi N.1 b) (lf_lo N.1 a) then kk N b else nwv N (bif pv1 N a && pv1 N b then i_max 0 (i_min (lf_lo N.1 a) (lf_lo N.1 b)) else i_min (lf_lo N.1 a) (lf_lo N.1 b)) (i_min (lf_hi N.1 a) (lf_hi N.1 b)) kk
theorem n_min_ok {β : Type} {ρ : List Int} {N : NS} (hN : Nk ρ N) {a b : LF} {x y : Int32} (ha : Lv ρ a x.toInt) (hb : Lv ρ b y.toInt) {kk : NS → LF → Option β} {r : β} (h : n_min N a b kk = some r) : NR ρ kk r (if y < x then y else x).toInt := by
  unfold n_min at h
  have ba := lf_b_ok hN.1 ha
  have bb := lf_b_ok hN.1 hb
  have hm : ((if y < x then y else x).toInt = x.toInt ∧ x.toInt ≤ y.toInt) ∨ ((if y < x then y else x).toInt = y.toInt ∧ y.toInt < x.toInt) := by
    by_cases c : y < x
    · rw [if_pos c]
      rw [Int32.lt_iff_toInt_lt] at c
      exact Or.inr ⟨rfl, c⟩
    · rw [if_neg c]
      rw [Int32.lt_iff_toInt_lt] at c
      exact Or.inl ⟨rfl, by omega⟩
  cases h1 : i_le (lf_hi N.1 a) (lf_lo N.1 b) with
  | true =>
    rw [h1] at h
    have := i_le_ok h1
    rw [show (if y < x then y else x).toInt = x.toInt by omega]
    exact NR.same hN ha h
  | false =>
    rw [h1] at h
    simp only [cond_false] at h
    cases h2 : i_le (lf_hi N.1 b) (lf_lo N.1 a) with
    | true =>
      rw [h2] at h
      have := i_le_ok h2
      rw [show (if y < x then y else x).toInt = y.toInt by omega]
      exact NR.same hN hb h
    | false =>
      rw [h2] at h
      have m1 := i_min_ok (lf_lo N.1 a) (lf_lo N.1 b)
      have m2 := i_min_ok (lf_hi N.1 a) (lf_hi N.1 b)
      have m3 := i_max_ok 0 (i_min (lf_lo N.1 a) (lf_lo N.1 b))
      simp only [cond_false] at h
      cases hp : (pv1 N a && pv1 N b) with
      | false =>
        rw [hp] at h
        exact NR.new hN (by show i_min _ _ ≤ _; omega) (by omega) h
      | true =>
        rw [hp] at h
        have w := bb_and hp
        have p1 := pv1_ok hN w.1 ha
        have p2 := pv1_ok hN w.2 hb
        exact NR.new hN (by show i_max _ _ ≤ _; omega) (by omega) h
/-! branches: what is less, what is the same -/
noncomputable def two2 {α : Type} (x y : Option (List α)) : Option (List α) := ob x (fun l => ob y (fun l' => some (l ++ l')))
theorem two2_s {α : Type} {x y : Option (List α)} {r : List α} (h : two2 x y = some r) : ∃ a b, x = some a ∧ y = some b ∧ r = a ++ b := by
  obtain ⟨a, e1, h⟩ := ob_s h
  obtain ⟨b, e2, h⟩ := ob_s h
  exact ⟨a, b, e1, e2, (Option.some.inj h).symm⟩
noncomputable def br_lt {α : Type} (N : NS) (a b : LF) (gt gf : NS → Option (List α)) : Option (List α) :=
  lf_add (-1) a b (fun d => lf_sc 1 d (-1) (fun d1 => lf_sc (-1) d 0 (fun e => two2 (bif pv1 N e then some [] else asm N d1 (some []) gt) (bif pv1 N d1 then some [] else asm N e (some []) gf))))
theorem br_lt_ok {α : Type} {ρ : List Int} {N : NS} (hN : Nk ρ N) {a b : LF} {x y : Int} (ha : Lv ρ a x) (hb : Lv ρ b y) {gt gf : NS → Option (List α)} {r : List α} (h : br_lt N a b gt gf = some r) :
    (x < y → ∃ N' o, gt N' = some o ∧ Nk ρ N' ∧ ∀ z ∈ o, z ∈ r) ∧ (¬ x < y → ∃ N' o, gf N' = some o ∧ Nk ρ N' ∧ ∀ z ∈ o, z ∈ r) := by
  unfold br_lt at h
  obtain ⟨d, d1, d2⟩ := lf_add_ok (-1) a b (fun d => lf_sc 1 d (-1) (fun d1 => lf_sc (-1) d 0 (fun e => two2 (bif pv1 N e then some [] else asm N d1 (some []) gt) (bif pv1 N d1 then some [] else asm N e (some []) gf))))
  rw [d1] at h
  obtain ⟨f, f1, f2⟩ := lf_sc_ok 1 d (-1) (fun d1 => lf_sc (-1) d 0 (fun e => two2 (bif pv1 N e then some [] else asm N d1 (some []) gt) (bif pv1 N d1 then some [] else asm N e (some []) gf)))
  rw [f1] at h
  obtain ⟨e, e1, e2⟩ := lf_sc_ok (-1) d 0 (fun e => two2 (bif pv1 N e then some [] else asm N f (some []) gt) (bif pv1 N f then some [] else asm N e (some []) gf))
  rw [e1] at h
  obtain ⟨o1, o2, h1, h2, rfl⟩ := two2_s h
  have hd := d2 ρ _ _ ha hb
  have hf := f2 ρ _ hd
  have he := e2 ρ _ hd
  refine ⟨fun q => ?_, fun q => ?_⟩
  · cases hp : pv1 N e with
    | true => exfalso; have := pv1_ok hN hp he; omega
    | false =>
      rw [hp] at h1
      obtain ⟨N', a1, a2⟩ := asm_ok hN hf (by omega) h1
      exact ⟨N', o1, a1, a2, fun z hz => List.mem_append_left _ hz⟩
  · cases hp : pv1 N f with
    | true => exfalso; have := pv1_ok hN hp hf; omega
    | false =>
      rw [hp] at h2
      obtain ⟨N', a1, a2⟩ := asm_ok hN he (by omega) h2
      exact ⟨N', o2, a1, a2, fun z hz => List.mem_append_right _ hz⟩
noncomputable def lf_in (f : LF) (l : List LF) : Bool := List.rec (motive := fun _ => Bool) false (fun g _ ih => lf_eq f g || ih) l
theorem lf_in_ok {f : LF} : ∀ {l : List LF}, lf_in f l = true → f ∈ l
  | [], h => by cases h
  | g :: t, h => by
    have h : (lf_eq f g || lf_in f t) = true := h
    rcases (Bool.or_eq_true _ _).mp h with h | h
    · rw [lf_eq_ok h]; exact List.mem_cons_self
    · exact List.mem_cons_of_mem _ (lf_in_ok h)
/-- shown not to be 0 -/
noncomputable def pvn (N : NS) (d : LF) (nd : LF) : Bool := lf_in d N.2.2 || (lf_in nd N.2.2 || (pv1 N (d.1 - 1, d.2) || pv1 N (nd.1 - 1, nd.2)))
theorem pvn_ok {ρ : List Int} {N : NS} (hN : Nk ρ N) {d nd : LF} {x : Int} (hd : Lv ρ d x) (hnd : Lv ρ nd (-x)) (h : pvn N d nd = true) : x ≠ 0 := by
  unfold pvn at h
  rcases (Bool.or_eq_true _ _).mp h with h | h
  · obtain ⟨y, a, b⟩ := hN.2.2 d (lf_in_ok h)
    rw [hd.fn a]; exact b
  · rcases (Bool.or_eq_true _ _).mp h with h | h
    · obtain ⟨y, a, b⟩ := hN.2.2 nd (lf_in_ok h)
      have := hnd.fn a
      omega
    · rcases (Bool.or_eq_true _ _).mp h with h | h
      · have := pv1_ok hN h (hd.dec 1)
        omega
      · have := pv1_ok hN h (hnd.dec 1)
        omega
/-- division (0), rest (1), of what is 0 or more by what is above 0; else anything -/
noncomputable def n_dr {β : Type} (op : Nat) (N : NS) (a b : LF) (kk : NS → LF → Option β) (fl : (NS → LF → Option β) → Option β) : Option β :=
  bif pv1 N (b.1 - 1, b.2) then (bif i_nn (lf_lo N.1 a) then
    (bif cst a && cst b then i_fc (bif Nat.beq op 0 then a.1 / b.1 else a.1 % b.1) (fun n => kk N (n, []))
     else bif Nat.beq op 0 then nwv N 0 (lf_hi N.1 a / i_max 1 (lf_lo N.1 b)) (fun N' f => bif cst b then lf_add (-b.1) f a (fun g => kk (N'.1, g :: N'.2.1, N'.2.2) f) else kk N' f)
     else nwv N 0 (i_min (lf_hi N.1 a) (lf_hi N.1 b - 1)) (fun N' f => bif cst b then kk N' f else lf_add (-1) f (b.1 - 1, b.2) (fun g => kk (N'.1, g :: N'.2.1, N'.2.2) f)))
    else fl kk) else lf_sc (-1) b 0 (fun nb => gd (pvn N b nb) (fl kk))
theorem n_dr_ok {β : Type} {ρ : List Int} {N : NS} (hN : Nk ρ N) {op : Nat} (ho : op < 2) {a b : LF} {x y z : Int} (ha : Lv ρ a x) (hb : Lv ρ b y) (hz : 0 ≤ x → 1 ≤ y → z = if op = 0 then x / y else x % y) {kk : NS → LF → Option β} {fl : (NS → LF → Option β) → Option β} {r : β} (hfl : fl kk = some r → NR ρ kk r z) (h : n_dr op N a b kk fl = some r) : y ≠ 0 ∧ NR ρ kk r z := by
  unfold n_dr at h
  cases g0 : pv1 N (b.1 - 1, b.2) with
  | false =>
    rw [g0] at h
    simp only [cond_false] at h
    obtain ⟨nb, n1, n2⟩ := lf_sc_ok (-1) b 0 (fun nb => gd (pvn N b nb) (fl kk))
    rw [n1] at h
    obtain ⟨g1, h⟩ := gd_s h
    have hnb := n2 ρ _ hb
    rw [show -1 * y + 0 = -y by omega] at hnb
    exact ⟨pvn_ok hN hb hnb g1, hfl h⟩
  | true =>
  rw [g0] at h
  simp only [cond_true] at h
  have ba := lf_b_ok hN.1 ha
  have bb := lf_b_ok hN.1 hb
  have n0 := pv1_ok hN g0 (hb.dec 1)
  have mx := i_max_ok 1 (lf_lo N.1 b)
  refine ⟨by omega, ?_⟩
  cases h1 : i_nn (lf_lo N.1 a) with
  | false => rw [h1] at h; exact hfl h
  | true =>
    rw [h1] at h
    simp only [cond_true] at h
    have na := i_nn_ok h1
    have hz := hz (by omega) (by omega)
    cases hc : (cst a && cst b) with
    | true =>
      rw [hc] at h
      simp only [cond_true] at h
      rw [i_fc_eq] at h
      have w := bb_and hc
      have ea := cst_ok w.1 ha
      have eb := cst_ok w.2 hb
      refine NR.same hN (f := (bif Nat.beq op 0 then a.1 / b.1 else a.1 % b.1, [])) ?_ h
      rw [hz, ea, eb]
      rcases (show op = 0 ∨ op = 1 by omega) with rfl | rfl
      · exact Lv.c ρ _
      · exact Lv.c ρ _
    | false =>
      rw [hc] at h
      simp only [cond_false] at h
      rcases (show op = 0 ∨ op = 1 by omega) with rfl | rfl
      · have h : nwv N 0 (lf_hi N.1 a / i_max 1 (lf_lo N.1 b)) (fun N' f => bif cst b then lf_add (-b.1) f a (fun g => kk (N'.1, g :: N'.2.1, N'.2.2) f) else kk N' f) = some r := h
        rw [if_pos rfl] at hz
        subst hz
        have q1 := Int.ediv_nonneg (show 0 ≤ x by omega) (show 0 ≤ y by omega)
        have q2 : x / y ≤ lf_hi N.1 a / i_max 1 (lf_lo N.1 b) := by
          have a1 : x / y ≤ x / i_max 1 (lf_lo N.1 b) := by
            apply Int.le_ediv_of_mul_le (by omega)
            have m1 := Int.mul_le_mul_of_nonneg_left (show i_max 1 (lf_lo N.1 b) ≤ y by omega) q1
            have m2 := Int.mul_ediv_add_emod x y
            have m3 := Int.emod_nonneg x (show y ≠ 0 by omega)
            rw [Int.mul_comm y] at m2
            omega
          have a2 := Int.ediv_le_ediv (show 0 < i_max 1 (lf_lo N.1 b) by omega) ba.2
          omega
        obtain ⟨N', f, e1, e2, e3, e4⟩ := nwv_ok hN (hi := lf_hi N.1 a / i_max 1 (lf_lo N.1 b)) (fun N' f => bif cst b then lf_add (-b.1) f a (fun g => kk (N'.1, g :: N'.2.1, N'.2.2) f) else kk N' f) q1 q2
        rw [e1] at h
        cases hcb : cst b with
        | false => rw [hcb] at h; exact ⟨N', f, _, h, e2, e3, e4⟩
        | true =>
          rw [hcb] at h
          simp only [cond_true] at h
          have eb := cst_ok hcb hb
          obtain ⟨g, g1, g2⟩ := lf_add_ok (-b.1) f a (fun g => kk (N'.1, g :: N'.2.1, N'.2.2) f)
          rw [g1] at h
          refine ⟨_, f, _, h, e2, ⟨e3.1, fun q hq => ?_, e3.2.2⟩, e4⟩
          rcases List.mem_cons.mp hq with rfl | hq
          · refine ⟨_, g2 _ _ _ e4 (ha.mono e2), ?_⟩
            have m2 := Int.mul_ediv_add_emod x y
            have m3 := Int.emod_nonneg x (show y ≠ 0 by omega)
            rw [← eb, Int.neg_mul]
            omega
          · exact e3.2.1 q hq
      · have h : nwv N 0 (i_min (lf_hi N.1 a) (lf_hi N.1 b - 1)) (fun N' f => bif cst b then kk N' f else lf_add (-1) f (b.1 - 1, b.2) (fun g => kk (N'.1, g :: N'.2.1, N'.2.2) f)) = some r := h
        rw [if_neg (by omega)] at hz
        subst hz
        have q1 := Int.emod_nonneg x (show y ≠ 0 by omega)
        have q2 := Int.emod_lt_of_pos x (show 0 < y by omega)
        have q3 : x % y ≤ x := by
          have m2 := Int.mul_ediv_add_emod x y
          have m3 := Int.mul_nonneg (show 0 ≤ y by omega) (Int.ediv_nonneg (show 0 ≤ x by omega) (show 0 ≤ y by omega))
          omega
        have m := i_min_ok (lf_hi N.1 a) (lf_hi N.1 b - 1)
        obtain ⟨N', f, e1, e2, e3, e4⟩ := nwv_ok hN (hi := i_min (lf_hi N.1 a) (lf_hi N.1 b - 1)) (fun N' f => bif cst b then kk N' f else lf_add (-1) f (b.1 - 1, b.2) (fun g => kk (N'.1, g :: N'.2.1, N'.2.2) f)) q1 (by omega)
        rw [e1] at h
        cases hc : cst b with
        | true => rw [hc] at h; exact ⟨N', f, _, h, e2, e3, e4⟩
        | false =>
          rw [hc] at h
          simp only [cond_false] at h
          obtain ⟨g, g1, g2⟩ := lf_add_ok (-1) f (b.1 - 1, b.2) (fun g => kk (N'.1, g :: N'.2.1, N'.2.2) f)
          rw [g1] at h
          refine ⟨_, f, _, h, e2, ⟨e3.1, fun q hq => ?_, e3.2.2⟩, e4⟩
          rcases List.mem_cons.mp hq with rfl | hq
          · exact ⟨_, g2 _ _ _ e4 ((hb.mono e2).dec 1), by omega⟩
          · exact e3.2.1 q hq
noncomputable def br_eq {α : Type} (N : NS) (a b : LF) (gt gf : NS → Option (List α)) : Option (List α) :=
  lf_add (-1) b a (fun d => lf_sc (-1) d 0 (fun nd => two2 (bif pvn N d nd then some [] else asm N d (some []) (fun N1 => asm N1 nd (some []) gt)) (asn N d (some []) gf)))
theorem br_eq_ok {α : Type} {ρ : List Int} {N : NS} (hN : Nk ρ N) {a b : LF} {x y : Int} (ha : Lv ρ a x) (hb : Lv ρ b y) {gt gf : NS → Option (List α)} {r : List α} (h : br_eq N a b gt gf = some r) :
    (x = y → ∃ N' o, gt N' = some o ∧ Nk ρ N' ∧ ∀ z ∈ o, z ∈ r) ∧ (¬ x = y → ∃ N' o, gf N' = some o ∧ Nk ρ N' ∧ ∀ z ∈ o, z ∈ r) := by
  unfold br_eq at h
  obtain ⟨d, d1, d2⟩ := lf_add_ok (-1) b a (fun d => lf_sc (-1) d 0 (fun nd => two2 (bif pvn N d nd then some [] else asm N d (some []) (fun N1 => asm N1 nd (some []) gt)) (asn N d (some []) gf)))
  rw [d1] at h
  obtain ⟨e, e1, e2⟩ := lf_sc_ok (-1) d 0 (fun nd => two2 (bif pvn N d nd then some [] else asm N d (some []) (fun N1 => asm N1 nd (some []) gt)) (asn N d (some []) gf))
  rw [e1] at h
  obtain ⟨o1, o2, h1, h2, rfl⟩ := two2_s h
  have hd := d2 ρ _ _ hb ha
  have he := e2 ρ _ hd
  refine ⟨fun q => ?_, fun q => ?_⟩
  · cases hp : pvn N d e with
    | true =>
      exfalso
      have he' : Lv ρ e (-(-1 * y + x)) := by rw [show -(-1 * y + x) = -1 * (-1 * y + x) + 0 by omega]; exact he
      have := pvn_ok hN hd he' hp
      omega
    | false =>
      rw [hp] at h1
      simp only [cond_false] at h1
      obtain ⟨N1, a1, a2⟩ := asm_ok hN hd (by omega) h1
      obtain ⟨N2, b1, b2⟩ := asm_ok a2 he (by omega) a1
      exact ⟨N2, o1, b1, b2, fun z hz => List.mem_append_left _ hz⟩
  · obtain ⟨N1, a1, a2⟩ := asn_ok hN hd (by omega) h2
    exact ⟨N1, o2, a1, a2, fun z hz => List.mem_append_right _ hz⟩
/-- the six conditions: 0 eq, 1 ne, 2 lt, 3 ge, 4 gt, 5 le -/
noncomputable def bc_c {α : Type} (c : Nat) (N : NS) (a b : LF) (gt gf : NS → Option (List α)) : Option (List α) :=
  bif Nat.ble c 1 then (bif Nat.beq c 0 then br_eq N a b gt gf else br_eq N a b gf gt)
  else bif Nat.ble c 3 then (bif Nat.beq c 2 then br_lt N a b gt gf else br_lt N a b gf gt)
  else (bif Nat.beq c 4 then br_lt N b a gt gf else br_lt N b a gf gt)
theorem bc_c_ok {α : Type} {ρ : List Int} {N : NS} (hN : Nk ρ N) {k : Nat} (hk : k < 6) {a b : LF} {x y : Int32} (ha : Lv ρ a x.toInt) (hb : Lv ρ b y.toInt) {gt gf : NS → Option (List α)} {r : List α} (h : bc_c k N a b gt gf = some r) :
    (ax_cp k x y → ∃ N' o, gt N' = some o ∧ Nk ρ N' ∧ ∀ z ∈ o, z ∈ r) ∧ (¬ ax_cp k x y → ∃ N' o, gf N' = some o ∧ Nk ρ N' ∧ ∀ z ∈ o, z ∈ r) := by
  have EQ : x.toInt = y.toInt ↔ x = y := Int32.toInt_inj
  have LT : x.toInt < y.toInt ↔ x < y := Int32.lt_iff_toInt_lt.symm
  have LT2 : y.toInt < x.toInt ↔ y < x := Int32.lt_iff_toInt_lt.symm
  have LE : x.toInt ≤ y.toInt ↔ x ≤ y := Int32.le_iff_toInt_le.symm
  have LE2 : y.toInt ≤ x.toInt ↔ y ≤ x := Int32.le_iff_toInt_le.symm
  rcases (show k = 0 ∨ k = 1 ∨ k = 2 ∨ k = 3 ∨ k = 4 ∨ k = 5 by omega) with rfl | rfl | rfl | rfl | rfl | rfl
  · have q := br_eq_ok hN ha hb (gt := gt) (gf := gf) h
    exact ⟨fun z => q.1 (EQ.mpr z), fun z => q.2 (fun w => z (EQ.mp w))⟩
  · have q := br_eq_ok hN ha hb (gt := gf) (gf := gt) h
    exact ⟨fun z => q.2 (fun w => z (EQ.mp w)), fun z => q.1 (EQ.mpr (Classical.not_not.mp z))⟩
  · have q := br_lt_ok hN ha hb (gt := gt) (gf := gf) h
    exact ⟨fun z => q.1 (LT.mpr z), fun z => q.2 (fun w => z (LT.mp w))⟩
  · have q := br_lt_ok hN ha hb (gt := gf) (gf := gt) h
    exact ⟨fun z => q.2 (by have z : y ≤ x := z; have := LE2.mpr z; omega), fun z => q.1 (by have z : ¬ y ≤ x := z; have : ¬ y.toInt ≤ x.toInt := fun w => z (LE2.mp w); omega)⟩
  · have q := br_lt_ok hN hb ha (gt := gt) (gf := gf) h
    exact ⟨fun z => q.1 (LT2.mpr z), fun z => q.2 (fun w => z (LT2.mp w))⟩
  · have q := br_lt_ok hN hb ha (gt := gf) (gf := gt) h
    exact ⟨fun z => q.2 (by have z : x ≤ y := z; have := LE.mpr z; omega), fun z => q.1 (by have z : ¬ x ≤ y := z; have : ¬ x.toInt ≤ y.toInt := fun w => z (LE.mp w); omega)⟩
/-! bytes: what is from -128 to 255, and 255 -/
theorem and255_all : ∀ n : Fin 384, ((Int32.ofInt ((n.val : Int) - 128)) &&& 255).toInt = if (n.val : Int) - 128 < 0 then (n.val : Int) - 128 + 256 else (n.val : Int) - 128 := by decide +kernel
theorem and255 {x y : Int32} (hy : y.toInt = 255) (h1 : -128 ≤ x.toInt) (h2 : x.toInt ≤ 255) : (ax_fop 3 x y).toInt = if x.toInt < 0 then x.toInt + 256 else x.toInt := by
  have e1 : y = 255 := Int32.toInt_inj.mp (by rw [hy]; decide)
  subst e1
  have q := and255_all ⟨(x.toInt + 128).toNat, by omega⟩
  have e2 : (((x.toInt + 128).toNat : Nat) : Int) - 128 = x.toInt := by omega
  dsimp only at q
  rw [e2, Int32.ofInt_toInt] at q
  exact q
noncomputable def n_a255 {α : Type} (N : NS) (a b : LF) (kk : NS → LF → Option (List α)) : Option (List α) :=
  bif (cst b && i_eq b.1 255) && (pv1 N (a.1 - (-128), a.2) && lf_sc (-1) a 255 (pv1 N)) then
    br_lt N a (0, []) (fun N' => lf_nv N'.1 a (fun f => i_fc (f.1 + 256) (fun z => kk N' (z, f.2)))) (fun N' => lf_nv N'.1 a (kk N'))
  else n_ib 3 N a b kk
theorem n_a255_ok {α : Type} {ρ : List Int} {N : NS} (hN : Nk ρ N) {a b : LF} {x y : Int32} (ha : Lv ρ a x.toInt) (hb : Lv ρ b y.toInt) {kk : NS → LF → Option (List α)} {r : List α} (h : n_a255 N a b kk = some r) : ∃ N' f ρ' o, kk N' f = some o ∧ (∀ z ∈ o, z ∈ r) ∧ Sb ρ ρ' ∧ Nk ρ' N' ∧ Lv ρ' f (ax_fop 3 x y).toInt := by
  unfold n_a255 at h
  cases hc : ((cst b && i_eq b.1 255) && (pv1 N (a.1 - (-128), a.2) && lf_sc (-1) a 255 (pv1 N))) with
  | false =>
    rw [hc] at h
    obtain ⟨N', f, ρ', k1, k2, k3, k4⟩ := n_ib_ok hN (show 3 < 9 by decide) ha hb h
    exact ⟨N', f, ρ', r, k1, fun _ hz => hz, k2, k3, k4⟩
  | true =>
    rw [hc] at h
    simp only [cond_true] at h
    have w := bb_and hc
    have w1 := bb_and w.1
    have w2 := bb_and w.2
    have eb := cst_ok w1.1 hb
    have e2 := i_eq_ok w1.2
    have p1 := pv1_ok hN w2.1 (ha.dec (-128))
    obtain ⟨d, d1, d2⟩ := lf_sc_ok (-1) a 255 (pv1 N)
    have w3 := w2.2
    rw [d1] at w3
    have p2 := pv1_ok hN w3 (d2 ρ _ ha)
    have q := and255 (x := x) (y := y) (by rw [eb, e2]) (by omega) (by omega)
    have B := br_lt_ok hN ha (Lv.c ρ 0) h
    by_cases c : x.toInt < 0
    · obtain ⟨N', o, k1, k2, k3⟩ := B.1 c
      obtain ⟨f, f1, f2⟩ := lf_nv_ok k2.1 a (fun f => i_fc (f.1 + 256) (fun z => kk N' (z, f.2)))
      rw [f1, i_fc_eq] at k1
      rw [if_pos c] at q
      refine ⟨N', _, ρ, o, k1, k3, Sb.rf ρ, k2, ?_⟩
      rw [q]
      obtain ⟨u, u1, u2⟩ := f2 _ ha
      exact ⟨u, u1, by show x.toInt + 256 = f.1 + 256 + u; omega⟩
    · obtain ⟨N', o, k1, k2, k3⟩ := B.2 c
      obtain ⟨f, f1, f2⟩ := lf_nv_ok k2.1 a (kk N')
      rw [f1] at k1
      rw [if_neg c] at q
      exact ⟨N', f, ρ, o, k1, k3, Sb.rf ρ, k2, by rw [q]; exact f2 _ ha⟩
/-- the greater of two -/
noncomputable def n_max {β : Type} (N : NS) (a b : LF) (kk : NS → LF → Option β) : Option β :=
  bif i_le (lf_hi N.1 a) (lf_lo N.1 b) then kk N b else bif i_le (lf_hi N.1 b) (lf_lo N.1 a) then kk N a else nwv N (i_max (lf_lo N.1 a) (lf_lo N.1 b)) (i_max (lf_hi N.1 a) (lf_hi N.1 b)) kk
theorem n_max_ok {β : Type} {ρ : List Int} {N : NS} (hN : Nk ρ N) {a b : LF} {x y : Int32} (ha : Lv ρ a x.toInt) (hb : Lv ρ b y.toInt) {kk : NS → LF → Option β} {r : β} (h : n_max N a b kk = some r) : NR ρ kk r (if x < y then y else x).toInt := by
  unfold n_max at h
  have ba := lf_b_ok hN.1 ha
  have bb := lf_b_ok hN.1 hb
  have hm : ((if x < y then y else x).toInt = x.toInt ∧ y.toInt ≤ x.toInt) ∨ ((if x < y then y else x).toInt = y.toInt ∧ x.toInt < y.toInt) := by
    by_cases c : x < y
    · rw [if_pos c]
      rw [Int32.lt_iff_toInt_lt] at c
      exact Or.inr ⟨rfl, c⟩
    · rw [if_neg c]
      rw [Int32.lt_iff_toInt_lt] at c
      exact Or.inl ⟨rfl, by omega⟩
  cases h1 : i_le (lf_hi N.1 a) (lf_lo N.1 b) with
  | true =>
    rw [h1] at h
    have := i_le_ok h1
    rw [show (if x < y then y else x).toInt = y.toInt by omega]
    exact NR.same hN hb h
  | false =>
    rw [h1] at h
    simp only [cond_false] at h
    cases h2 : i_le (lf_hi N.1 b) (lf_lo N.1 a) with
    | true =>
      rw [h2] at h
      have := i_le_ok h2
      rw [show (if x < y then y else x).toInt = x.toInt by omega]
      exact NR.same hN ha h
    | false =>
      rw [h2] at h
      have m1 := i_max_ok (lf_lo N.1 a) (lf_lo N.1 b)
      have m2 := i_max_ok (lf_hi N.1 a) (lf_hi N.1 b)
      simp only [cond_false] at h
      exact NR.new hN (by show i_max _ _ ≤ _; omega) (by omega) h
end
section
/-! 29.mem -/
/-! THE HEAP OF THE MACHINE BY FORMS: types of the places, what is known of some -/
abbrev SEG : Type := List (Nat × List (Int × Int))
def seg_at : SEG → Nat → Option (Int × Int)
  | [], _ => none
  | s :: r, k => if k < s.1 then s.2[k % s.2.length]? else seg_at r (k - s.1)
def ty_at (T : Nat × SEG) (k : Nat) : Option (Int × Int) := seg_at T.2 (if T.1 = 0 then k else k % T.1)
abbrev TT : Type := List (Nat × SEG)
/-- the widest and the narrowest of ranges -/
abbrev JM : Type := (Int × Int) × (Int × Int)
noncomputable def jm1 (q : Int × Int) : JM := (q, q)
noncomputable def jm2 {β : Type} (a b : JM) (kk : JM → β) : β := i_fc (i_min a.1.1 b.1.1) (fun x => i_fc (i_max a.1.2 b.1.2) (fun y => i_fc (i_max a.2.1 b.2.1) (fun u => i_fc (i_min a.2.2 b.2.2) (fun v => kk ((x, y), (u, v))))))
def JmOk (q : Int × Int) (J : JM) : Prop := J.1.1 ≤ q.1 ∧ q.2 ≤ J.1.2 ∧ q.1 ≤ J.2.1 ∧ J.2.2 ≤ q.2
theorem jm1_ok (q : Int × Int) : JmOk q (jm1 q) := ⟨Int.le_refl _, Int.le_refl _, Int.le_refl _, Int.le_refl _⟩
theorem jm2_ok {β : Type} (a b : JM) (kk : JM → β) : ∃ J, jm2 a b kk = kk J ∧ (∀ q, JmOk q a → JmOk q J) ∧ (∀ q, JmOk q b → JmOk q J) := by
  unfold jm2
  rw [i_fc_eq, i_fc_eq, i_fc_eq, i_fc_eq]
  have m1 := i_min_ok a.1.1 b.1.1
  have m2 := i_max_ok a.1.2 b.1.2
  have m3 := i_max_ok a.2.1 b.2.1
  have m4 := i_min_ok a.2.2 b.2.2
  refine ⟨_, rfl, fun q h => ?_, fun q h => ?_⟩
  · obtain ⟨h1, h2, h3, h4⟩ := h
    unfold JmOk
    dsimp only
    omega
  · obtain ⟨h1, h2, h3, h4⟩ := h
    unfold JmOk
    dsimp only
    omega
/-- all of a pattern -/
noncomputable def pat_j {β : Type} (l : List (Int × Int)) : JM → (JM → β) → β := List.rec (motive := fun _ => JM → (JM → β) → β) (fun J kk => kk J) (fun q _ ih J kk => jm2 J (jm1 q) (fun J' => ih J' kk)) l
theorem pat_j_ok {β : Type} : ∀ (l : List (Int × Int)) (J : JM) (kk : JM → β), ∃ J', pat_j l J kk = kk J' ∧ (∀ q, JmOk q J → JmOk q J') ∧ ∀ q ∈ l, JmOk q J'
  | [], J, kk => ⟨J, rfl, fun _ h => h, fun _ h => by cases h⟩
  | q :: t, J, kk => by
    obtain ⟨J1, e1, e2, e3⟩ := jm2_ok J (jm1 q) (fun J' => pat_j t J' kk)
    obtain ⟨J2, f1, f2, f3⟩ := pat_j_ok t J1 kk
    refine ⟨J2, e1.trans f1, fun p hp => f2 p (e2 p hp), fun p hp => ?_⟩
    rcases List.mem_cons.mp hp with rfl | hp
    · exact f2 p (e3 p (jm1_ok p))
    · exact f3 p hp
/-- the ranges at the places from i to j; dv g: all these places are alike by g -/
noncomputable def seg_j {β : Type} (l : SEG) : (Nat → Bool) → Nat → Nat → (JM → Option β) → Option β := List.rec (motive := fun _ => (Nat → Bool) → Nat → Nat → (JM → Option β) → Option β) (fun _ _ _ _ => none) (fun s _ ih dv i j kk =>
    bif Nat.ble s.1 i then ax_fc (i - s.1) (fun i' => ax_fc (j - s.1) (fun j' => ih dv i' j' kk))
    else bif Nat.blt j s.1 then
      (bif dv s.2.length then ob (ax_nth s.2 (i % s.2.length)) (fun q => kk (jm1 q)) else lc s.2 (fun q t => pat_j t (jm1 q) kk))
    else ax_fc (j - s.1) (fun j' => ih (fun _ => false) 0 j' (fun J => pat_j s.2 J kk))) l
theorem seg_j_ok {β : Type} : ∀ (l : SEG) (dv : Nat → Bool) (i j : Nat) (kk : JM → Option β) (r : β), (∀ s ∈ l, s.2.length ≠ 0) → seg_j l dv i j kk = some r → ∃ J, kk J = some r ∧ ∀ k, i ≤ k → k ≤ j → (∀ g, dv g = true → (k - i) % g = 0) → ∃ q, seg_at l k = some q ∧ JmOk q J
  | [], dv, i, j, kk, r, _, h => by cases h
  | s :: t, dv, i, j, kk, r, hl, h => by
    have hl2 : ∀ s ∈ t, s.2.length ≠ 0 := fun s hs => hl s (List.mem_cons_of_mem _ hs)
    have h : (bif Nat.ble s.1 i then ax_fc (i - s.1) (fun i' => ax_fc (j - s.1) (fun j' => seg_j t dv i' j' kk))
      else bif Nat.blt j s.1 then
        (bif dv s.2.length then ob (ax_nth s.2 (i % s.2.length)) (fun q => kk (jm1 q)) else lc s.2 (fun q t => pat_j t (jm1 q) kk))
      else ax_fc (j - s.1) (fun j' => seg_j t (fun _ => false) 0 j' (fun J => pat_j s.2 J kk))) = some r := h
    have OUT : ∀ k, s.1 ≤ k → seg_at (s :: t) k = seg_at t (k - s.1) := fun k hk => by
      show (if k < s.1 then s.2[k % s.2.length]? else seg_at t (k - s.1)) = _
      rw [if_neg (by omega)]
    cases h1 : Nat.ble s.1 i with
    | true =>
      rw [h1] at h
      simp only [cond_true] at h
      rw [ax_fc_eq, ax_fc_eq] at h
      have b1 := bb_le h1
      obtain ⟨J, e1, e2⟩ := seg_j_ok t dv (i - s.1) (j - s.1) kk r hl2 h
      refine ⟨J, e1, fun k k1 k2 k3 => ?_⟩
      obtain ⟨q, q1, q2⟩ := e2 (k - s.1) (by omega) (by omega) (fun g hg => by rw [show k - s.1 - (i - s.1) = k - i by omega]; exact k3 g hg)
      exact ⟨q, by rw [OUT k (by omega)]; exact q1, q2⟩
    | false =>
      have b1 := bb_nle h1
      rw [h1] at h
      simp only [cond_false] at h
      have INS : ∀ k, k < s.1 → ∃ q, seg_at (s :: t) k = some q ∧ q ∈ s.2 := fun k hk => by
        have hlen := hl s List.mem_cons_self
        have hlt : k % s.2.length < s.2.length := Nat.mod_lt _ (by omega)
        refine ⟨s.2[k % s.2.length], ?_, List.getElem_mem hlt⟩
        show (if k < s.1 then s.2[k % s.2.length]? else seg_at t (k - s.1)) = _
        rw [if_pos hk, List.getElem?_eq_getElem hlt]
      cases h2 : Nat.blt j s.1 with
      | true =>
        rw [h2] at h
        simp only [cond_true] at h
        have b2 := bb_lt h2
        cases h3 : dv s.2.length with
        | true =>
          rw [h3] at h
          obtain ⟨q, eq, h4⟩ := ob_s (o := ax_nth s.2 (i % s.2.length)) h
          rw [ax_nth_eq] at eq
          refine ⟨_, h4, fun k k1 k2 k3 => ⟨q, ?_, jm1_ok q⟩⟩
          show (if k < s.1 then s.2[k % s.2.length]? else seg_at t (k - s.1)) = _
          rw [if_pos (by omega), show k = i + (k - i) by omega, Nat.add_mod, k3 _ h3, Nat.add_zero, Nat.mod_mod, eq]
        | false =>
          rw [h3] at h
          obtain ⟨q, u, e1, h4⟩ := lc_s (l := s.2) h
          obtain ⟨J, f1, f2, f3⟩ := pat_j_ok u (jm1 q) kk
          rw [f1] at h4
          refine ⟨J, h4, fun k k1 k2 _ => ?_⟩
          obtain ⟨p, p1, p2⟩ := INS k (by omega)
          refine ⟨p, p1, ?_⟩
          rw [e1] at p2
          rcases List.mem_cons.mp p2 with rfl | p2
          · exact f2 p (jm1_ok p)
          · exact f3 p p2
      | false =>
        rw [h2] at h
        simp only [cond_false] at h
        rw [ax_fc_eq] at h
        have b2 := bb_nlt h2
        obtain ⟨J, e1, e2⟩ := seg_j_ok t (fun _ => false) 0 (j - s.1) (fun J => pat_j s.2 J kk) r hl2 h
        obtain ⟨J', f1, f2, f3⟩ := pat_j_ok s.2 J kk
        have e1 : pat_j s.2 J kk = some r := e1
        rw [f1] at e1
        refine ⟨J', e1, fun k k1 k2 _ => ?_⟩
        by_cases hk : k < s.1
        · obtain ⟨p, p1, p2⟩ := INS k hk
          exact ⟨p, p1, f3 p p2⟩
        · obtain ⟨q, q1, q2⟩ := e2 (k - s.1) (by omega) (by omega) (fun g hg => by cases hg)
          exact ⟨q, by rw [OUT k (by omega)]; exact q1, f2 q q2⟩
/-- all terms of a form are alike by g -/
noncomputable def lf_dv (l : List (Nat × Int)) (g : Nat) : Bool := List.rec (motive := fun _ => Bool) true (fun q _ ih => i_z (q.2 % Int.ofNat g) && ih) l
theorem lf_dv_ok {ρ : List Int} {σ : SG} {g : Nat} : ∀ {l : List (Nat × Int)} {x : Int}, lf_dv l g = true → Lt ρ l x → ((g : Int) ∣ x) ∧ ((g : Int) ∣ lf_lot σ l)
  | [], x, _, hx => by have hx : x = 0 := hx; subst hx; exact ⟨Int.dvd_zero _, Int.dvd_zero _⟩
  | q :: t, x, h, hx => by
    have h : (i_z (q.2 % Int.ofNat g) && lf_dv t g) = true := h
    have w := bb_and h
    obtain ⟨z, y, a1, a2, a3⟩ := hx
    have ih := lf_dv_ok (σ := σ) w.2 a2
    have d : (g : Int) ∣ q.2 := Int.dvd_of_emod_eq_zero (i_z_ok w.1)
    refine ⟨by rw [a3]; exact Int.dvd_add (Int.dvd_mul_of_dvd_left d) ih.1, ?_⟩
    have e1 : lf_lot σ (q :: t) = bif i_nn q.2 then q.2 * (s_at σ q.1).1 + lf_lot σ t else q.2 * (s_at σ q.1).2 + lf_lot σ t := rfl
    rw [e1]
    cases i_nn q.2 with
    | true => exact Int.dvd_add (Int.dvd_mul_of_dvd_left d) ih.2
    | false => exact Int.dvd_add (Int.dvd_mul_of_dvd_left d) ih.2
/-- where the segment of a place ends -/
noncomputable def seg_e (l : SEG) : Nat → Nat := List.rec (motive := fun _ => Nat → Nat) (fun _ => 0) (fun s _ ih k => bif Nat.blt k s.1 then s.1 else ax_fc (k - s.1) (fun k => s.1 + ih k)) l
/-- the ranges at the places from lo to hi; less, if shown -/
noncomputable def ty_r {β : Type} (T : SEG) (N : NS) (I : LF) (dv : Nat → Bool) (lo hi : Nat) (kk : JM → Option β) : Option β :=
  ax_fc (seg_e T lo) (fun e => ax_fc (bif !(Nat.blt hi e) && lf_sc (-1) I (Int.ofNat e - 1) (pv2 N) then e - 1 else hi) (fun h => seg_j T dv lo h kk))
theorem ty_r_ok {β : Type} {ρ : List Int} {N : NS} (hN : Nk ρ N) {T : SEG} (hT : ∀ s ∈ T, s.2.length ≠ 0) {I : LF} {i : Int} (hI : Lv ρ I i) {dv : Nat → Bool} {lo hi : Nat} (h0 : 0 ≤ i) (h1 : lo ≤ i.toNat) (h2 : i.toNat ≤ hi) (hd : ∀ g, dv g = true → (i.toNat - lo) % g = 0) {kk : JM → Option β} {r : β} (h : ty_r T N I dv lo hi kk = some r) : ∃ J q, kk J = some r ∧ seg_at T i.toNat = some q ∧ JmOk q J := by
  unfold ty_r at h
  rw [ax_fc_eq, ax_fc_eq] at h
  have hh : i.toNat ≤ (bif !(Nat.blt hi (seg_e T lo)) && lf_sc (-1) I (Int.ofNat (seg_e T lo) - 1) (pv2 N) then seg_e T lo - 1 else hi) := by
    cases hc : (!(Nat.blt hi (seg_e T lo)) && lf_sc (-1) I (Int.ofNat (seg_e T lo) - 1) (pv2 N)) with
    | false => exact h2
    | true =>
      have w := bb_and hc
      obtain ⟨f, f1, f2⟩ := lf_sc_ok (-1) I (Int.ofNat (seg_e T lo) - 1) (pv2 N)
      have w2 := w.2
      rw [f1] at w2
      have a := pv2_ok hN w2 (f2 ρ _ hI)
      have : (Int.ofNat (seg_e T lo) : Int) = (seg_e T lo : Int) := rfl
      show i.toNat ≤ seg_e T lo - 1
      omega
  obtain ⟨J, e1, e2⟩ := seg_j_ok T _ _ _ kk r hT h
  obtain ⟨q, q1, q2⟩ := e2 i.toNat h1 hh hd
  exact ⟨J, q, e1, q1, q2⟩
/-- the ranges at the places that a form can name -/
noncomputable def ty_j {β : Type} (T : Nat × SEG) (N : NS) (I : LF) (kk : JM → Option β) : Option β :=
  i_fc (lf_lo N.1 I) (fun lo => i_fc (lf_hi N.1 I) (fun hi => gd (i_nn hi && Nat.beq T.1 0)
    (bif i_nn lo then ty_r T.2 N I (lf_dv I.2) lo.toNat hi.toNat kk else gd (pv2 N I) (ty_r T.2 N I (fun _ => false) 0 hi.toNat kk))))
theorem ty_j_ok {β : Type} {ρ : List Int} {N : NS} (hN : Nk ρ N) {T : Nat × SEG} (hT : ∀ s ∈ T.2, s.2.length ≠ 0) {I : LF} {i : Int} (hI : Lv ρ I i) {kk : JM → Option β} {r : β} (h : ty_j T N I kk = some r) : 0 ≤ i ∧ ∃ J q, kk J = some r ∧ ty_at T i.toNat = some q ∧ JmOk q J := by
  unfold ty_j at h
  rw [i_fc_eq, i_fc_eq] at h
  obtain ⟨g0, h⟩ := gd_s h
  have w := bb_and g0
  have n2 := i_nn_ok w.1
  have b := lf_b_ok hN.1 hI
  unfold ty_at
  rw [if_pos (bb_eq w.2)]
  cases hp : i_nn (lf_lo N.1 I) with
  | true =>
    rw [hp] at h
    simp only [cond_true] at h
    have n1 := i_nn_ok hp
    refine ⟨by omega, ?_⟩
    have DV : ∀ g, lf_dv I.2 g = true → (i.toNat - (lf_lo N.1 I).toNat) % g = 0 := fun g hg => by
      obtain ⟨y, a1, a2⟩ := hI
      have d := lf_dv_ok (σ := N.1) hg a1
      have e : ((i.toNat - (lf_lo N.1 I).toNat : Nat) : Int) = y - lf_lot N.1 I.2 := by
        unfold lf_lo at *
        omega
      have d2 : (g : Int) ∣ ((i.toNat - (lf_lo N.1 I).toNat : Nat) : Int) := by rw [e]; exact Int.dvd_sub d.1 d.2
      exact Nat.mod_eq_zero_of_dvd (Int.natCast_dvd_natCast.mp d2)
    exact ty_r_ok hN hT hI (by omega) (by omega) (by omega) DV h
  | false =>
    rw [hp] at h
    simp only [cond_false] at h
    obtain ⟨g1, h⟩ := gd_s h
    have i0 := pv2_ok hN g1 hI
    exact ⟨i0, ty_r_ok hN hT hI i0 (Nat.zero_le _) (by omega) (fun g hg => by cases hg) h⟩
/-! what is kept: cells' places that are known; rows that are good; pieces that are the same; places that were written; the sum of a row -/
abbrev CE : Type := Nat × LF × LF
abbrev GE : Type := Nat × LF
abbrev QE : Type := (Nat × LF) × (Nat × LF) × LF
abbrev WE : Type := Nat × Int × Int
abbrev MM : Type := List CE × List GE × List QE × List WE × List LF × List CE
/-- the script's length, its ints; what a call gives -/
abbrev LSc : Type := Nat × (Nat → Int) × (PH → Nat → Nat → Int → Prop)
/-- the values of a call that is remembered -/
def pxv (sp ad : Nat → Nat) (kd k : Nat) : List Value := if kd = 1 then [.ref (ad 169), .retAddr k] else if kd = 3 then [.ref (ad 169)] else [.ref (ad 169), .int (Int32.ofInt ((k / 4096 : Nat) : Int)), .int (Int32.ofInt ((k % 4096 : Nat) : Int))]
def PXd (sb : Nat → List Nat) (mq : Nat → Nat → Option MR) (dC : Nat → ClassId) (dI : Nat → Nat → Nat) (dA : Nat → ClassId) (sp : Nat → Nat) (H0 : Heap) (l : Launch) (ρ0 : List Nat) (ad : Nat → Nat) (rf : Nat → Nat → Option Nat) (sh : SHP) (h : PH) (c k : Nat) (x : Int) : Prop := ∃ C, mq (c / 1000 % 100) (c % 1000) = some C ∧ ∃ (pc' : Nat) (lv' : LVs) (y : Int32), (Wp0 sb dC dI dA sp H0 l ρ0 ad rf sh C 0 h (lvt sp (lv_args 0 (pxv sp ad (c / 100000) k))) [] (one pc' h (lvt sp lv') [.int y]) ∧ ZQ sb sp ρ0 ad sh C 0 h (lv_args 0 (pxv sp ad (c / 100000) k)) [] pc' h lv' [.int y]) ∧ (∃ ins, decode C.2.1 pc' = .ok (ins, 1) ∧ rokc C.2.2.2.1 ins [.int y]) ∧ y.toInt = x
def L6 (sp : Nat → Nat) (ρ0 : List Nat) (L : LSc) : Prop := ρ0[6]? = some (L.1 + 9223372036854775808) ∧ ∀ j, L.2.1 j = (sp (1000 + j) : Int) - 9223372036854775808
def LOK (sb : Nat → List Nat) (mq : Nat → Nat → Option MR) (dC : Nat → ClassId) (dI : Nat → Nat → Nat) (dA : Nat → ClassId) (sp : Nat → Nat) (H0 : Heap) (l : Launch) (ρ0 : List Nat) (ad : Nat → Nat) (rf : Nat → Nat → Option Nat) (sh : SHP) (L : LSc) : Prop := L6 sp ρ0 L ∧ L.2.2 = PXd sb mq dC dI dA sp H0 l ρ0 ad rf sh
/-- a table of rows: kind, ranges of the two numbers behind it -/
abbrev RT : Type := List (Nat × Int × (Int × Int) × (Int × Int))
/-- rows: their table, stride, the cell and the first place of kinds, firsts, seconds -/
abbrev GT : Type := List (Nat × Nat × (Nat × Nat) × (Nat × Nat) × (Nat × Nat))
abbrev TB : Type := SHP × TT × GT × RT × Nat
def Rok (rt : RT) (fm : Nat) (k a b : Int) : Prop := ∃ e ∈ rt, e.1 = fm ∧ e.2.1 = k ∧ e.2.2.1.1 ≤ a ∧ a ≤ e.2.2.1.2 ∧ e.2.2.2.1 ≤ b ∧ b ≤ e.2.2.2.2
def Gok (tb : TB) (h : PH) (id : Nat) (n : Int) : Prop := ∃ G, tb.2.2.1[id]? = some G ∧ ∀ k : Nat, (k : Int) < n → Rok tb.2.2.2.1 G.1 (h G.2.2.1.1 (G.2.2.1.2 + G.2.1 * k)) (h G.2.2.2.1.1 (G.2.2.2.1.2 + G.2.1 * k)) (h G.2.2.2.2.1 (G.2.2.2.2.2 + G.2.1 * k))
def Qok (h : PH) (c d : Nat) (i j n : Int) : Prop := 0 ≤ i ∧ 0 ≤ j ∧ ∀ k : Nat, (k : Int) < n → h c (i.toNat + k) = h d (j.toNat + k)
def sumr (g : Nat → Int) : Nat → Int
  | 0 => 0
  | n + 1 => sumr g n + g n
def Mk (tb : TB) (L : LSc) (ρ : List Int) (h0 h : PH) (m : MM) : Prop :=
  (∀ e ∈ m.1, ∃ i x, Lv ρ e.2.1 i ∧ 0 ≤ i ∧ Lv ρ e.2.2 x ∧ h e.1 i.toNat = x) ∧
  (∀ e ∈ m.2.1, ∃ n, Lv ρ e.2 n ∧ Gok tb h e.1 n) ∧
  (∀ e ∈ m.2.2.1, ∃ i j n, Lv ρ e.1.2 i ∧ Lv ρ e.2.1.2 j ∧ Lv ρ e.2.2 n ∧ Qok h e.1.1 e.2.1.1 i j n) ∧
  (∀ (c k : Nat), (∀ w ∈ m.2.2.2.1, ¬ (w.1 = c ∧ w.2.1 ≤ (k : Int) ∧ (k : Int) ≤ w.2.2)) → h c k = h0 c k) ∧
  (∀ f ∈ m.2.2.2.2.1, ∃ n, Lv ρ f n ∧ n = sumr (h tb.2.2.2.2) 80) ∧
  (∀ e ∈ m.2.2.2.2.2, ∃ i x, Lv ρ e.2.1 i ∧ 0 ≤ i ∧ Lv ρ e.2.2 x ∧ L.2.2 h e.1 i.toNat x)
/-- the types hold; the script's length is kept as that of a cell beyond all others -/
def Th (tb : TB) (L : LSc) (h : PH) : Prop := (∀ c T, tb.2.1[c]? = some T → (∀ s ∈ T.2, s.2.length ≠ 0) ∧ ∀ k q, ty_at T k = some q → q.1 ≤ h c k ∧ h c k ≤ q.2) ∧ h 999 0 = (L.1 : Int) ∧ ∀ k, k < L.1 → h 998 k = L.2.1 k
theorem Mk.mono {tb : TB} {L : LSc} {ρ ρ' : List Int} {h0 h : PH} {m : MM} (hs : Sb ρ ρ') (hm : Mk tb L ρ h0 h m) : Mk tb L ρ' h0 h m := by
  obtain ⟨a, b, c, d, e, f⟩ := hm
  refine ⟨fun q hq => ?_, fun q hq => ?_, fun q hq => ?_, d, fun q hq => ?_, fun q hq => ?_⟩
  · obtain ⟨i, x, z1, z2, z3, z4⟩ := a q hq
    exact ⟨i, x, z1.mono hs, z2, z3.mono hs, z4⟩
  · obtain ⟨n, z1, z2⟩ := b q hq
    exact ⟨n, z1.mono hs, z2⟩
  · obtain ⟨i, j, n, z1, z2, z3, z4⟩ := c q hq
    exact ⟨i, j, n, z1.mono hs, z2.mono hs, z3.mono hs, z4⟩
  · obtain ⟨n, z1, z2⟩ := e q hq
    exact ⟨n, z1.mono hs, z2⟩
  · obtain ⟨i, x, z1, z2, z3, z4⟩ := f q hq
    exact ⟨i, x, z1.mono hs, z2, z3.mono hs, z4⟩
/-- looked up among what is known -/
noncomputable def ca_fd (c : Nat) (I : LF) (l : List CE) : Option LF := List.rec (motive := fun _ => Option LF) none (fun e _ ih => bif Nat.beq e.1 c && lf_eq e.2.1 I then some e.2.2 else ih) l
theorem ca_fd_ok {c : Nat} {I v : LF} : ∀ {l : List CE}, ca_fd c I l = some v → (c, I, v) ∈ l
  | [], h => by cases h
  | e :: t, h => by
    have h : (bif Nat.beq e.1 c && lf_eq e.2.1 I then some e.2.2 else ca_fd c I t) = some v := h
    cases hb : (Nat.beq e.1 c && lf_eq e.2.1 I) with
    | true =>
      rw [hb] at h
      have w := bb_and hb
      have e1 := bb_eq w.1
      have e2 := lf_eq_ok w.2
      have e3 : e.2.2 = v := Option.some.inj h
      rw [← e1, ← e2, ← e3]
      exact List.mem_cons_self
    | false =>
      rw [hb] at h
      exact List.mem_cons_of_mem _ (ca_fd_ok h)
/-- a load: what is known, else something of the type -/
noncomputable def ld {β : Type} (tb : TB) (N : NS) (m : MM) (c : Nat) (I : LF) (kk : NS → MM → LF → Option β) : Option β :=
  match ca_fd c I m.1 with
  | some v => lf_nv N.1 v (fun v' => kk N m v')
  | none => ob (ax_nth tb.2.1 c) (fun T => ty_j T N I (fun J => nwv N J.1.1 J.1.2 (fun N' f => kk N' ((c, I, f) :: m.1, m.2) f)))
theorem ld_ok {β : Type} {tb : TB} {L : LSc} {ρ : List Int} {h0 h : PH} {N : NS} {m : MM} (hN : Nk ρ N) (hm : Mk tb L ρ h0 h m) (hT : Th tb L h) {c : Nat} {I : LF} {i : Int} (hI : Lv ρ I i) (h0i : 0 ≤ i) {kk : NS → MM → LF → Option β} {r : β} (hr : ld tb N m c I kk = some r) : ∃ N' m' f ρ', kk N' m' f = some r ∧ Sb ρ ρ' ∧ Nk ρ' N' ∧ Mk tb L ρ' h0 h m' ∧ Lv ρ' f (h c i.toNat) := by
  unfold ld at hr
  cases hc : ca_fd c I m.1 with
  | some v =>
    rw [hc] at hr
    obtain ⟨v', e1, e2⟩ := lf_nv_ok hN.1 v (fun v' => kk N m v')
    have hr : lf_nv N.1 v (fun v' => kk N m v') = some r := hr
    rw [e1] at hr
    obtain ⟨i', x, z1, z2, z3, z4⟩ := hm.1 _ (ca_fd_ok hc)
    have ei : i = i' := hI.fn z1
    subst ei
    exact ⟨N, m, v', ρ, hr, Sb.rf ρ, hN, hm, by rw [z4]; exact e2 x z3⟩
  | none =>
    rw [hc] at hr
    obtain ⟨T, t1, hr⟩ := ob_s (o := ax_nth tb.2.1 c) hr
    rw [ax_nth_eq] at t1
    obtain ⟨tn, tk⟩ := hT.1 c T t1
    obtain ⟨i0, J, q, j1, j2, j3⟩ := ty_j_ok hN tn hI hr
    have b := tk _ _ j2
    obtain ⟨N', f, e1, e2, e3, e4⟩ := nwv_ok hN (lo := J.1.1) (hi := J.1.2) (fun N' f => kk N' ((c, I, f) :: m.1, m.2) f) (z := h c i.toNat) (by have := j3.1; omega) (by have := j3.2.1; omega)
    rw [e1] at j1
    refine ⟨N', _, f, _, j1, e2, e3, ?_, e4⟩
    have hm' := hm.mono e2
    refine ⟨fun e he => ?_, hm'.2⟩
    rcases List.mem_cons.mp he with rfl | he
    · exact ⟨i, _, hI.mono e2, h0i, e4, rfl⟩
    · exact hm'.1 e he
end
