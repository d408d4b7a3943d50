/-! PLAIN RUNS, 6: steps on the heap, switches, calls -/
section ZX
variable {sb : Nat → List Nat} {sp : Nat → Nat} {ρ0 : List Nat} {ad : Nat → Nat} {sh : SHP}
variable {M : MR} {pc pc1 pc' len : Nat} {ins : Instr} {lk : List Nat} {h h1 h' : PH} {lv lv1 lv' : LVs} {st st1 st' : List Value}
theorem obr_t {α : Type} {o : Option α} {x : α} {k : α → Prop} (ho : o = some x) (hk : k x) : obr False o k := by rw [ho]; exact hk
theorem bb_rf (n : Nat) : Nat.beq n n = true := by rw [Nat.beq_eq]
theorem bb_lo {a b : Nat} (h : a < b) : Nat.blt a b = true := Nat.ble_eq_true_of_le h
theorem nthe {α : Type} {l : List α} {n : Nat} {x : α} (h : l[n]? = some x) : ax_nth l n = some x := by rw [ax_nth_eq]; exact h
theorem o32R {z : Int} (hr : R32 z) : (Int32.ofInt z).toInt = z := by
  have := hr.1
  have := hr.2
  rw [Int32.toInt_ofInt]
  show z.bmod 4294967296 = z
  rw [Int.bmod_def]
  omega
theorem o64R {z : Int} (hr : R64 z) : (Int64.ofInt z).toInt = z := by
  have := hr.1
  have := hr.2
  rw [Int64.toInt_ofInt]
  show z.bmod 18446744073709551616 = z
  rw [Int.bmod_def]
  omega
theorem zq_getf {ci k c0 n : Nat} {fs : List (Nat × Nat)} {f : Nat × Nat} (hdg : Dg M pc ins len (ci :: k :: lk)) (ho : ax_op ins = 8) (hsh : sh[c0]? = some (ci, n, fs)) (hci : ci < 100) (hf : fs[k]? = some f) (hfr : (f.1 = 0 ∧ R32 (h c0 k)) ∨ (f.1 = 1 ∧ R64 (h c0 k)) ∨ f.1 = 2) (K : ZQ sb sp ρ0 ad sh M (pc + len) h lv (pf ad (h c0) k f :: st) pc' h' lv' st') : ZQ sb sp ρ0 ad sh M pc h lv (.ref (ad c0) :: st) pc' h' lv' st' := by
  refine zq_nx K hdg ho (fun hi zl hz cr => ?_)
  rw [List.map_cons, cz_c hi]
  show obr False (ax_nth sh c0) _
  refine obr_t (nthe hsh) ?_
  show gdr False (Nat.beq ci ci && Nat.blt ci 100) _
  refine gdr_t (by rw [bb_rf, bb_lo hci]; rfl) ?_
  refine obr_t (nthe hf) ?_
  obtain ⟨t, g⟩ := f
  rcases hfr with ⟨e, r⟩ | ⟨e, r⟩ | e
  · have e : t = 0 := e
    subst e
    exact And.intro r (And.intro rfl (And.intro rfl (congrArg (fun z => ((0, z) : ZV) :: st.map (cz ad)) (o32R r).symm)))
  · have e : t = 1 := e
    subst e
    exact And.intro r (And.intro rfl (And.intro rfl (congrArg (fun z => ((1, z) : ZV) :: st.map (cz ad)) (o64R r).symm)))
  · have e : t = 2 := e
    subst e
    exact And.intro rfl (And.intro rfl (congrArg (fun z => z :: st.map (cz ad)) (cz_c hi g).symm))
theorem zq_getS {k x : Nat} (hdg : Dg M pc ins len (200 :: k :: lk)) (ho : ax_op ins = 8) (hxs : x = 1 ∨ x = 3) (K : ZQ sb sp ρ0 ad sh M (pc + len) h lv ((if k = 0 then .retAddr (x + 1) else .int 0) :: st) pc' h' lv' st') : ZQ sb sp ρ0 ad sh M pc h lv (.retAddr x :: st) pc' h' lv' st' := by
  refine zq_nx K hdg ho (fun hi zl hz cr => ?_)
  rw [List.map_cons, cz_s]
  show (bif Nat.beq k 0 then _ else _)
  by_cases hk : k = 0
  · subst hk
    exact And.intro rfl (And.intro rfl (congrArg (fun z => z :: st.map (cz ad)) (show ((6, Int.ofNat x + 1) : ZV) = cz ad (.retAddr (x + 1)) from rfl)))
  · rw [bb_nb hk, if_neg hk]
    exact And.intro rfl (And.intro rfl rfl)
theorem zq_putf {ci k tc c0 n : Nat} {x : Int} {V : Value} {fs : List (Nat × Nat)} (hdg : Dg M pc ins len (ci :: k :: tc :: lk)) (ho : ax_op ins = 9) (hsh : sh[c0]? = some (ci, n, fs)) (hci : ci < 100) (hV : fok tc V x) (K : ZQ sb sp ρ0 ad sh M (pc + len) (uph h c0 k x) lv st pc' h' lv' st') : ZQ sb sp ρ0 ad sh M pc h lv (V :: .ref (ad c0) :: st) pc' h' lv' st' := by
  refine zq_nx K hdg ho (fun hi zl hz cr => ?_)
  rw [List.map_cons, List.map_cons, cz_c hi]
  show obr False (ax_nth sh c0) _
  refine obr_t (nthe hsh) ?_
  show gdr False (Nat.beq ci ci && Nat.blt ci 100) _
  refine gdr_t (by rw [bb_rf, bb_lo hci]; rfl) ?_
  have e : (cz ad V).2 = x := by
    match tc, hV with
    | 0, hV => obtain ⟨y, rfl, e⟩ := hV; exact e
    | 1, hV => obtain ⟨y, rfl, e, -⟩ := hV; exact e
    | 2, hV => obtain ⟨y, rfl, e⟩ := hV; exact e
    | n + 3, hV => exact hV.elim
  exact And.intro (congrArg (uph h c0 k) e) (And.intro rfl rfl)
theorem zq_iald {c0 n : Nat} {fs : List (Nat × Nat)} {i : Int32} (hdg : Dg M pc .iaload 1 lk) (hsh : sh[c0]? = some (100, n, fs)) (h1 : 0 ≤ i.toInt) (h2 : i.toInt < n) (hr : R32 (h c0 i.toInt.toNat)) (K : ZQ sb sp ρ0 ad sh M (pc + 1) h lv (.int (Int32.ofInt (h c0 i.toInt.toNat)) :: st) pc' h' lv' st') : ZQ sb sp ρ0 ad sh M pc h lv (.int i :: .ref (ad c0) :: st) pc' h' lv' st' := by
  refine zq_nx K hdg (op := 10) rfl (fun hi zl hz cr => ?_)
  rw [List.map_cons, List.map_cons, cz_c hi]
  show obr False (ax_nth sh c0) _
  refine obr_t (nthe hsh) ?_
  exact And.intro ⟨h1, h2⟩ (And.intro hr (And.intro rfl (And.intro rfl (congrArg (fun z => ((0, z) : ZV) :: st.map (cz ad)) (o32R hr).symm))))
theorem zq_bald {c0 n : Nat} {fs : List (Nat × Nat)} {i : Int32} (hdg : Dg M pc .baload 1 lk) (hsh : sh[c0]? = some (102, n, fs)) (h1 : 0 ≤ i.toInt) (h2 : i.toInt < n) (hr : R32 (h c0 i.toInt.toNat)) (K : ZQ sb sp ρ0 ad sh M (pc + 1) h lv (.int (Int32.ofInt (h c0 i.toInt.toNat)) :: st) pc' h' lv' st') : ZQ sb sp ρ0 ad sh M pc h lv (.int i :: .ref (ad c0) :: st) pc' h' lv' st' := by
  refine zq_nx K hdg (op := 12) rfl (fun hi zl hz cr => ?_)
  rw [List.map_cons, List.map_cons, cz_c hi]
  show obr False (ax_nth sh c0) _
  refine obr_t (nthe hsh) ?_
  exact And.intro ⟨h1, h2⟩ (And.intro hr (And.intro rfl (And.intro rfl (congrArg (fun z => ((0, z) : ZV) :: st.map (cz ad)) (o32R hr).symm))))
theorem zq_lald {c0 n : Nat} {fs : List (Nat × Nat)} {i : Int32} (hdg : Dg M pc .laload 1 lk) (hsh : sh[c0]? = some (101, n, fs)) (h1 : 0 ≤ i.toInt) (h2 : i.toInt < n) (hr : R64 (h c0 i.toInt.toNat)) (K : ZQ sb sp ρ0 ad sh M (pc + 1) h lv (.long (Int64.ofInt (h c0 i.toInt.toNat)) :: st) pc' h' lv' st') : ZQ sb sp ρ0 ad sh M pc h lv (.int i :: .ref (ad c0) :: st) pc' h' lv' st' := by
  refine zq_nx K hdg (op := 11) rfl (fun hi zl hz cr => ?_)
  rw [List.map_cons, List.map_cons, cz_c hi]
  show obr False (ax_nth sh c0) _
  refine obr_t (nthe hsh) ?_
  exact And.intro ⟨h1, h2⟩ (And.intro hr (And.intro rfl (And.intro rfl (congrArg (fun z => ((1, z) : ZV) :: st.map (cz ad)) (o64R hr).symm))))
theorem z_sel_ok {i : Int} {kk : ZV → Prop} : ∀ (fs : List (Nat × Nat)) (j k : Nat) (f : Nat × Nat), fs[k]? = some f → i = Int.ofNat (j + k) → kk (2, Int.ofNat f.2) → z_sel False exB i kk fs j
  | [], _, _, _, h, _, _ => by cases h
  | g :: t, j, 0, f, h, e, hk => by
    have h : some g = some f := h
    cases h
    exact Or.inl ⟨e, hk⟩
  | g :: t, j, k + 1, f, h, e, hk => by
    have h : t[k]? = some f := by simpa using h
    refine Or.inr ⟨fun q => ?_, z_sel_ok t (j + 1) k f h (by rw [e]; congr 1; omega) hk⟩
    rw [e] at q
    have := Int.ofNat.inj q
    omega
theorem zq_aald {c0 n kd : Nat} {fs : List (Nat × Nat)} {f : Nat × Nat} {i : Int32} (hdg : Dg M pc .aaload 1 lk) (hsh : sh[c0]? = some (kd, n, fs)) (hk1 : 103 ≤ kd) (h1 : 0 ≤ i.toInt) (hf : fs[i.toInt.toNat]? = some f) (K : ZQ sb sp ρ0 ad sh M (pc + 1) h lv (.ref (ad f.2) :: st) pc' h' lv' st') : ZQ sb sp ρ0 ad sh M pc h lv (.int i :: .ref (ad c0) :: st) pc' h' lv' st' := by
  refine zq_nx K hdg (op := 13) rfl (fun hi zl hz cr => ?_)
  rw [List.map_cons, List.map_cons, cz_c hi]
  show obr False (ax_nth sh c0) _
  refine obr_t (nthe hsh) ?_
  show gdr False (Nat.ble 103 kd) _
  refine gdr_t (Nat.ble_eq_true_of_le hk1) ?_
  refine z_sel_ok fs 0 i.toInt.toNat f hf (by show i.toInt = ((0 + i.toInt.toNat : Nat) : Int); omega) ?_
  exact And.intro rfl (And.intro rfl (congrArg (fun z => z :: st.map (cz ad)) (cz_c hi f.2).symm))
theorem zq_iast {c0 n : Nat} {fs : List (Nat × Nat)} {i x : Int32} (hdg : Dg M pc .iastore 1 lk) (hsh : sh[c0]? = some (100, n, fs)) (h1 : 0 ≤ i.toInt) (h2 : i.toInt < n) (K : ZQ sb sp ρ0 ad sh M (pc + 1) (uph h c0 i.toInt.toNat x.toInt) lv st pc' h' lv' st') : ZQ sb sp ρ0 ad sh M pc h lv (.int x :: .int i :: .ref (ad c0) :: st) pc' h' lv' st' := by
  refine zq_nx K hdg (op := 14) rfl (fun hi zl hz cr => ?_)
  rw [List.map_cons, List.map_cons, List.map_cons, cz_c hi]
  show obr False (ax_nth sh c0) _
  refine obr_t (nthe hsh) ?_
  exact And.intro ⟨h1, h2⟩ (And.intro rfl (And.intro rfl rfl))
theorem zq_bast {c0 n : Nat} {fs : List (Nat × Nat)} {i x : Int32} (hdg : Dg M pc .bastore 1 lk) (hsh : sh[c0]? = some (102, n, fs)) (h1 : 0 ≤ i.toInt) (h2 : i.toInt < n) (K : ZQ sb sp ρ0 ad sh M (pc + 1) (uph h c0 i.toInt.toNat x.toInt) lv st pc' h' lv' st') : ZQ sb sp ρ0 ad sh M pc h lv (.int x :: .int i :: .ref (ad c0) :: st) pc' h' lv' st' := by
  refine zq_nx K hdg (op := 16) rfl (fun hi zl hz cr => ?_)
  rw [List.map_cons, List.map_cons, List.map_cons, cz_c hi]
  show obr False (ax_nth sh c0) _
  refine obr_t (nthe hsh) ?_
  exact And.intro ⟨h1, h2⟩ (And.intro rfl (And.intro rfl rfl))
theorem zq_last {c0 n : Nat} {fs : List (Nat × Nat)} {i : Int32} {x : Int64} (hdg : Dg M pc .lastore 1 lk) (hsh : sh[c0]? = some (101, n, fs)) (h1 : 0 ≤ i.toInt) (h2 : i.toInt < n) (K : ZQ sb sp ρ0 ad sh M (pc + 1) (uph h c0 i.toInt.toNat x.toInt) lv st pc' h' lv' st') : ZQ sb sp ρ0 ad sh M pc h lv (.long x :: .int i :: .ref (ad c0) :: st) pc' h' lv' st' := by
  refine zq_nx K hdg (op := 15) rfl (fun hi zl hz cr => ?_)
  rw [List.map_cons, List.map_cons, List.map_cons, cz_c hi]
  show obr False (ax_nth sh c0) _
  refine obr_t (nthe hsh) ?_
  exact And.intro ⟨h1, h2⟩ (And.intro rfl (And.intro rfl rfl))
theorem zq_alen {c0 n kd : Nat} {fs : List (Nat × Nat)} (hdg : Dg M pc .arraylength 1 lk) (hsh : sh[c0]? = some (kd, n, fs)) (K : ZQ sb sp ρ0 ad sh M (pc + 1) h lv (.int (nI n) :: st) pc' h' lv' st') : ZQ sb sp ρ0 ad sh M pc h lv (.ref (ad c0) :: st) pc' h' lv' st' := by
  refine zq_nx K hdg (op := 53) rfl (fun hi zl hz cr => ?_)
  rw [List.map_cons, cz_c hi]
  show obr False (ax_nth sh c0) _
  refine obr_t (nthe hsh) ?_
  exact And.intro rfl (And.intro rfl (congrArg (fun z => ((0, z) : ZV) :: st.map (cz ad)) (z32_eq n)))
theorem zq_slen {L : Nat} (hdg : Dg M pc .arraylength 1 lk) (hL : ρ0[6]? = some (L + 9223372036854775808)) (K : ZQ sb sp ρ0 ad sh M (pc + 1) h lv (.int (nI L) :: st) pc' h' lv' st') : ZQ sb sp ρ0 ad sh M pc h lv (.retAddr 0 :: st) pc' h' lv' st' := by
  have e : sl0 ρ0 = L := by
    unfold sl0
    rw [List.getD_eq_getElem?_getD, hL]
    show L + 9223372036854775808 - 9223372036854775808 = L
    omega
  refine zq_nx K hdg (op := 53) rfl (fun hi zl hz cr => ?_)
  rw [List.map_cons, cz_s]
  exact And.intro rfl (And.intro rfl (congrArg (fun z => ((0, z) : ZV) :: st.map (cz ad)) (show z32 (sl0 ρ0) = (nI L).toInt by rw [e, z32_eq])))
theorem zq_sld {L : Nat} {i : Int32} (hdg : Dg M pc .iaload 1 lk) (hL : ρ0[6]? = some (L + 9223372036854775808)) (h1 : 0 ≤ i.toInt) (h2 : i.toInt < L) (hr : R32 ((sp (1000 + i.toInt.toNat) : Int) - 9223372036854775808)) (K : ZQ sb sp ρ0 ad sh M (pc + 1) h lv (.int (Int32.ofInt ((sp (1000 + i.toInt.toNat) : Int) - 9223372036854775808)) :: st) pc' h' lv' st') : ZQ sb sp ρ0 ad sh M pc h lv (.int i :: .retAddr 0 :: st) pc' h' lv' st' := by
  have e : sl0 ρ0 = L := by
    unfold sl0
    rw [List.getD_eq_getElem?_getD, hL]
    show L + 9223372036854775808 - 9223372036854775808 = L
    omega
  refine zq_nx K hdg (op := 10) rfl (fun hi zl hz cr => ?_)
  rw [List.map_cons, List.map_cons, cz_s]
  exact And.intro ⟨h1, by rw [e]; exact h2⟩ (And.intro hr (And.intro rfl (And.intro rfl (congrArg (fun z => ((0, z) : ZV) :: st.map (cz ad)) (o32R hr).symm))))
theorem zq_tlen {x : Nat} (hdg : Dg M pc .arraylength 1 lk) (hx2 : x = 2 ∨ x = 4) (K : ZQ sb sp ρ0 ad sh M (pc + 1) h lv (.int (nI (sb x).length) :: st) pc' h' lv' st') : ZQ sb sp ρ0 ad sh M pc h lv (.retAddr x :: st) pc' h' lv' st' := by
  refine zq_nx K hdg (op := 53) rfl (fun hi zl hz cr => ?_)
  rw [List.map_cons, cz_s]
  rcases hx2 with rfl | rfl
  · exact And.intro rfl (And.intro rfl (congrArg (fun z => ((0, z) : ZV) :: st.map (cz ad)) (z32_eq (sb 2).length)))
  · exact And.intro rfl (And.intro rfl (congrArg (fun z => ((0, z) : ZV) :: st.map (cz ad)) (z32_eq (sb 4).length)))
theorem zq_tld {x n : Nat} {i : Int32} (hdg : Dg M pc .baload 1 lk) (hx2 : x = 2 ∨ x = 4) (h1 : 0 ≤ i.toInt) (hn : (sb x)[i.toInt.toNat]? = some n) (K : ZQ sb sp ρ0 ad sh M (pc + 1) h lv (.int (nI n) :: st) pc' h' lv' st') : ZQ sb sp ρ0 ad sh M pc h lv (.int i :: .retAddr x :: st) pc' h' lv' st' := by
  have hl := (List.getElem?_eq_some_iff.mp hn).1
  have e : z32 ((sb x).getD i.toInt.toNat 0) = (nI n).toInt := by rw [List.getD_eq_getElem?_getD, hn, z32_eq]; rfl
  refine zq_nx K hdg (op := 12) rfl (fun hi zl hz cr => ?_)
  rw [List.map_cons, List.map_cons, cz_s]
  rcases hx2 with rfl | rfl
  · exact And.intro ⟨h1, by show i.toInt < (((sb 2).length : Nat) : Int); omega⟩ (And.intro rfl (And.intro rfl (congrArg (fun z => ((0, z) : ZV) :: st.map (cz ad)) e)))
  · exact And.intro ⟨h1, by show i.toInt < (((sb 4).length : Nat) : Int); omega⟩ (And.intro rfl (And.intro rfl (congrArg (fun z => ((0, z) : ZV) :: st.map (cz ad)) e)))
theorem zq_gets0 (hdg : Dg M pc ins len (0 :: lk)) (ho : ax_op ins = 56) (K : ZQ sb sp ρ0 ad sh M (pc + len) h lv (.int 1 :: st) pc' h' lv' st') : ZQ sb sp ρ0 ad sh M pc h lv st pc' h' lv' st' := by
  refine zq_nx K hdg ho (fun hi zl hz cr => ?_)
  exact And.intro rfl (And.intro rfl rfl)
theorem zq_gets1 {x : Nat} (hx : x ≠ 0) (hdg : Dg M pc ins len (x :: lk)) (ho : ax_op ins = 56) (K : ZQ sb sp ρ0 ad sh M (pc + len) h lv (.float 0 :: st) pc' h' lv' st') : ZQ sb sp ρ0 ad sh M pc h lv st pc' h' lv' st' := by
  refine zq_nx K hdg ho (fun hi zl hz cr => ?_)
  show (bif Nat.beq x 0 then _ else _)
  rw [bb_nb hx]
  exact And.intro rfl (And.intro rfl rfl)
theorem zq_min {x y : Int32} {rest : List Value} (hdg : Dg M pc ins len (902 :: lk)) (ho : ax_op ins = 21) (K : ZQ sb sp ρ0 ad sh M (pc + len) h lv (.int (if y < x then y else x) :: rest) pc' h' lv' st') : ZQ sb sp ρ0 ad sh M pc h lv (.int y :: .int x :: rest) pc' h' lv' st' := by
  have e : zmin x.toInt y.toInt = (if y < x then y else x).toInt := by
    unfold zmin
    by_cases c : y < x
    · rw [if_pos c, if_pos (Int32.lt_iff_toInt_lt.mp c)]
    · rw [if_neg c, if_neg (fun z => c (Int32.lt_iff_toInt_lt.mpr z))]
  refine zq_nx K hdg ho (fun hi zl hz cr => ?_)
  exact And.intro rfl (And.intro rfl (congrArg (fun z => ((0, z) : ZV) :: rest.map (cz ad)) e))
theorem zq_max {b : Nat} {x y : Int32} {rest : List Value} (hdg : Dg M pc ins len (903 :: b :: lk)) (ho : ax_op ins = 21) (K : ZQ sb sp ρ0 ad sh M (pc + len) h lv (.int (if x < y then y else x) :: rest) pc' h' lv' st') : ZQ sb sp ρ0 ad sh M pc h lv (.int y :: .int x :: rest) pc' h' lv' st' := by
  have e : zmax x.toInt y.toInt = (if x < y then y else x).toInt := by
    unfold zmax
    by_cases c : x < y
    · rw [if_pos c, if_pos (Int32.lt_iff_toInt_lt.mp c)]
    · rw [if_neg c, if_neg (fun z => c (Int32.lt_iff_toInt_lt.mpr z))]
  refine zq_nx K hdg ho (fun hi zl hz cr => ?_)
  exact And.intro rfl (And.intro rfl (congrArg (fun z => ((0, z) : ZV) :: rest.map (cz ad)) e))
theorem zq_copy {cs cd : Nat} {n dp sq : Int32} {rest : List Value} (hdg : Dg M pc ins len (901 :: lk)) (ho : ax_op ins = 21) (b1 : 0 ≤ sq.toInt) (b2 : 0 ≤ dp.toInt) (b3 : 0 ≤ n.toInt) (K : ZQ sb sp ρ0 ad sh M (pc + len) (cph h cs cd sq.toInt.toNat dp.toInt.toNat n.toInt.toNat) lv rest pc' h' lv' st') : ZQ sb sp ρ0 ad sh M pc h lv (.int n :: .int dp :: .ref (ad cd) :: .int sq :: .ref (ad cs) :: rest) pc' h' lv' st' := by
  refine zq_nx K hdg ho (fun hi zl hz cr => ?_)
  rw [List.map_cons, List.map_cons, List.map_cons, List.map_cons, List.map_cons, cz_c hi, cz_c hi]
  exact And.intro ⟨b1, b2, b3⟩ (And.intro rfl (And.intro rfl rfl))
theorem z_sw_ok {x : Int32} {T d : Nat} {g : Nat → Prop} (hg : g T) : ∀ (ks : List Nat), ((∀ k t, ax_pr k t ks → x ≠ nI k) → d = T) → (∀ k t, ax_pr k t ks → x = nI k → t = T) → z_sw exB x.toInt g d ks
  | [], hD, _ => by
    have e : d = T := hD (fun _ _ q => q.elim)
    subst e
    exact hg
  | [_], hD, _ => by
    have e : d = T := hD (fun _ _ q => q.elim)
    subst e
    exact hg
  | k :: t :: r, hD, hK => by
    by_cases c : x = nI k
    · have e : t = T := hK k t (Or.inl ⟨rfl, rfl⟩) c
      subst e
      exact Or.inl ⟨by rw [z32_eq, c], hg⟩
    · refine Or.inr ⟨fun z => c (Int32.toInt_inj.mp (by rw [z, z32_eq])), z_sw_ok hg r (fun q => hD (fun k' t' p => ?_)) (fun k' t' p => hK k' t' (Or.inr p))⟩
      rcases p with ⟨e1, -⟩ | p
      · rw [← e1]; exact c
      · exact q k' t' p
theorem zq_table {d lo hi T : Nat} {ks : List Nat} {x : Int32} (hdg : Dg M pc ins len (d :: lo :: hi :: ks)) (ho : ax_op ins = 57) (K : ZQ sb sp ρ0 ad sh M T h lv st pc' h' lv' st') (hD : x.toInt < (nI lo).toInt ∨ (nI hi).toInt < x.toInt → d = T) (hND : (∀ k t, ax_pr k t ks → x ≠ nI k) → d = T) (hK : ∀ k t, ax_pr k t ks → x = nI k → t = T) : ZQ sb sp ρ0 ad sh M pc h lv (.int x :: st) pc' h' lv' st' := by
  refine zq_step K hdg (fun hi' zl hz => ⟨zl, hz, fun cr => ?_⟩)
  rw [ho]
  show exB (x.toInt < z32 lo ∨ z32 hi < x.toInt) _ _
  by_cases c : x.toInt < z32 lo ∨ z32 hi < x.toInt
  · have e : d = T := hD (by rw [z32_eq, z32_eq] at c; exact c)
    subst e
    exact Or.inl (And.intro c rfl)
  · exact Or.inr (And.intro c (z_sw_ok (x := x) (g := fun t => ((T, h, zl, st.map (cz ad)) : ZS) = (t, h, zl, st.map (cz ad))) rfl ks hND hK))
theorem zq_look {d T : Nat} {ks : List Nat} {x : Int32} (hdg : Dg M pc ins len (d :: ks)) (ho : ax_op ins = 58) (K : ZQ sb sp ρ0 ad sh M T h lv st pc' h' lv' st') (hND : (∀ k t, ax_pr k t ks → x ≠ nI k) → d = T) (hK : ∀ k t, ax_pr k t ks → x = nI k → t = T) : ZQ sb sp ρ0 ad sh M pc h lv (.int x :: st) pc' h' lv' st' := by
  refine zq_step K hdg (fun hi' zl hz => ⟨zl, hz, fun cr => ?_⟩)
  rw [ho]
  exact z_sw_ok (x := x) (g := fun t => ((T, h, zl, st.map (cz ad)) : ZS) = (t, h, zl, st.map (cz ad))) rfl ks hND hK
theorem z_args_ok : ∀ (u rest acc : List ZV), z_args u.length (u ++ rest) acc = some (u.reverse ++ acc, rest)
  | [], rest, acc => rfl
  | v :: u, rest, acc => by
    show z_args u.length (u ++ rest) (v :: acc) = _
    rw [z_args_ok u rest (v :: acc), List.reverse_cons, List.append_assoc]
    rfl
theorem Zlr.args {ad : Nat → Nat} : ∀ (as : List Value) (i : Nat), Zlr ad (z_locs i (as.map (cz ad))) (lv_args i as) ∧ ∀ q ∈ lv_args i as, i ≤ q.1
  | [], i => ⟨(fun q hq => by cases hq), (fun q hq => by cases hq)⟩
  | v :: r, i => by
    obtain ⟨A, B⟩ := Zlr.args (ad := ad) r (if v.category = 2 then i + 2 else i + 1)
    have e : (bif Nat.beq (cz ad v).1 1 then i + 2 else i + 1) = (if v.category = 2 then i + 2 else i + 1) := by
      rw [cz_t]
      by_cases c : v.category = 2
      · rw [if_pos c, c]; rfl
      · rw [if_neg c, bb_nb c]; rfl
    have g : i + 1 ≤ (if v.category = 2 then i + 2 else i + 1) := by split <;> omega
    refine ⟨fun q hq => ?_, fun q hq => ?_⟩
    · have hq : q ∈ (i, v) :: lv_args (if v.category = 2 then i + 2 else i + 1) r := hq
      show zlk ((i, cz ad v) :: z_locs (bif Nat.beq (cz ad v).1 1 then i + 2 else i + 1) (r.map (cz ad))) q.1 = _
      rw [zlk_cons]
      rcases List.mem_cons.mp hq with rfl | hq
      · show (bif Nat.beq i i then _ else _) = _
        rw [bb_rf]; rfl
      · have := B q hq
        show (bif Nat.beq i q.1 then _ else _) = _
        rw [bb_nb (show i ≠ q.1 by omega), e]
        exact A q hq
    · have hq : q ∈ (i, v) :: lv_args (if v.category = 2 then i + 2 else i + 1) r := hq
      rcases List.mem_cons.mp hq with rfl | hq
      · exact Nat.le_refl _
      · have := B q hq
        omega
theorem rtz_of {C : MR} {pc : Nat} {st : List Value} (h : ∃ ins, decode C.2.1 pc = .ok (ins, 1) ∧ rokc C.2.2.2.1 ins st) : rtz C pc (st.map (cz ad)) := by
  obtain ⟨ins, hd, hk⟩ := h
  refine ⟨ins, hd, ?_⟩
  cases ins <;> first | exact hk.elim | skip
  case ireturn =>
    obtain ⟨x, rfl, e⟩ := hk
    have := i32_rng x
    refine ⟨_, rfl, ⟨by omega, by omega⟩, ?_⟩
    rcases e with e | ⟨e, e2⟩ | ⟨e, -⟩ | ⟨e, -⟩
    · exact Or.inl e
    · exact Or.inr (Or.inl ⟨e, e2⟩)
    · exact Or.inr (Or.inr (Or.inl e))
    · exact Or.inr (Or.inr (Or.inr e))
  case lreturn =>
    obtain ⟨x, rfl, e⟩ := hk
    have := i64_rng x
    exact ⟨_, rfl, ⟨by omega, by omega⟩, e⟩
  case areturn => obtain ⟨x, rfl, e⟩ := hk; exact ⟨_, rfl, e⟩
  case return_ => obtain ⟨rfl, e⟩ := hk; exact ⟨rfl, e⟩
theorem zq_call {a b : Nat} {C : MR} {as rest : List Value} (hC : mth a b = some C) (hdg : Dg M pc ins len (a :: b :: lk)) (ho : ax_op ins = 21) (h9 : Nat.beq a 901 = false ∧ Nat.beq a 902 = false ∧ Nat.beq a 903 = false) (hna : as.length = C.2.2.2.2.2.1)
    {pcr : Nat} {hr : PH} {lvr : LVs} {str : List Value} (hW : ZQ sb sp ρ0 ad sh C 0 h (lv_args 0 as) [] pcr hr lvr str) (hR : ∃ ins, decode C.2.1 pcr = .ok (ins, 1) ∧ rokc C.2.2.2.1 ins str) (K : ZQ sb sp ρ0 ad sh M (pc + len) hr lv (str ++ rest) pc' h' lv' st') : ZQ sb sp ρ0 ad sh M pc h lv (as.reverse ++ rest) pc' h' lv' st' := by
  intro hi zl hz
  obtain ⟨f1, n1, zl1, a1, -⟩ := hW hi _ (Zlr.args as 0).1
  obtain ⟨f2, n2, zl2, a2, b2⟩ := K hi zl hz
  have CC : Zc (zp0 sb sp ρ0 sh) (max (f1 + 1) f2) C h (as.map (cz ad)) hr (str.map (cz ad)) := Zc_le (Nat.le_max_left _ _) ⟨mth_gd hC, n1, pcr, zl1, a1, rtz_of hR⟩
  refine ⟨max (f1 + 1) f2, n2 + 1, zl2, ⟨(pc + len, hr, zl, (str ++ rest).map (cz ad)), ⟨(pc, ax_op ins, len, a :: b :: lk, ins), hdg.2, rfl, ?_⟩, Zn_le (Nat.le_max_right _ _) a2⟩, b2⟩
  rw [ho]
  show (bif Nat.beq a 901 then _ else bif Nat.beq a 902 then _ else bif Nat.beq a 903 then _ else _)
  rw [h9.1, h9.2.1, h9.2.2]
  refine obr_t hC ?_
  have e : z_args C.2.2.2.2.2.1 ((as.reverse ++ rest).map (cz ad)) [] = some (as.map (cz ad), rest.map (cz ad)) := by
    rw [List.map_append, ← hna, show as.length = (as.reverse.map (cz ad)).length by simp, z_args_ok, List.append_nil]
    simp
  refine obr_t e ?_
  exact ⟨hr, str.map (cz ad), CC, by rw [List.map_append]⟩
theorem zq_rf : ZQ sb sp ρ0 ad sh M pc h lv st pc h lv st := fun _ zl hz => ⟨0, 0, zl, rfl, hz⟩
theorem zq_bd (K : ZQ sb sp ρ0 ad sh M pc h lv st pc1 h1 lv1 st1) (KK : ZQ sb sp ρ0 ad sh M pc1 h1 lv1 st1 pc' h' lv' st') : ZQ sb sp ρ0 ad sh M pc h lv st pc' h' lv' st' := by
  intro hi zl hz
  obtain ⟨f1, n1, zl1, a1, b1⟩ := K hi zl hz
  obtain ⟨f2, n2, zl2, a2, b2⟩ := KK hi zl1 b1
  exact ⟨max f1 f2, n1 + n2, zl2, Zn_add n1 (Zn_le (Nat.le_max_left _ _) a1) (Zn_le (Nat.le_max_right _ _) a2), b2⟩
theorem zq_less (hs : ∀ q ∈ lv1, q ∈ lv) (K : ZQ sb sp ρ0 ad sh M pc h lv1 st pc' h' lv' st') : ZQ sb sp ρ0 ad sh M pc h lv st pc' h' lv' st' := fun hi zl hz => K hi zl (fun q hq => hz q (hs q hq))
end ZX
