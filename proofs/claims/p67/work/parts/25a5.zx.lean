/-! PLAIN RUNS, 5: steps -/
theorem wi32 (x y : Int32) : w32 (x.toInt + y.toInt) = (x + y).toInt := by
  unfold w32
  rw [Int32.ofInt_add, Int32.ofInt_toInt, Int32.ofInt_toInt]
theorem z_ib_ok (op : Nat) (x y : Int32) (ho : op < 9) : z_ib op x.toInt y.toInt = (ax_fop op x y).toInt := by
  match op, ho with
  | 0, _ => exact wi32 x y
  | 1, _ => show w32 (x.toInt - y.toInt) = (x - y).toInt; unfold w32; rw [Int32.ofInt_sub, Int32.ofInt_toInt, Int32.ofInt_toInt]
  | 2, _ => show w32 (x.toInt * y.toInt) = (x * y).toInt; unfold w32; rw [Int32.ofInt_mul, Int32.ofInt_toInt, Int32.ofInt_toInt]
  | 3, _ => show zand x.toInt y.toInt = (x &&& y).toInt; unfold zand; rw [Int32.ofInt_toInt, Int32.ofInt_toInt]
  | 4, _ => show zor x.toInt y.toInt = (x ||| y).toInt; unfold zor; rw [Int32.ofInt_toInt, Int32.ofInt_toInt]
  | 5, _ => show zxor x.toInt y.toInt = (x ^^^ y).toInt; unfold zxor; rw [Int32.ofInt_toInt, Int32.ofInt_toInt]
  | 6, _ => show zshl x.toInt y.toInt = (x <<< (y &&& 31)).toInt; unfold zshl; rw [Int32.ofInt_toInt, Int32.ofInt_toInt]
  | 7, _ => show zshr x.toInt y.toInt = (x >>> (y &&& 31)).toInt; unfold zshr; rw [Int32.ofInt_toInt, Int32.ofInt_toInt]
  | 8, _ => show zush x.toInt y.toInt = (ax_fop 8 x y).toInt; unfold zush; rw [Int32.ofInt_toInt, Int32.ofInt_toInt]
  | n + 9, h => exact absurd h (by omega)
theorem z_lb_ok (op : Nat) (x y : Int64) (ho : op < 5) : z_lb op x.toInt y.toInt = (ax_flo op x y).toInt := by
  match op, ho with
  | 0, _ => show w64 (x.toInt + y.toInt) = (x + y).toInt; unfold w64; rw [Int64.ofInt_add, Int64.ofInt_toInt, Int64.ofInt_toInt]
  | 1, _ => show w64 (x.toInt - y.toInt) = (x - y).toInt; unfold w64; rw [Int64.ofInt_sub, Int64.ofInt_toInt, Int64.ofInt_toInt]
  | 2, _ => show w64 (x.toInt * y.toInt) = (x * y).toInt; unfold w64; rw [Int64.ofInt_mul, Int64.ofInt_toInt, Int64.ofInt_toInt]
  | 3, _ => show zland x.toInt y.toInt = (x &&& y).toInt; unfold zland; rw [Int64.ofInt_toInt, Int64.ofInt_toInt]
  | 4, _ => show zlor x.toInt y.toInt = (x ||| y).toInt; unfold zlor; rw [Int64.ofInt_toInt, Int64.ofInt_toInt]
  | n + 5, h => exact absurd h (by omega)
theorem z_un_ok (op : Nat) (x : Int32) (ho : op < 4) : z_un op x.toInt = (ax_fu op x).toInt := by
  match op, ho with
  | 0, _ => show zi2b x.toInt = x.toInt8.toInt32.toInt; unfold zi2b; rw [Int32.ofInt_toInt]
  | 1, _ => show zi2s x.toInt = x.toInt16.toInt32.toInt; unfold zi2s; rw [Int32.ofInt_toInt]
  | 2, _ => show zi2c x.toInt = (x.toUInt32 % 65536).toInt32.toInt; unfold zi2c; rw [Int32.ofInt_toInt]
  | 3, _ => show w32 (-x.toInt) = (-x).toInt; unfold w32; rw [Int32.ofInt_neg, Int32.ofInt_toInt]
  | n + 4, h => exact absurd h (by omega)
theorem zcp_ok (k : Nat) (x y : Int32) : zcp k x.toInt y.toInt ↔ ax_cp k x y := by
  match k with
  | 0 => exact Int32.toInt_inj
  | 1 => exact not_congr Int32.toInt_inj
  | 2 => exact Int32.lt_iff_toInt_lt.symm
  | 3 => exact Int32.le_iff_toInt_le.symm
  | 4 => exact Int32.lt_iff_toInt_lt.symm
  | n + 5 => exact Int32.le_iff_toInt_le.symm
theorem zcmp_ok (x y : Int64) : zcmp x.toInt y.toInt = (lg_cmp x y).toInt := by
  have z := lcmp_z x y
  have zx := zL_cast x
  have zy := zL_cast y
  unfold zcmp
  rw [z]
  by_cases c1 : x.toInt < y.toInt
  · rw [if_pos c1, if_pos (show zL x < zL y by omega)]; decide
  · rw [if_neg c1, if_neg (show ¬ zL x < zL y by omega)]
    by_cases c2 : y.toInt < x.toInt
    · rw [if_pos c2, if_pos (show zL y < zL x by omega)]; decide
    · rw [if_neg c2, if_neg (show ¬ zL y < zL x by omega)]; decide
section ZX
variable {sb : Nat → List Nat} {sp : Nat → Nat} {ρ0 : List Nat} {ad : Nat → Nat} {sh : SHP}
variable {M : MR} {pc pc1 pc' len : Nat} {ins : Instr} {lk : List Nat} {h h1 h' : PH} {lv lv1 lv' : LVs} {st st1 st' : List Value}
theorem zq_step (K : ZQ sb sp ρ0 ad sh M pc1 h1 lv1 st1 pc' h' lv' st') (hdg : Dg M pc ins len lk) (H : Inj ad → ∀ zl, Zlr ad zl lv → ∃ zl1, Zlr ad zl1 lv1 ∧ ∀ cr, z_st (R := Prop) False exB exA (exC cr) sh sb (sl0 ρ0) (si0 sp) (7, 0) mth (pc, ax_op ins, len, lk, ins) h zl (st.map (cz ad)) (fun hx lx sx => ((pc1, h1, zl1, st1.map (cz ad)) : ZS) = (pc + len, hx, lx, sx)) (fun t hx lx sx => ((pc1, h1, zl1, st1.map (cz ad)) : ZS) = (t, hx, lx, sx))) : ZQ sb sp ρ0 ad sh M pc h lv st pc' h' lv' st' := by
  intro hi zl hz
  obtain ⟨zl1, hz1, HH⟩ := H hi zl hz
  obtain ⟨f, n, zl', a, b⟩ := K hi zl1 hz1
  exact ⟨f, n + 1, zl', ⟨(pc1, h1, zl1, st1.map (cz ad)), ⟨(pc, ax_op ins, len, lk, ins), hdg.2, rfl, HH _⟩, a⟩, b⟩
/-- where places that are known stay as they are, and the next place comes -/
theorem zq_nx (K : ZQ sb sp ρ0 ad sh M (pc + len) h1 lv st1 pc' h' lv' st') (hdg : Dg M pc ins len lk) {op : Nat} (ho : ax_op ins = op) (H : Inj ad → ∀ zl, Zlr ad zl lv → ∀ cr, z_st (R := Prop) False exB exA (exC cr) sh sb (sl0 ρ0) (si0 sp) (7, 0) mth (pc, op, len, lk, ins) h zl (st.map (cz ad)) (fun hx lx sx => hx = h1 ∧ lx = zl ∧ sx = st1.map (cz ad)) (fun _ _ _ _ => False)) : ZQ sb sp ρ0 ad sh M pc h lv st pc' h' lv' st' := by
  refine zq_step K hdg (fun hi zl hz => ⟨zl, hz, fun cr => ?_⟩)
  have G := H hi zl hz cr
  rw [ho]
  exact z_st_par (Rl := fun a b : Prop => a → b) (fun h => h) (fun c x1 x2 y1 y2 hx hy h => h.elim (fun q => Or.inl ⟨q.1, hx q.2⟩) (fun q => Or.inr ⟨q.1, hy q.2⟩)) (fun c x1 x2 hx h => ⟨h.1, hx h.2⟩) (fun C h as k1 k2 hk q => by
    obtain ⟨h', r, a, b⟩ := q
    exact ⟨h', r, a, hk _ _ b⟩) (fun hx lx sx q => by obtain ⟨rfl, rfl, rfl⟩ := q; rfl) (fun _ _ _ _ q => q.elim) G
theorem lok_push {t n : Nat} (hlk : lok mth M pc ins (t :: n :: lk) = true) (ho : ax_op ins = 0) : t = 0 ∨ t = 1 ∨ (t = 6 ∧ n ≤ 4) := by
  cases ins <;> first | (exact absurd ho (Nat.ne_of_beq_eq_false rfl)) | skip
  case bipush i => exact Or.inl (bb_eq (bb_and (a := Nat.beq t 0) hlk).1)
  case iconst i => exact Or.inl (bb_eq (bb_and (a := Nat.beq t 0) hlk).1)
  case lconst i => exact Or.inr (Or.inl (bb_eq (bb_and (a := Nat.beq t 1) hlk).1))
  case sipush i => exact Or.inl (bb_eq (bb_and (a := Nat.beq t 0) hlk).1)
  case ldc idx =>
    match lk, hlk with
    | c1 :: j1 :: _, hlk =>
      have hl : (bif Nat.beq t 0 then wdq c1 j1 (.constant M.1.cls idx (nI n)) else Nat.beq t 6 && ((Nat.beq n 1 && (decide (M.1.cls = RX9) && Nat.beq idx 51)) || (Nat.beq n 3 && (decide (M.1.cls = RX12) && Nat.beq idx 171)))) = true := hlk
      cases ht : Nat.beq t 0 with
      | true => exact Or.inl (bb_eq ht)
      | false =>
        rw [ht] at hl
        have w := bb_and hl
        refine Or.inr (Or.inr ⟨bb_eq w.1, ?_⟩)
        rcases (Bool.or_eq_true _ _).mp w.2 with w2 | w2
        · have := bb_eq (bb_and w2).1; omega
        · have := bb_eq (bb_and w2).1; omega
  case ldc_w idx =>
    match lk, hlk with
    | c1 :: j1 :: _, hlk => exact Or.inl (bb_eq (bb_and (a := Nat.beq t 0) hlk).1)
  case ldc2_w idx =>
    match lk, hlk with
    | c1 :: j1 :: _, hlk => exact Or.inr (Or.inl (bb_eq (bb_and (a := Nat.beq t 1) hlk).1))
theorem zq_push {t n : Nat} (hdg : Dg M pc ins len (t :: n :: lk)) (hlk : lok mth M pc ins (t :: n :: lk) = true) (ho : ax_op ins = 0) (K : ZQ sb sp ρ0 ad sh M (pc + len) h lv (pvt t n :: st) pc' h' lv' st') : ZQ sb sp ρ0 ad sh M pc h lv st pc' h' lv' st' := by
  refine zq_nx K hdg ho (fun hi zl hz cr => ?_)
  rcases lok_push hlk ho with rfl | rfl | ⟨rfl, h4⟩
  · show h = h ∧ zl = zl ∧ (0, z32 n) :: st.map (cz ad) = (0, (nI n).toInt) :: st.map (cz ad)
    rw [z32_eq]
    exact ⟨rfl, rfl, rfl⟩
  · show h = h ∧ zl = zl ∧ (1, z64 n) :: st.map (cz ad) = (1, (lN n).toInt) :: st.map (cz ad)
    rw [z64_eq]
    exact ⟨rfl, rfl, rfl⟩
  · show h = h ∧ zl = zl ∧ (6, Int.ofNat n) :: st.map (cz ad) = (6, Int.ofNat n) :: st.map (cz ad)
    exact ⟨rfl, rfl, rfl⟩
theorem zq_load {k : Nat} {V : Value} (hdg : Dg M pc ins len (k :: lk)) (hV : (k, V) ∈ lv) (ho : (ax_op ins = 1 ∧ ∃ x, V = .int x) ∨ (ax_op ins = 2 ∧ ∃ x, V = .long x) ∨ (ax_op ins = 3 ∧ isRf V)) (K : ZQ sb sp ρ0 ad sh M (pc + len) h lv (V :: st) pc' h' lv' st') : ZQ sb sp ρ0 ad sh M pc h lv st pc' h' lv' st' := by
  rcases ho with ⟨ho, x, rfl⟩ | ⟨ho, x, rfl⟩ | ⟨ho, hrf⟩
  · refine zq_nx K hdg ho (fun hi zl hz cr => ?_)
    show obr False (zlk zl k) (fun v => gdr False (ztI v.1) (h = h ∧ zl = zl ∧ v :: st.map (cz ad) = _))
    rw [hz _ hV]
    exact ⟨rfl, rfl, rfl⟩
  · refine zq_nx K hdg ho (fun hi zl hz cr => ?_)
    show obr False (zlk zl k) (fun v => gdr False (ztL v.1) (h = h ∧ zl = zl ∧ v :: st.map (cz ad) = _))
    rw [hz _ hV]
    exact ⟨rfl, rfl, rfl⟩
  · refine zq_nx K hdg ho (fun hi zl hz cr => ?_)
    show obr False (zlk zl k) (fun v => gdr False (ztR v.1) (h = h ∧ zl = zl ∧ v :: st.map (cz ad) = _))
    rw [hz _ hV]
    show gdr False (ztR (cz ad V).1) _
    rw [cz_r hrf]
    exact ⟨rfl, rfl, rfl⟩
theorem zq_sto1 {k : Nat} {V : Value} (hdg : Dg M pc ins len (k :: lk)) (ho : (ax_op ins = 4 ∧ ∃ x, V = .int x) ∨ (ax_op ins = 6 ∧ isRf V)) (K : ZQ sb sp ρ0 ad sh M (pc + len) h ((k, V) :: lv.filter (pk1 k)) st pc' h' lv' st') : ZQ sb sp ρ0 ad sh M pc h lv (V :: st) pc' h' lv' st' := by
  refine zq_step K hdg (fun hi zl hz => ⟨(k, cz ad V) :: zfl (zk1 k) zl, hz.sto1 k V, fun cr => ?_⟩)
  rcases ho with ⟨ho, x, rfl⟩ | ⟨ho, hrf⟩
  · rw [ho]
    rfl
  · rw [ho]
    show gdr False (ztR (cz ad V).1) _
    rw [cz_r hrf]
    rfl
theorem zq_sto2 {k : Nat} {x : Int64} (hdg : Dg M pc ins len (k :: lk)) (ho : ax_op ins = 5) (K : ZQ sb sp ρ0 ad sh M (pc + len) h ((k, .long x) :: lv.filter (pk2 k)) st pc' h' lv' st') : ZQ sb sp ρ0 ad sh M pc h lv (.long x :: st) pc' h' lv' st' := by
  refine zq_step K hdg (fun hi zl hz => ⟨(k, cz ad (.long x)) :: zfl (zk2 k) zl, hz.sto2 k _, fun cr => ?_⟩)
  rw [ho]
  rfl
theorem zq_iinc {k n : Nat} {x : Int32} (hdg : Dg M pc ins len (k :: n :: lk)) (ho : ax_op ins = 7) (hV : (k, .int x) ∈ lv) (K : ZQ sb sp ρ0 ad sh M (pc + len) h ((k, .int (x + nI n)) :: lv.filter (pk1 k)) st pc' h' lv' st') : ZQ sb sp ρ0 ad sh M pc h lv st pc' h' lv' st' := by
  refine zq_step K hdg (fun hi zl hz => ⟨(k, cz ad (.int (x + nI n))) :: zfl (zk1 k) zl, hz.sto1 k _, fun cr => ?_⟩)
  rw [ho]
  show obr False (zlk zl k) (fun v => gdr False (Nat.beq v.1 0) (_ = (pc + len, h, (k, (0, w32 (v.2 + z32 n))) :: zfl (zk1 k) zl, st.map (cz ad))))
  rw [hz _ hV]
  show ((pc + len, h, (k, (0, (x + nI n).toInt)) :: zfl (zk1 k) zl, st.map (cz ad)) : ZS) = (pc + len, h, (k, (0, w32 (x.toInt + z32 n))) :: zfl (zk1 k) zl, st.map (cz ad))
  rw [z32_eq, wi32]
theorem zq_ib {op : Nat} {x y : Int32} (hdg : Dg M pc ins len lk) (ho : ax_op ins = op + 26) (ho2 : op < 9) (K : ZQ sb sp ρ0 ad sh M (pc + len) h lv (.int (ax_fop op x y) :: st) pc' h' lv' st') : ZQ sb sp ρ0 ad sh M pc h lv (.int y :: .int x :: st) pc' h' lv' st' := by
  have e := z_ib_ok op x y ho2
  rcases (show op = 0 ∨ op = 1 ∨ op = 2 ∨ op = 3 ∨ op = 4 ∨ op = 5 ∨ op = 6 ∨ op = 7 ∨ op = 8 by omega) with rfl | rfl | rfl | rfl | rfl | rfl | rfl | rfl | rfl <;> (refine zq_nx K hdg ho (fun hi zl hz cr => ?_); exact And.intro rfl (And.intro rfl (congrArg (fun z => ((0, z) : ZV) :: st.map (cz ad)) e)))
theorem zq_id {op : Nat} {x y : Int32} (hdg : Dg M pc ins len lk) (ho : ax_op ins = op + 35) (ho2 : op < 2) (hy : ¬ y = 0) (K : ZQ sb sp ρ0 ad sh M (pc + len) h lv (.int (if op = 0 then x / y else x - x / y * y) :: st) pc' h' lv' st') : ZQ sb sp ρ0 ad sh M pc h lv (.int y :: .int x :: st) pc' h' lv' st' := by
  have hy2 : y.toInt ≠ 0 := fun e => hy (Int32.toInt_inj.mp (by rw [e]; rfl))
  rcases (show op = 0 ∨ op = 1 by omega) with rfl | rfl
  · have e : zdiv x.toInt y.toInt = (x / y).toInt := by unfold zdiv; rw [Int32.ofInt_toInt, Int32.ofInt_toInt]
    refine zq_nx K hdg ho (fun hi zl hz cr => ?_)
    exact And.intro hy2 (And.intro rfl (And.intro rfl (congrArg (fun z => ((0, z) : ZV) :: st.map (cz ad)) e)))
  · have e : zrem x.toInt y.toInt = (x - x / y * y).toInt := by unfold zrem; rw [Int32.ofInt_toInt, Int32.ofInt_toInt]
    refine zq_nx K hdg ho (fun hi zl hz cr => ?_)
    exact And.intro hy2 (And.intro rfl (And.intro rfl (congrArg (fun z => ((0, z) : ZV) :: st.map (cz ad)) e)))
theorem zq_lb {op : Nat} {x y : Int64} (hdg : Dg M pc ins len lk) (ho : ax_op ins = op + 37) (ho2 : op < 5) (K : ZQ sb sp ρ0 ad sh M (pc + len) h lv (.long (ax_flo op x y) :: st) pc' h' lv' st') : ZQ sb sp ρ0 ad sh M pc h lv (.long y :: .long x :: st) pc' h' lv' st' := by
  have e := z_lb_ok op x y ho2
  rcases (show op = 0 ∨ op = 1 ∨ op = 2 ∨ op = 3 ∨ op = 4 by omega) with rfl | rfl | rfl | rfl | rfl <;> (refine zq_nx K hdg ho (fun hi zl hz cr => ?_); exact And.intro rfl (And.intro rfl (congrArg (fun z => ((1, z) : ZV) :: st.map (cz ad)) e)))
theorem zq_ld {op : Nat} {x y : Int64} (hdg : Dg M pc ins 1 lk) (ho : ax_op ins = op + 60) (ho2 : op < 2) (hy : ¬ y = 0) (K : ZQ sb sp ρ0 ad sh M (pc + 1) h lv (.long (if op = 0 then x / y else x - x / y * y) :: st) pc' h' lv' st') : ZQ sb sp ρ0 ad sh M pc h lv (.long y :: .long x :: st) pc' h' lv' st' := by
  have hy2 : y.toInt ≠ 0 := fun e => hy (Int64.toInt_inj.mp (by rw [e]; rfl))
  rcases (show op = 0 ∨ op = 1 by omega) with rfl | rfl
  · have e : zldiv x.toInt y.toInt = (x / y).toInt := by unfold zldiv; rw [Int64.ofInt_toInt, Int64.ofInt_toInt]
    refine zq_nx K hdg ho (fun hi zl hz cr => ?_)
    exact And.intro hy2 (And.intro rfl (And.intro rfl (congrArg (fun z => ((1, z) : ZV) :: st.map (cz ad)) e)))
  · have e : zlrem x.toInt y.toInt = (x - x / y * y).toInt := by unfold zlrem; rw [Int64.ofInt_toInt, Int64.ofInt_toInt]
    refine zq_nx K hdg ho (fun hi zl hz cr => ?_)
    exact And.intro hy2 (And.intro rfl (And.intro rfl (congrArg (fun z => ((1, z) : ZV) :: st.map (cz ad)) e)))
theorem zq_lshl {x : Int64} {y : Int32} (hdg : Dg M pc ins len lk) (ho : ax_op ins = 42) (K : ZQ sb sp ρ0 ad sh M (pc + len) h lv (.long (x <<< (y.toInt64 &&& 63)) :: st) pc' h' lv' st') : ZQ sb sp ρ0 ad sh M pc h lv (.int y :: .long x :: st) pc' h' lv' st' := by
  have e : zlshl x.toInt y.toInt = (x <<< (y.toInt64 &&& 63)).toInt := by unfold zlshl; rw [Int64.ofInt_toInt, Int32.ofInt_toInt]
  refine zq_nx K hdg ho (fun hi zl hz cr => ?_)
  exact And.intro rfl (And.intro rfl (congrArg (fun z => ((1, z) : ZV) :: st.map (cz ad)) e))
theorem zq_lcmp {x y : Int64} (hdg : Dg M pc ins len lk) (ho : ax_op ins = 43) (K : ZQ sb sp ρ0 ad sh M (pc + len) h lv (.int (lg_cmp x y) :: st) pc' h' lv' st') : ZQ sb sp ρ0 ad sh M pc h lv (.long y :: .long x :: st) pc' h' lv' st' := by
  refine zq_nx K hdg ho (fun hi zl hz cr => ?_)
  exact And.intro rfl (And.intro rfl (congrArg (fun z => ((0, z) : ZV) :: st.map (cz ad)) (zcmp_ok x y)))
theorem zq_un {op : Nat} {x : Int32} (hdg : Dg M pc ins len lk) (ho : ax_op ins = op + 44) (ho2 : op < 4) (K : ZQ sb sp ρ0 ad sh M (pc + len) h lv (.int (ax_fu op x) :: st) pc' h' lv' st') : ZQ sb sp ρ0 ad sh M pc h lv (.int x :: st) pc' h' lv' st' := by
  have e := z_un_ok op x ho2
  rcases (show op = 0 ∨ op = 1 ∨ op = 2 ∨ op = 3 by omega) with rfl | rfl | rfl | rfl <;> (refine zq_nx K hdg ho (fun hi zl hz cr => ?_); exact And.intro rfl (And.intro rfl (congrArg (fun z => ((0, z) : ZV) :: st.map (cz ad)) e)))
theorem zq_i2l {x : Int32} (hdg : Dg M pc ins len lk) (ho : ax_op ins = 48) (K : ZQ sb sp ρ0 ad sh M (pc + len) h lv (.long x.toInt64 :: st) pc' h' lv' st') : ZQ sb sp ρ0 ad sh M pc h lv (.int x :: st) pc' h' lv' st' := by
  refine zq_nx K hdg ho (fun hi zl hz cr => ?_)
  exact And.intro rfl (And.intro rfl (congrArg (fun z => ((1, z) : ZV) :: st.map (cz ad)) (Int32.toInt_toInt64 x).symm))
theorem zq_l2i {x : Int64} (hdg : Dg M pc ins len lk) (ho : ax_op ins = 49) (K : ZQ sb sp ρ0 ad sh M (pc + len) h lv (.int x.toInt32 :: st) pc' h' lv' st') : ZQ sb sp ρ0 ad sh M pc h lv (.long x :: st) pc' h' lv' st' := by
  have e : zl2i x.toInt = x.toInt32.toInt := by unfold zl2i; rw [Int64.ofInt_toInt]
  refine zq_nx K hdg ho (fun hi zl hz cr => ?_)
  exact And.intro rfl (And.intro rfl (congrArg (fun z => ((0, z) : ZV) :: st.map (cz ad)) e))
theorem gdr_t {p : Prop} {b : Bool} (hb : b = true) (hp : p) : gdr False b p := by rw [hb]; exact hp
theorem zq_dup {V : Value} (hdg : Dg M pc ins len lk) (ho : ax_op ins = 50) (hc : V.category = 1) (K : ZQ sb sp ρ0 ad sh M (pc + len) h lv (V :: V :: st) pc' h' lv' st') : ZQ sb sp ρ0 ad sh M pc h lv (V :: st) pc' h' lv' st' := by
  refine zq_nx K hdg ho (fun hi zl hz cr => ?_)
  show gdr False (!(Nat.beq (cz ad V).1 1)) _
  exact gdr_t (by rw [cz_1 hc]; rfl) ⟨rfl, rfl, rfl⟩
theorem zq_dup2a {V : Value} (hdg : Dg M pc ins len lk) (ho : ax_op ins = 51) (hc : V.category = 2) (K : ZQ sb sp ρ0 ad sh M (pc + len) h lv (V :: V :: st) pc' h' lv' st') : ZQ sb sp ρ0 ad sh M pc h lv (V :: st) pc' h' lv' st' := by
  refine zq_nx K hdg ho (fun hi zl hz cr => ?_)
  show (bif Nat.beq (cz ad V).1 1 then _ else _)
  rw [cz_2 hc]
  exact ⟨rfl, rfl, rfl⟩
theorem zq_dup2b {V U : Value} (hdg : Dg M pc ins len lk) (ho : ax_op ins = 51) (hc : V.category = 1) (hc2 : U.category = 1) (K : ZQ sb sp ρ0 ad sh M (pc + len) h lv (V :: U :: V :: U :: st) pc' h' lv' st') : ZQ sb sp ρ0 ad sh M pc h lv (V :: U :: st) pc' h' lv' st' := by
  refine zq_nx K hdg ho (fun hi zl hz cr => ?_)
  show (bif Nat.beq (cz ad V).1 1 then _ else _)
  rw [cz_1 hc]
  show gdr False (!(Nat.beq (cz ad U).1 1)) _
  exact gdr_t (by rw [cz_1 hc2]; rfl) ⟨rfl, rfl, rfl⟩
theorem zq_pop {V : Value} (hdg : Dg M pc ins len lk) (ho : ax_op ins = 52) (hc : V.category = 1) (K : ZQ sb sp ρ0 ad sh M (pc + len) h lv st pc' h' lv' st') : ZQ sb sp ρ0 ad sh M pc h lv (V :: st) pc' h' lv' st' := by
  refine zq_nx K hdg ho (fun hi zl hz cr => ?_)
  show gdr False (!(Nat.beq (cz ad V).1 1)) _
  exact gdr_t (by rw [cz_1 hc]; rfl) ⟨rfl, rfl, rfl⟩
theorem zq_pop2 {V : Value} (hdg : Dg M pc ins 1 lk) (ho : ax_op ins = 59) (hc : V.category = 2) (K : ZQ sb sp ρ0 ad sh M (pc + 1) h lv st pc' h' lv' st') : ZQ sb sp ρ0 ad sh M pc h lv (V :: st) pc' h' lv' st' := by
  refine zq_nx K hdg ho (fun hi zl hz cr => ?_)
  show gdr False (Nat.beq (cz ad V).1 1) _
  exact gdr_t (cz_2 hc) ⟨rfl, rfl, rfl⟩
theorem zq_icmpT {t k : Nat} {x y : Int32} (hdg : Dg M pc ins len (t :: k :: lk)) (ho : ax_op ins = 18) (c : ax_cp k x y) (K : ZQ sb sp ρ0 ad sh M t h lv st pc' h' lv' st') : ZQ sb sp ρ0 ad sh M pc h lv (.int y :: .int x :: st) pc' h' lv' st' := by
  refine zq_step K hdg (fun hi zl hz => ⟨zl, hz, fun cr => ?_⟩)
  rw [ho]
  exact Or.inl (And.intro ((zcp_ok k x y).mpr c) rfl)
theorem zq_icmpF {t k : Nat} {x y : Int32} (hdg : Dg M pc ins len (t :: k :: lk)) (ho : ax_op ins = 18) (c : ¬ ax_cp k x y) (K : ZQ sb sp ρ0 ad sh M (pc + len) h lv st pc' h' lv' st') : ZQ sb sp ρ0 ad sh M pc h lv (.int y :: .int x :: st) pc' h' lv' st' := by
  refine zq_step K hdg (fun hi zl hz => ⟨zl, hz, fun cr => ?_⟩)
  rw [ho]
  exact Or.inr (And.intro (fun z => c ((zcp_ok k x y).mp z)) rfl)
theorem zq_ifcT {t k : Nat} {x : Int32} (hdg : Dg M pc ins len (t :: k :: lk)) (ho : ax_op ins = 19) (c : ax_cp k x 0) (K : ZQ sb sp ρ0 ad sh M t h lv st pc' h' lv' st') : ZQ sb sp ρ0 ad sh M pc h lv (.int x :: st) pc' h' lv' st' := by
  refine zq_step K hdg (fun hi zl hz => ⟨zl, hz, fun cr => ?_⟩)
  rw [ho]
  exact Or.inl (And.intro ((zcp_ok k x 0).mpr c) rfl)
theorem zq_ifcF {t k : Nat} {x : Int32} (hdg : Dg M pc ins len (t :: k :: lk)) (ho : ax_op ins = 19) (c : ¬ ax_cp k x 0) (K : ZQ sb sp ρ0 ad sh M (pc + len) h lv st pc' h' lv' st') : ZQ sb sp ρ0 ad sh M pc h lv (.int x :: st) pc' h' lv' st' := by
  refine zq_step K hdg (fun hi zl hz => ⟨zl, hz, fun cr => ?_⟩)
  rw [ho]
  exact Or.inr (And.intro (fun z => c ((zcp_ok k x 0).mp z)) rfl)
theorem zq_goto {t : Nat} (hdg : Dg M pc ins len (t :: lk)) (ho : ax_op ins = 20) (K : ZQ sb sp ρ0 ad sh M t h lv st pc' h' lv' st') : ZQ sb sp ρ0 ad sh M pc h lv st pc' h' lv' st' := by
  refine zq_step K hdg (fun hi zl hz => ⟨zl, hz, fun cr => ?_⟩)
  rw [ho]
  rfl
end ZX
