/-! PLAIN RUNS, 4: values of the machine as values of plain runs; a walk's end is a plain run's end -/
theorem z32_eq (n : Nat) : z32 n = (nI n).toInt := by
  unfold z32
  cases hb : Nat.blt n 2147483648 with
  | true =>
    have := bb_lt hb
    rw [nI_toInt_bmod, Int.bmod_def]
    show (n : Int) = _
    omega
  | false =>
    have := bb_nlt hb
    simp only [cond_false]
    cases hc : Nat.blt n 4294967296 with
    | true =>
      have := bb_lt hc
      rw [nI_toInt_bmod, Int.bmod_def]
      show Int.negSucc (4294967295 - n) = _
      rw [Int.negSucc_eq]
      omega
    | false => rfl
theorem z64_eq (n : Nat) : z64 n = (lN n).toInt := by
  unfold z64
  cases hb : Nat.blt n 9223372036854775808 with
  | true =>
    have := bb_lt hb
    rw [lN_toInt_bmod, Int.bmod_def]
    show (n : Int) = _
    omega
  | false =>
    have := bb_nlt hb
    simp only [cond_false]
    cases hc : Nat.blt n 18446744073709551616 with
    | true =>
      have := bb_lt hc
      rw [lN_toInt_bmod, Int.bmod_def]
      show Int.negSucc (18446744073709551615 - n) = _
      rw [Int.negSucc_eq]
      omega
    | false => rfl
/-- an entry of a method's table, and what is decoded there -/
def Dg (M : MR) (pc : Nat) (ins : Instr) (len : Nat) (lk : List Nat) : Prop := decode M.2.1 pc = .ok (ins, len) ∧ ((pc, ax_op ins, len, lk, ins) : ME) ∈ M.2.2.2.2.2.2
/-- old cells and what is not looked into, by numbers of their own, as they are -/
def tv (sp : Nat → Nat) (V : Value) : Value := match V with
  | .retAddr i => .ref (sp i)
  | .float _ => vq sp
  | V => V
def lvt (sp : Nat → Nat) (lv : LVs) : LVs := lv.map (fun q => (q.1, tv sp q.2))
theorem tv_cat (sp : Nat → Nat) (V : Value) : (tv sp V).category = V.category := by
  cases V with
  | float x => exact vq_cat sp
  | _ => rfl
theorem tv_pf (sp ad : Nat → Nat) (g : Nat → Int) (k : Nat) (f : Nat × Nat) : tv sp (pf ad g k f) = pf ad g k f := by
  unfold pf
  split <;> rfl
theorem lvt_mem {sp : Nat → Nat} {lv : LVs} {k : Nat} {V : Value} (h : (k, V) ∈ lv) : (k, tv sp V) ∈ lvt sp lv := List.mem_map.mpr ⟨(k, V), h, rfl⟩
theorem lvt_flt {sp : Nat → Nat} {p : Nat × Value → Bool} (hp : ∀ q, p (q.1, tv sp q.2) = p q) : ∀ (lv : LVs), (lvt sp lv).filter p = lvt sp (lv.filter p)
  | [] => rfl
  | q :: t => by
    show List.filter p ((q.1, tv sp q.2) :: lvt sp t) = lvt sp (List.filter p (q :: t))
    rw [List.filter_cons, List.filter_cons, hp, lvt_flt hp t]
    cases p q <;> rfl
theorem tv_p1 (sp : Nat → Nat) (k : Nat) (q : Nat × Value) : pk1 k (q.1, tv sp q.2) = pk1 k q := by
  unfold pk1
  dsimp only
  rw [tv_cat]
theorem tv_p2 (sp : Nat → Nat) (k : Nat) (q : Nat × Value) : pk2 k (q.1, tv sp q.2) = pk2 k q := by
  unfold pk2
  dsimp only
  rw [tv_cat]
theorem lvt_args (sp : Nat → Nat) : ∀ (as : List Value) (i : Nat), lv_args i (as.map (tv sp)) = lvt sp (lv_args i as)
  | [], _ => rfl
  | v :: r, i => by
    show (i, tv sp v) :: lv_args (if (tv sp v).category = 2 then i + 2 else i + 1) (r.map (tv sp)) = (i, tv sp v) :: lvt sp (lv_args (if v.category = 2 then i + 2 else i + 1) r)
    rw [tv_cat, lvt_args sp r]
theorem tv_sum (sp : Nat → Nat) (l : List Value) : ((l.map (tv sp)).map fun v => v.category) = l.map fun v => v.category := by
  rw [List.map_map]
  exact List.map_congr_left (fun v _ => tv_cat sp v)
/-- what may be taken for a reference -/
def isRf (V : Value) : Prop := (∃ x, V = .ref x) ∨ ∃ i, V = .retAddr i
theorem isRf.tv {V : Value} (h : isRf V) (sp : Nat → Nat) : ∃ x, tv sp V = .ref x := by
  rcases h with ⟨x, rfl⟩ | ⟨i, rfl⟩
  · exact ⟨x, rfl⟩
  · exact ⟨sp i, rfl⟩
/-- the value of a push -/
def pvt (t n : Nat) : Value := match t with
  | 0 => .int (nI n)
  | 1 => .long (lN n)
  | _ => .retAddr n
/-- a value of the machine as one of plain runs -/
noncomputable def cz (ad : Nat → Nat) (V : Value) : ZV := match V with
  | .int x => (0, x.toInt)
  | .long x => (1, x.toInt)
  | .double _ => (1, 0)
  | .ref a => @ite _ (∃ c, ad c = a) (Classical.propDecidable _) (2, Int.ofNat (Classical.epsilon (fun c => ad c = a))) (7, 1)
  | .retAddr i => (6, Int.ofNat i)
  | _ => (7, 0)
def Inj (ad : Nat → Nat) : Prop := ∀ c c', ad c = ad c' → c = c'
theorem cz_i {ad : Nat → Nat} (x : Int32) : cz ad (.int x) = (0, x.toInt) := rfl
theorem cz_l {ad : Nat → Nat} (x : Int64) : cz ad (.long x) = (1, x.toInt) := rfl
theorem cz_s {ad : Nat → Nat} (i : Nat) : cz ad (.retAddr i) = (6, Int.ofNat i) := rfl
theorem cz_c {ad : Nat → Nat} (hi : Inj ad) (c : Nat) : cz ad (.ref (ad c)) = (2, Int.ofNat c) := by
  show @ite _ (∃ c', ad c' = ad c) (Classical.propDecidable _) _ _ = _
  rw [if_pos ⟨c, rfl⟩]
  have e := Classical.epsilon_spec (p := fun c' => ad c' = ad c) ⟨c, rfl⟩
  rw [hi _ _ e]
theorem cz_r {ad : Nat → Nat} {V : Value} (h : isRf V) : ztR (cz ad V).1 = true := by
  rcases h with ⟨a, rfl⟩ | ⟨i, rfl⟩
  · show ztR (@ite ZV (∃ c', ad c' = a) (Classical.propDecidable _) _ _).1 = true
    by_cases h1 : ∃ c', ad c' = a
    · rw [if_pos h1]; rfl
    · rw [if_neg h1]; rfl
  · rfl
theorem cz_t {ad : Nat → Nat} (V : Value) : Nat.beq (cz ad V).1 1 = Nat.beq V.category 2 := by
  cases V with
  | int x => rfl
  | long x => rfl
  | float x => rfl
  | double x => rfl
  | null => rfl
  | ref a =>
    have h := cz_r (ad := ad) (V := .ref a) (Or.inl ⟨a, rfl⟩)
    show Nat.beq (cz ad (.ref a)).1 1 = false
    generalize cz ad (.ref a) = v at h
    obtain ⟨t, z⟩ := v
    show Nat.beq t 1 = false
    have h : (Nat.beq t 2 || (Nat.beq t 6 || Nat.beq t 7)) = true := h
    rcases (Bool.or_eq_true _ _).mp h with q | q
    · rw [bb_eq q]; rfl
    · rcases (Bool.or_eq_true _ _).mp q with q | q
      · rw [bb_eq q]; rfl
      · rw [bb_eq q]; rfl
  | retAddr p => rfl
theorem cz_1 {ad : Nat → Nat} {V : Value} (h : V.category = 1) : Nat.beq (cz ad V).1 1 = false := by rw [cz_t, h]; rfl
theorem cz_2 {ad : Nat → Nat} {V : Value} (h : V.category = 2) : Nat.beq (cz ad V).1 1 = true := by rw [cz_t, h]; rfl
theorem znq {a b : Nat} (h : (!(Nat.beq a b)) = true) : a ≠ b := fun e => by
  rw [e, show Nat.beq b b = true from by rw [Nat.beq_eq]] at h
  cases h
/-- known places among those of a plain run -/
def Zlr (ad : Nat → Nat) (zl : ZL) (lv : LVs) : Prop := ∀ q ∈ lv, zlk zl q.1 = some (cz ad q.2)
theorem zlk_cons {q : Nat × ZV} {t : ZL} {i : Nat} : zlk (q :: t) i = bif Nat.beq q.1 i then some q.2 else zlk t i := rfl
theorem zfl_cons {p : Nat × ZV → Bool} {q : Nat × ZV} {t : ZL} : zfl p (q :: t) = bif p q then q :: zfl p t else zfl p t := rfl
theorem zlk_fl {p : Nat × ZV → Bool} {i : Nat} {v : ZV} (hp : p (i, v) = true) : ∀ {zl : ZL}, zlk zl i = some v → zlk (zfl p zl) i = some v
  | [], h => by cases h
  | q :: t, h => by
    rw [zlk_cons] at h
    rw [zfl_cons]
    cases hb : Nat.beq q.1 i with
    | true =>
      rw [hb] at h
      simp only [cond_true] at h
      have e1 : q.2 = v := Option.some.inj h
      have e2 := bb_eq hb
      have e3 : q = (i, v) := by rw [← e1, ← e2]
      rw [e3, hp]
      simp only [cond_true]
      rw [zlk_cons]
      rw [show Nat.beq (i, v).1 i = true from by rw [Nat.beq_eq]]
      rfl
    | false =>
      rw [hb] at h
      simp only [cond_false] at h
      cases hq : p q with
      | true =>
        simp only [cond_true]
        rw [zlk_cons, hb]
        exact zlk_fl hp h
      | false => exact zlk_fl hp h
theorem zk_p1 {ad : Nat → Nat} {k : Nat} {q : Nat × Value} : zk1 k (q.1, cz ad q.2) = pk1 k q := by
  unfold zk1 pk1
  dsimp only
  rw [cz_t, nbeq, nbeq, nbeq]
theorem zk_p2 {ad : Nat → Nat} {k : Nat} {q : Nat × Value} : zk2 k (q.1, cz ad q.2) = pk2 k q := by
  unfold zk2 pk2
  dsimp only
  rw [cz_t, nbeq, nbeq, nbeq, nbeq]
theorem Zlr.sto1 {ad : Nat → Nat} {zl : ZL} {lv : LVs} (h : Zlr ad zl lv) (k : Nat) (V : Value) : Zlr ad ((k, cz ad V) :: zfl (zk1 k) zl) ((k, V) :: lv.filter (pk1 k)) := fun q hq => by
  rw [zlk_cons]
  rcases List.mem_cons.mp hq with rfl | hq
  · rw [show Nat.beq (k, cz ad V).1 k = true from by rw [Nat.beq_eq]]; rfl
  · obtain ⟨q1, q2⟩ := List.mem_filter.mp hq
    have e : Nat.beq k q.1 = false := by
      rw [← zk_p1 (ad := ad)] at q2
      have w := bb_and q2
      exact bb_nb (fun z => znq w.1 z.symm)
    show (bif Nat.beq k q.1 then _ else _) = _
    rw [e]
    exact zlk_fl (by rw [zk_p1]; exact q2) (h q q1)
theorem Zlr.sto2 {ad : Nat → Nat} {zl : ZL} {lv : LVs} (h : Zlr ad zl lv) (k : Nat) (V : Value) : Zlr ad ((k, cz ad V) :: zfl (zk2 k) zl) ((k, V) :: lv.filter (pk2 k)) := fun q hq => by
  rw [zlk_cons]
  rcases List.mem_cons.mp hq with rfl | hq
  · rw [show Nat.beq (k, cz ad V).1 k = true from by rw [Nat.beq_eq]]; rfl
  · obtain ⟨q1, q2⟩ := List.mem_filter.mp hq
    have e : Nat.beq k q.1 = false := by
      rw [← zk_p2 (ad := ad)] at q2
      have w := bb_and q2
      exact bb_nb (fun z => znq w.1 z.symm)
    show (bif Nat.beq k q.1 then _ else _) = _
    rw [e]
    exact zlk_fl (by rw [zk_p2]; exact q2) (h q q1)
def sl0 (ρ0 : List Nat) : Nat := ρ0.getD 6 0 - 9223372036854775808
def si0 (sp : Nat → Nat) (j : Nat) : Int := (sp (1000 + j) : Int) - 9223372036854775808
def zp0 (sb : Nat → List Nat) (sp : Nat → Nat) (ρ0 : List Nat) (sh : SHP) : ZP := (sb, sl0 ρ0, si0 sp, sh, (7, 0))
/-- a plain run comes to this end -/
def ZQ (sb : Nat → List Nat) (sp : Nat → Nat) (ρ0 : List Nat) (ad : Nat → Nat) (sh : SHP) (M : MR) (pc : Nat) (h : PH) (lv : LVs) (st : List Value) (pc' : Nat) (h' : PH) (lv' : LVs) (st' : List Value) : Prop := Inj ad → ∀ zl, Zlr ad zl lv → ∃ f n zl', Zn (zp0 sb sp ρ0 sh) (Zc (zp0 sb sp ρ0 sh) f) n M (pc, h, zl, st.map (cz ad)) (pc', h', zl', st'.map (cz ad)) ∧ Zlr ad zl' lv'
