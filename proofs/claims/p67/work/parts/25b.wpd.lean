/-! THE MACHINE BY STEPS, 4: a walk has one end -/
section WPS
variable (sb : Nat → List Nat) (dC : Nat → ClassId) (dI : Nat → Nat → Nat) (dA : Nat → ClassId) (sp : Nat → Nat) (H0 : Heap) (l : Launch) (ρ0 : List Nat) (ad : Nat → Nat) (rf : Nat → Nat → Option Nat) (sh : SHP)
/-- one state -/
def one (pc : Nat) (h : PH) (lv : LVs) (st : List Value) : PO := fun pc' h' lv' st' => pc' = pc ∧ h' = h ∧ lv' = lv ∧ st' = st
def Wp (M : MR) (pc : Nat) (h : PH) (lv : LVs) (st : List Value) (P : PO) : Prop := ∃ pc' h' lv' st', P pc' h' lv' st' ∧ Wp0 sb dC dI dA sp H0 l ρ0 ad rf sh M pc h (lvt sp lv) (st.map (tv sp)) (one pc' h' (lvt sp lv') (st'.map (tv sp))) ∧ ZQ sb sp ρ0 ad sh M pc h lv st pc' h' lv' st'
end WPS
theorem tv_pvt (sp : Nat → Nat) : ∀ (t n : Nat), tv sp (pvt t n) = pv sp t n
  | 0, _ => rfl
  | 1, _ => rfl
  | _ + 2, _ => rfl
theorem ho_ld (sp : Nat → Nat) {o : Nat} {V : Value} (h : (o = 1 ∧ ∃ x, V = .int x) ∨ (o = 2 ∧ ∃ x, V = .long x) ∨ (o = 3 ∧ isRf V)) : (o = 1 ∧ ∃ x, tv sp V = .int x) ∨ (o = 2 ∧ ∃ x, tv sp V = .long x) ∨ (o = 3 ∧ ∃ x, tv sp V = .ref x) := by
  rcases h with ⟨e, x, rfl⟩ | ⟨e, x, rfl⟩ | ⟨e, h⟩
  · exact Or.inl ⟨e, x, rfl⟩
  · exact Or.inr (Or.inl ⟨e, x, rfl⟩)
  · exact Or.inr (Or.inr ⟨e, h.tv sp⟩)
theorem ho_st (sp : Nat → Nat) {o : Nat} {V : Value} (h : (o = 4 ∧ ∃ x, V = .int x) ∨ (o = 6 ∧ isRf V)) : (o = 4 ∧ ∃ x, tv sp V = .int x) ∨ (o = 6 ∧ ∃ x, tv sp V = .ref x) := by
  rcases h with ⟨e, x, rfl⟩ | ⟨e, h⟩
  · exact Or.inl ⟨e, x, rfl⟩
  · exact Or.inr ⟨e, h.tv sp⟩
theorem fok_tv (sp : Nat → Nat) {tc : Nat} {V : Value} {x : Int} (h : fok tc V x) : fok tc (tv sp V) x := by
  match tc, h with
  | 0, h => obtain ⟨y, rfl, e⟩ := h; exact ⟨y, rfl, e⟩
  | 1, h => obtain ⟨y, rfl, e⟩ := h; exact ⟨y, rfl, e⟩
  | 2, h => obtain ⟨y, rfl, e⟩ := h; exact ⟨y, rfl, e⟩
  | n + 3, h => exact h.elim
theorem rokc_tv (sp : Nat → Nat) {ret : Option FieldType} {ins : Instr} {st : List Value} (h : rokc ret ins st) : rokc ret ins (st.map (tv sp)) := by
  cases ins <;> first | exact h.elim | skip
  case ireturn => obtain ⟨x, rfl, e⟩ := h; exact ⟨x, rfl, e⟩
  case lreturn => obtain ⟨x, rfl, e⟩ := h; exact ⟨x, rfl, e⟩
  case areturn => obtain ⟨x, rfl, e⟩ := h; exact ⟨x, rfl, e⟩
  case return_ => obtain ⟨rfl, e⟩ := h; exact ⟨rfl, e⟩
def rcvt (ad : Nat → Nat) (sh : SHP) (ci : Nat) (as : List Value) : Prop := (ci < 100 ∧ ∃ c0 n fs, as.head? = some (.ref (ad c0)) ∧ sh[c0]? = some (ci, n, fs)) ∨ (ci = 200 ∧ ∃ x, (x = 1 ∨ x = 3) ∧ as.head? = some (.retAddr x))
theorem rcvt.tv {ad : Nat → Nat} {sh : SHP} {ci : Nat} {as : List Value} (h : rcvt ad sh ci as) (sp : Nat → Nat) : rcvc sp ad sh ci (as.map (tv sp)) := by
  rcases h with ⟨a, c0, n, fs, b, d⟩ | ⟨a, x, b, d⟩
  · exact Or.inl ⟨a, c0, n, fs, by rw [List.head?_map, b]; rfl, d⟩
  · exact Or.inr ⟨a, x, b, by rw [List.head?_map, d]; rfl⟩
section WPT
variable {sb : Nat → List Nat} {dC : Nat → ClassId} {dI : Nat → Nat → Nat} {dA : Nat → ClassId} {sp : Nat → Nat} {H0 : Heap} {l : Launch} {ρ0 : List Nat} {ad : Nat → Nat} {rf : Nat → Nat → Option Nat} {sh : SHP}
variable {M : MR} {pc len : Nat} {ins : Instr} {lk : List Nat} {h : PH} {lv : LVs} {st : List Value} {P P' : PO}
theorem wp_rf (hP : P pc h lv st) : Wp sb dC dI dA sp H0 l ρ0 ad rf sh M pc h lv st P := ⟨pc, h, lv, st, hP, w0_rf ⟨rfl, rfl, rfl, rfl⟩, zq_rf⟩
theorem wp_bd (K : Wp sb dC dI dA sp H0 l ρ0 ad rf sh M pc h lv st P') (KK : ∀ pc' h' lv' st', P' pc' h' lv' st' → Wp sb dC dI dA sp H0 l ρ0 ad rf sh M pc' h' lv' st' P) : Wp sb dC dI dA sp H0 l ρ0 ad rf sh M pc h lv st P := by
  obtain ⟨pc1, h1, lv1, st1, p1, K1, Z1⟩ := K
  obtain ⟨pc2, h2, lv2, st2, p2, K2, Z2⟩ := KK pc1 h1 lv1 st1 p1
  refine ⟨pc2, h2, lv2, st2, p2, w0_bd K1 (fun pc' h' lv' st' q => ?_), zq_bd Z1 Z2⟩
  obtain ⟨rfl, rfl, rfl, rfl⟩ := q
  exact K2
theorem wp_push {t n : Nat} (hdg : Dg M pc ins len (t :: n :: lk)) (hlen : len = ax_len ins) (hlk : lok mth M pc ins (t :: n :: lk) = true) (ho : ax_op ins = 0) (K : Wp sb dC dI dA sp H0 l ρ0 ad rf sh M (pc + len) h lv (pvt t n :: st) P) : Wp sb dC dI dA sp H0 l ρ0 ad rf sh M pc h lv st P := by
  obtain ⟨pc1, h1', lv1, st1, p1, K1, Z1⟩ := K
  rw [List.map_cons, tv_pvt] at K1
  exact ⟨pc1, h1', lv1, st1, p1, w0_push hdg.1 hlen hlk ho K1, zq_push hdg hlk ho Z1⟩
theorem wp_load {k : Nat} {V : Value} (hdg : Dg M pc ins len (k :: lk)) (hlen : len = ax_len ins) (hlk : lok mth M pc ins (k :: lk) = true) (hV : (k, V) ∈ lv) (ho : (ax_op ins = 1 ∧ ∃ x, V = .int x) ∨ (ax_op ins = 2 ∧ ∃ x, V = .long x) ∨ (ax_op ins = 3 ∧ isRf V)) (K : Wp sb dC dI dA sp H0 l ρ0 ad rf sh M (pc + len) h lv (V :: st) P) : Wp sb dC dI dA sp H0 l ρ0 ad rf sh M pc h lv st P := by
  obtain ⟨pc1, h1', lv1, st1, p1, K1, Z1⟩ := K
  exact ⟨pc1, h1', lv1, st1, p1, w0_load hdg.1 hlen hlk (lvt_mem hV) (ho_ld sp ho) K1, zq_load hdg hV ho Z1⟩
theorem wp_sto1 {k : Nat} {V : Value} (hdg : Dg M pc ins len (k :: lk)) (hlen : len = ax_len ins) (hlk : lok mth M pc ins (k :: lk) = true) (ho : (ax_op ins = 4 ∧ ∃ x, V = .int x) ∨ (ax_op ins = 6 ∧ isRf V)) (K : Wp sb dC dI dA sp H0 l ρ0 ad rf sh M (pc + len) h ((k, V) :: lv.filter (pk1 k)) st P) : Wp sb dC dI dA sp H0 l ρ0 ad rf sh M pc h lv (V :: st) P := by
  obtain ⟨pc1, h1', lv1, st1, p1, K1, Z1⟩ := K
  rw [show lvt sp ((k, V) :: lv.filter (pk1 k)) = (k, tv sp V) :: (lvt sp lv).filter (pk1 k) from by rw [lvt_flt (tv_p1 sp k)]; rfl] at K1
  exact ⟨pc1, h1', lv1, st1, p1, w0_sto1 hdg.1 hlen hlk (ho_st sp ho) K1, zq_sto1 hdg ho Z1⟩
theorem wp_sto2 {k : Nat} {x : Int64} (hdg : Dg M pc ins len (k :: lk)) (hlen : len = ax_len ins) (hlk : lok mth M pc ins (k :: lk) = true) (ho : ax_op ins = 5) (K : Wp sb dC dI dA sp H0 l ρ0 ad rf sh M (pc + len) h ((k, .long x) :: lv.filter (pk2 k)) st P) : Wp sb dC dI dA sp H0 l ρ0 ad rf sh M pc h lv (.long x :: st) P := by
  obtain ⟨pc1, h1', lv1, st1, p1, K1, Z1⟩ := K
  rw [show lvt sp ((k, .long x) :: lv.filter (pk2 k)) = (k, .long x) :: (lvt sp lv).filter (pk2 k) from by rw [lvt_flt (tv_p2 sp k)]; rfl] at K1
  exact ⟨pc1, h1', lv1, st1, p1, w0_sto2 hdg.1 hlen hlk ho K1, zq_sto2 hdg ho Z1⟩
theorem wp_iinc {k n : Nat} {x : Int32} (hdg : Dg M pc ins len (k :: n :: lk)) (hlen : len = ax_len ins) (hlk : lok mth M pc ins (k :: n :: lk) = true) (ho : ax_op ins = 7) (hV : (k, .int x) ∈ lv) (K : Wp sb dC dI dA sp H0 l ρ0 ad rf sh M (pc + len) h ((k, .int (x + nI n)) :: lv.filter (pk1 k)) st P) : Wp sb dC dI dA sp H0 l ρ0 ad rf sh M pc h lv st P := by
  obtain ⟨pc1, h1', lv1, st1, p1, K1, Z1⟩ := K
  rw [show lvt sp ((k, .int (x + nI n)) :: lv.filter (pk1 k)) = (k, .int (x + nI n)) :: (lvt sp lv).filter (pk1 k) from by rw [lvt_flt (tv_p1 sp k)]; rfl] at K1
  exact ⟨pc1, h1', lv1, st1, p1, w0_iinc hdg.1 hlen hlk ho (lvt_mem hV) K1, zq_iinc hdg ho hV Z1⟩
theorem wp_ib {op : Nat} {x y : Int32} (hdg : Dg M pc ins len lk) (hlen : len = ax_len ins) (ho : ax_op ins = op + 26) (ho2 : op < 9) (K : Wp sb dC dI dA sp H0 l ρ0 ad rf sh M (pc + len) h lv (.int (ax_fop op x y) :: st) P) : Wp sb dC dI dA sp H0 l ρ0 ad rf sh M pc h lv (.int y :: .int x :: st) P := by
  obtain ⟨pc1, h1', lv1, st1, p1, K1, Z1⟩ := K
  exact ⟨pc1, h1', lv1, st1, p1, w0_ib hdg.1 hlen ho ho2 K1, zq_ib hdg ho ho2 Z1⟩
theorem wp_id {op : Nat} {x y : Int32} (hdg : Dg M pc ins len lk) (hlen : len = ax_len ins) (ho : ax_op ins = op + 35) (ho2 : op < 2) (hy : ¬ y = 0) (K : Wp sb dC dI dA sp H0 l ρ0 ad rf sh M (pc + len) h lv (.int (if op = 0 then x / y else x - x / y * y) :: st) P) : Wp sb dC dI dA sp H0 l ρ0 ad rf sh M pc h lv (.int y :: .int x :: st) P := by
  obtain ⟨pc1, h1', lv1, st1, p1, K1, Z1⟩ := K
  exact ⟨pc1, h1', lv1, st1, p1, w0_id hdg.1 hlen ho ho2 hy K1, zq_id hdg ho ho2 hy Z1⟩
theorem wp_lb {op : Nat} {x y : Int64} (hdg : Dg M pc ins len lk) (hlen : len = ax_len ins) (ho : ax_op ins = op + 37) (ho2 : op < 5) (K : Wp sb dC dI dA sp H0 l ρ0 ad rf sh M (pc + len) h lv (.long (ax_flo op x y) :: st) P) : Wp sb dC dI dA sp H0 l ρ0 ad rf sh M pc h lv (.long y :: .long x :: st) P := by
  obtain ⟨pc1, h1', lv1, st1, p1, K1, Z1⟩ := K
  exact ⟨pc1, h1', lv1, st1, p1, w0_lb hdg.1 hlen ho ho2 K1, zq_lb hdg ho ho2 Z1⟩
theorem wp_ld {op : Nat} {x y : Int64} (hdg : Dg M pc ins 1 lk) (ho : ax_op ins = op + 60) (ho2 : op < 2) (hy : ¬ y = 0) (K : Wp sb dC dI dA sp H0 l ρ0 ad rf sh M (pc + 1) h lv (.long (if op = 0 then x / y else x - x / y * y) :: st) P) : Wp sb dC dI dA sp H0 l ρ0 ad rf sh M pc h lv (.long y :: .long x :: st) P := by
  obtain ⟨pc1, h1', lv1, st1, p1, K1, Z1⟩ := K
  exact ⟨pc1, h1', lv1, st1, p1, w0_ld hdg.1 ho ho2 hy K1, zq_ld hdg ho ho2 hy Z1⟩
theorem wp_lshl {x : Int64} {y : Int32} (hdg : Dg M pc ins len lk) (hlen : len = ax_len ins) (ho : ax_op ins = 42) (K : Wp sb dC dI dA sp H0 l ρ0 ad rf sh M (pc + len) h lv (.long (x <<< (y.toInt64 &&& 63)) :: st) P) : Wp sb dC dI dA sp H0 l ρ0 ad rf sh M pc h lv (.int y :: .long x :: st) P := by
  obtain ⟨pc1, h1', lv1, st1, p1, K1, Z1⟩ := K
  exact ⟨pc1, h1', lv1, st1, p1, w0_lshl hdg.1 hlen ho K1, zq_lshl hdg ho Z1⟩
theorem wp_lcmp {x y : Int64} (hdg : Dg M pc ins len lk) (hlen : len = ax_len ins) (ho : ax_op ins = 43) (K : Wp sb dC dI dA sp H0 l ρ0 ad rf sh M (pc + len) h lv (.int (lg_cmp x y) :: st) P) : Wp sb dC dI dA sp H0 l ρ0 ad rf sh M pc h lv (.long y :: .long x :: st) P := by
  obtain ⟨pc1, h1', lv1, st1, p1, K1, Z1⟩ := K
  exact ⟨pc1, h1', lv1, st1, p1, w0_lcmp hdg.1 hlen ho K1, zq_lcmp hdg ho Z1⟩
theorem wp_un {op : Nat} {x : Int32} (hdg : Dg M pc ins len lk) (hlen : len = ax_len ins) (ho : ax_op ins = op + 44) (ho2 : op < 4) (K : Wp sb dC dI dA sp H0 l ρ0 ad rf sh M (pc + len) h lv (.int (ax_fu op x) :: st) P) : Wp sb dC dI dA sp H0 l ρ0 ad rf sh M pc h lv (.int x :: st) P := by
  obtain ⟨pc1, h1', lv1, st1, p1, K1, Z1⟩ := K
  exact ⟨pc1, h1', lv1, st1, p1, w0_un hdg.1 hlen ho ho2 K1, zq_un hdg ho ho2 Z1⟩
theorem wp_i2l {x : Int32} (hdg : Dg M pc ins len lk) (hlen : len = ax_len ins) (ho : ax_op ins = 48) (K : Wp sb dC dI dA sp H0 l ρ0 ad rf sh M (pc + len) h lv (.long x.toInt64 :: st) P) : Wp sb dC dI dA sp H0 l ρ0 ad rf sh M pc h lv (.int x :: st) P := by
  obtain ⟨pc1, h1', lv1, st1, p1, K1, Z1⟩ := K
  exact ⟨pc1, h1', lv1, st1, p1, w0_i2l hdg.1 hlen ho K1, zq_i2l hdg ho Z1⟩
theorem wp_l2i {x : Int64} (hdg : Dg M pc ins len lk) (hlen : len = ax_len ins) (ho : ax_op ins = 49) (K : Wp sb dC dI dA sp H0 l ρ0 ad rf sh M (pc + len) h lv (.int x.toInt32 :: st) P) : Wp sb dC dI dA sp H0 l ρ0 ad rf sh M pc h lv (.long x :: st) P := by
  obtain ⟨pc1, h1', lv1, st1, p1, K1, Z1⟩ := K
  exact ⟨pc1, h1', lv1, st1, p1, w0_l2i hdg.1 hlen ho K1, zq_l2i hdg ho Z1⟩
theorem wp_dup {V : Value} (hdg : Dg M pc ins len lk) (hlen : len = ax_len ins) (ho : ax_op ins = 50) (hc : V.category = 1) (K : Wp sb dC dI dA sp H0 l ρ0 ad rf sh M (pc + len) h lv (V :: V :: st) P) : Wp sb dC dI dA sp H0 l ρ0 ad rf sh M pc h lv (V :: st) P := by
  obtain ⟨pc1, h1', lv1, st1, p1, K1, Z1⟩ := K
  exact ⟨pc1, h1', lv1, st1, p1, w0_dup hdg.1 hlen ho (by rw [tv_cat]; exact hc) K1, zq_dup hdg ho hc Z1⟩
theorem wp_dup2a {V : Value} (hdg : Dg M pc ins len lk) (hlen : len = ax_len ins) (ho : ax_op ins = 51) (hc : V.category = 2) (K : Wp sb dC dI dA sp H0 l ρ0 ad rf sh M (pc + len) h lv (V :: V :: st) P) : Wp sb dC dI dA sp H0 l ρ0 ad rf sh M pc h lv (V :: st) P := by
  obtain ⟨pc1, h1', lv1, st1, p1, K1, Z1⟩ := K
  exact ⟨pc1, h1', lv1, st1, p1, w0_dup2a hdg.1 hlen ho (by rw [tv_cat]; exact hc) K1, zq_dup2a hdg ho hc Z1⟩
theorem wp_dup2b {V U : Value} (hdg : Dg M pc ins len lk) (hlen : len = ax_len ins) (ho : ax_op ins = 51) (hc : V.category = 1) (hc2 : U.category = 1) (K : Wp sb dC dI dA sp H0 l ρ0 ad rf sh M (pc + len) h lv (V :: U :: V :: U :: st) P) : Wp sb dC dI dA sp H0 l ρ0 ad rf sh M pc h lv (V :: U :: st) P := by
  obtain ⟨pc1, h1', lv1, st1, p1, K1, Z1⟩ := K
  exact ⟨pc1, h1', lv1, st1, p1, w0_dup2b hdg.1 hlen ho (by rw [tv_cat]; exact hc) (by rw [tv_cat]; exact hc2) K1, zq_dup2b hdg ho hc hc2 Z1⟩
theorem wp_pop {V : Value} (hdg : Dg M pc ins len lk) (hlen : len = ax_len ins) (ho : ax_op ins = 52) (hc : V.category = 1) (K : Wp sb dC dI dA sp H0 l ρ0 ad rf sh M (pc + len) h lv st P) : Wp sb dC dI dA sp H0 l ρ0 ad rf sh M pc h lv (V :: st) P := by
  obtain ⟨pc1, h1', lv1, st1, p1, K1, Z1⟩ := K
  exact ⟨pc1, h1', lv1, st1, p1, w0_pop hdg.1 hlen ho (by rw [tv_cat]; exact hc) K1, zq_pop hdg ho hc Z1⟩
theorem wp_pop2 {V : Value} (hdg : Dg M pc ins 1 lk) (ho : ax_op ins = 59) (hc : V.category = 2) (K : Wp sb dC dI dA sp H0 l ρ0 ad rf sh M (pc + 1) h lv st P) : Wp sb dC dI dA sp H0 l ρ0 ad rf sh M pc h lv (V :: st) P := by
  obtain ⟨pc1, h1', lv1, st1, p1, K1, Z1⟩ := K
  exact ⟨pc1, h1', lv1, st1, p1, w0_pop2 hdg.1 ho (by rw [tv_cat]; exact hc) K1, zq_pop2 hdg ho hc Z1⟩
theorem wp_icmp {t k : Nat} {x y : Int32} (hdg : Dg M pc ins len (t :: k :: lk)) (hlen : len = ax_len ins) (hlk : lok mth M pc ins (t :: k :: lk) = true) (ho : ax_op ins = 18) (KT : ax_cp k x y → Wp sb dC dI dA sp H0 l ρ0 ad rf sh M t h lv st P) (KF : ¬ ax_cp k x y → Wp sb dC dI dA sp H0 l ρ0 ad rf sh M (pc + len) h lv st P) : Wp sb dC dI dA sp H0 l ρ0 ad rf sh M pc h lv (.int y :: .int x :: st) P := by
  by_cases c : ax_cp k x y
  · obtain ⟨pc1, h1', lv1, st1, p1, K1, Z1⟩ := KT c
    exact ⟨pc1, h1', lv1, st1, p1, w0_icmp hdg.1 hlen hlk ho (fun _ => K1) (fun z => absurd c z), zq_icmpT hdg ho c Z1⟩
  · obtain ⟨pc1, h1', lv1, st1, p1, K1, Z1⟩ := KF c
    exact ⟨pc1, h1', lv1, st1, p1, w0_icmp hdg.1 hlen hlk ho (fun z => absurd z c) (fun _ => K1), zq_icmpF hdg ho c Z1⟩
theorem wp_ifc {t k : Nat} {x : Int32} (hdg : Dg M pc ins len (t :: k :: lk)) (hlen : len = ax_len ins) (hlk : lok mth M pc ins (t :: k :: lk) = true) (ho : ax_op ins = 19) (KT : ax_cp k x 0 → Wp sb dC dI dA sp H0 l ρ0 ad rf sh M t h lv st P) (KF : ¬ ax_cp k x 0 → Wp sb dC dI dA sp H0 l ρ0 ad rf sh M (pc + len) h lv st P) : Wp sb dC dI dA sp H0 l ρ0 ad rf sh M pc h lv (.int x :: st) P := by
  by_cases c : ax_cp k x 0
  · obtain ⟨pc1, h1', lv1, st1, p1, K1, Z1⟩ := KT c
    exact ⟨pc1, h1', lv1, st1, p1, w0_ifc hdg.1 hlen hlk ho (fun _ => K1) (fun z => absurd c z), zq_ifcT hdg ho c Z1⟩
  · obtain ⟨pc1, h1', lv1, st1, p1, K1, Z1⟩ := KF c
    exact ⟨pc1, h1', lv1, st1, p1, w0_ifc hdg.1 hlen hlk ho (fun z => absurd z c) (fun _ => K1), zq_ifcF hdg ho c Z1⟩
theorem wp_goto {t : Nat} (hdg : Dg M pc ins len (t :: lk)) (hlen : len = ax_len ins) (hlk : lok mth M pc ins (t :: lk) = true) (ho : ax_op ins = 20) (K : Wp sb dC dI dA sp H0 l ρ0 ad rf sh M t h lv st P) : Wp sb dC dI dA sp H0 l ρ0 ad rf sh M pc h lv st P := by
  obtain ⟨pc1, h1', lv1, st1, p1, K1, Z1⟩ := K
  exact ⟨pc1, h1', lv1, st1, p1, w0_goto hdg.1 hlen hlk ho K1, zq_goto hdg ho Z1⟩
theorem wp_getf {ci k c0 n : Nat} {fs : List (Nat × Nat)} {f : Nat × Nat} (hdg : Dg M pc ins len (ci :: k :: lk)) (hlen : len = ax_len ins) (hlk : lok mth M pc ins (ci :: k :: lk) = true) (ho : ax_op ins = 8) (hsh : sh[c0]? = some (ci, n, fs)) (hci : ci < 100) (hf : fs[k]? = some f) (hfr : (f.1 = 0 ∧ R32 (h c0 k)) ∨ (f.1 = 1 ∧ R64 (h c0 k)) ∨ f.1 = 2) (K : Wp sb dC dI dA sp H0 l ρ0 ad rf sh M (pc + len) h lv (pf ad (h c0) k f :: st) P) : Wp sb dC dI dA sp H0 l ρ0 ad rf sh M pc h lv (.ref (ad c0) :: st) P := by
  obtain ⟨pc1, h1', lv1, st1, p1, K1, Z1⟩ := K
  rw [List.map_cons, tv_pf] at K1
  exact ⟨pc1, h1', lv1, st1, p1, w0_getf hdg.1 hlen hlk ho hsh hci hf K1, zq_getf hdg ho hsh hci hf hfr Z1⟩
theorem wp_getS {k x : Nat} (hdg : Dg M pc ins len (200 :: k :: lk)) (hlen : len = ax_len ins) (hlk : lok mth M pc ins (200 :: k :: lk) = true) (ho : ax_op ins = 8) (hxs : x = 1 ∨ x = 3) (K : Wp sb dC dI dA sp H0 l ρ0 ad rf sh M (pc + len) h lv ((if k = 0 then .retAddr (x + 1) else .int 0) :: st) P) : Wp sb dC dI dA sp H0 l ρ0 ad rf sh M pc h lv (.retAddr x :: st) P := by
  obtain ⟨pc1, h1', lv1, st1, p1, K1, Z1⟩ := K
  rw [List.map_cons, show tv sp (if k = 0 then .retAddr (x + 1) else .int 0) = (if k = 0 then .ref (sp (x + 1)) else .int 0) from by split <;> rfl] at K1
  exact ⟨pc1, h1', lv1, st1, p1, w0_getS hdg.1 hlen hlk ho hxs K1, zq_getS hdg ho hxs Z1⟩
theorem wp_putf {ci k tc c0 n : Nat} {x : Int} {V : Value} {fs : List (Nat × Nat)} {f : Nat × Nat} (hdg : Dg M pc ins len (ci :: k :: tc :: lk)) (hlen : len = ax_len ins) (hlk : lok mth M pc ins (ci :: k :: tc :: lk) = true) (ho : ax_op ins = 9) (hsh : sh[c0]? = some (ci, n, fs)) (hci : ci < 100) (hf : fs[k]? = some f) (hft : (f.1 = 0 ∧ (tc = 0 ∨ tc = 1)) ∨ (f.1 = 1 ∧ tc = 2)) (hV : fok tc V x) (hni : M.1.name ≠ "<init>") (K : Wp sb dC dI dA sp H0 l ρ0 ad rf sh M (pc + len) (uph h c0 k x) lv st P) : Wp sb dC dI dA sp H0 l ρ0 ad rf sh M pc h lv (V :: .ref (ad c0) :: st) P := by
  obtain ⟨pc1, h1', lv1, st1, p1, K1, Z1⟩ := K
  exact ⟨pc1, h1', lv1, st1, p1, w0_putf hdg.1 hlen hlk ho hsh hci hf hft (fok_tv sp hV) hni K1, zq_putf hdg ho hsh hci hV Z1⟩
theorem wp_iald {c0 n : Nat} {fs : List (Nat × Nat)} {i : Int32} (hdg : Dg M pc .iaload 1 lk) (hsh : sh[c0]? = some (100, n, fs)) (h1 : 0 ≤ i.toInt) (h2 : i.toInt < n) (hrg : R32 (h c0 i.toInt.toNat)) (K : Wp sb dC dI dA sp H0 l ρ0 ad rf sh M (pc + 1) h lv (.int (Int32.ofInt (h c0 i.toInt.toNat)) :: st) P) : Wp sb dC dI dA sp H0 l ρ0 ad rf sh M pc h lv (.int i :: .ref (ad c0) :: st) P := by
  obtain ⟨pc1, h1', lv1, st1, p1, K1, Z1⟩ := K
  exact ⟨pc1, h1', lv1, st1, p1, w0_iald hdg.1 hsh h1 h2 K1, zq_iald hdg hsh h1 h2 hrg Z1⟩
theorem wp_bald {c0 n : Nat} {fs : List (Nat × Nat)} {i : Int32} (hdg : Dg M pc .baload 1 lk) (hsh : sh[c0]? = some (102, n, fs)) (h1 : 0 ≤ i.toInt) (h2 : i.toInt < n) (hrg : R32 (h c0 i.toInt.toNat)) (K : Wp sb dC dI dA sp H0 l ρ0 ad rf sh M (pc + 1) h lv (.int (Int32.ofInt (h c0 i.toInt.toNat)) :: st) P) : Wp sb dC dI dA sp H0 l ρ0 ad rf sh M pc h lv (.int i :: .ref (ad c0) :: st) P := by
  obtain ⟨pc1, h1', lv1, st1, p1, K1, Z1⟩ := K
  exact ⟨pc1, h1', lv1, st1, p1, w0_bald hdg.1 hsh h1 h2 K1, zq_bald hdg hsh h1 h2 hrg Z1⟩
theorem wp_lald {c0 n : Nat} {fs : List (Nat × Nat)} {i : Int32} (hdg : Dg M pc .laload 1 lk) (hsh : sh[c0]? = some (101, n, fs)) (h1 : 0 ≤ i.toInt) (h2 : i.toInt < n) (hrg : R64 (h c0 i.toInt.toNat)) (K : Wp sb dC dI dA sp H0 l ρ0 ad rf sh M (pc + 1) h lv (.long (Int64.ofInt (h c0 i.toInt.toNat)) :: st) P) : Wp sb dC dI dA sp H0 l ρ0 ad rf sh M pc h lv (.int i :: .ref (ad c0) :: st) P := by
  obtain ⟨pc1, h1', lv1, st1, p1, K1, Z1⟩ := K
  exact ⟨pc1, h1', lv1, st1, p1, w0_lald hdg.1 hsh h1 h2 K1, zq_lald hdg hsh h1 h2 hrg Z1⟩
theorem wp_aald {c0 n kd : Nat} {fs : List (Nat × Nat)} {f : Nat × Nat} {i : Int32} (hdg : Dg M pc .aaload 1 lk) (hsh : sh[c0]? = some (kd, n, fs)) (hk1 : 103 ≤ kd) (hk2 : kd ≤ 105) (h1 : 0 ≤ i.toInt) (h2 : i.toInt < n) (hfi : fs[i.toInt.toNat]? = some f) (hr : rf c0 i.toInt.toNat = some (ad f.2)) (K : Wp sb dC dI dA sp H0 l ρ0 ad rf sh M (pc + 1) h lv (.ref (ad f.2) :: st) P) : Wp sb dC dI dA sp H0 l ρ0 ad rf sh M pc h lv (.int i :: .ref (ad c0) :: st) P := by
  obtain ⟨pc1, h1', lv1, st1, p1, K1, Z1⟩ := K
  exact ⟨pc1, h1', lv1, st1, p1, w0_aald hdg.1 hsh hk1 hk2 h1 h2 hr K1, zq_aald hdg hsh hk1 h1 hfi Z1⟩
theorem wp_iast {c0 n : Nat} {fs : List (Nat × Nat)} {i x : Int32} (hdg : Dg M pc .iastore 1 lk) (hsh : sh[c0]? = some (100, n, fs)) (h1 : 0 ≤ i.toInt) (h2 : i.toInt < n) (K : Wp sb dC dI dA sp H0 l ρ0 ad rf sh M (pc + 1) (uph h c0 i.toInt.toNat x.toInt) lv st P) : Wp sb dC dI dA sp H0 l ρ0 ad rf sh M pc h lv (.int x :: .int i :: .ref (ad c0) :: st) P := by
  obtain ⟨pc1, h1', lv1, st1, p1, K1, Z1⟩ := K
  exact ⟨pc1, h1', lv1, st1, p1, w0_iast hdg.1 hsh h1 h2 K1, zq_iast hdg hsh h1 h2 Z1⟩
theorem wp_bast {c0 n : Nat} {fs : List (Nat × Nat)} {i x : Int32} (hdg : Dg M pc .bastore 1 lk) (hsh : sh[c0]? = some (102, n, fs)) (h1 : 0 ≤ i.toInt) (h2 : i.toInt < n) (h3 : -128 ≤ x.toInt) (h4 : x.toInt ≤ 127) (K : Wp sb dC dI dA sp H0 l ρ0 ad rf sh M (pc + 1) (uph h c0 i.toInt.toNat x.toInt) lv st P) : Wp sb dC dI dA sp H0 l ρ0 ad rf sh M pc h lv (.int x :: .int i :: .ref (ad c0) :: st) P := by
  obtain ⟨pc1, h1', lv1, st1, p1, K1, Z1⟩ := K
  exact ⟨pc1, h1', lv1, st1, p1, w0_bast hdg.1 hsh h1 h2 h3 h4 K1, zq_bast hdg hsh h1 h2 Z1⟩
theorem wp_last {c0 n : Nat} {fs : List (Nat × Nat)} {i : Int32} {x : Int64} (hdg : Dg M pc .lastore 1 lk) (hsh : sh[c0]? = some (101, n, fs)) (h1 : 0 ≤ i.toInt) (h2 : i.toInt < n) (K : Wp sb dC dI dA sp H0 l ρ0 ad rf sh M (pc + 1) (uph h c0 i.toInt.toNat x.toInt) lv st P) : Wp sb dC dI dA sp H0 l ρ0 ad rf sh M pc h lv (.long x :: .int i :: .ref (ad c0) :: st) P := by
  obtain ⟨pc1, h1', lv1, st1, p1, K1, Z1⟩ := K
  exact ⟨pc1, h1', lv1, st1, p1, w0_last hdg.1 hsh h1 h2 K1, zq_last hdg hsh h1 h2 Z1⟩
theorem wp_alen {c0 n kd : Nat} {fs : List (Nat × Nat)} (hdg : Dg M pc .arraylength 1 lk) (hsh : sh[c0]? = some (kd, n, fs)) (hk1 : 100 ≤ kd) (hk2 : kd ≤ 105) (K : Wp sb dC dI dA sp H0 l ρ0 ad rf sh M (pc + 1) h lv (.int (nI n) :: st) P) : Wp sb dC dI dA sp H0 l ρ0 ad rf sh M pc h lv (.ref (ad c0) :: st) P := by
  obtain ⟨pc1, h1', lv1, st1, p1, K1, Z1⟩ := K
  exact ⟨pc1, h1', lv1, st1, p1, w0_alen hdg.1 hsh hk1 hk2 K1, zq_alen hdg hsh Z1⟩
theorem wp_slen {L : Nat} (hdg : Dg M pc .arraylength 1 lk) (hL : ρ0[6]? = some (L + 9223372036854775808)) (K : Wp sb dC dI dA sp H0 l ρ0 ad rf sh M (pc + 1) h lv (.int (nI L) :: st) P) : Wp sb dC dI dA sp H0 l ρ0 ad rf sh M pc h lv (.retAddr 0 :: st) P := by
  obtain ⟨pc1, h1', lv1, st1, p1, K1, Z1⟩ := K
  exact ⟨pc1, h1', lv1, st1, p1, w0_slen hdg.1 hL K1, zq_slen hdg hL Z1⟩
theorem wp_sld {L : Nat} {i : Int32} (hdg : Dg M pc .iaload 1 lk) (hL : ρ0[6]? = some (L + 9223372036854775808)) (h1 : 0 ≤ i.toInt) (h2 : i.toInt < L) (hrg : R32 ((sp (1000 + i.toInt.toNat) : Int) - 9223372036854775808)) (K : Wp sb dC dI dA sp H0 l ρ0 ad rf sh M (pc + 1) h lv (.int (Int32.ofInt ((sp (1000 + i.toInt.toNat) : Int) - 9223372036854775808)) :: st) P) : Wp sb dC dI dA sp H0 l ρ0 ad rf sh M pc h lv (.int i :: .retAddr 0 :: st) P := by
  obtain ⟨pc1, h1', lv1, st1, p1, K1, Z1⟩ := K
  exact ⟨pc1, h1', lv1, st1, p1, w0_sld hdg.1 hL h1 h2 K1, zq_sld hdg hL h1 h2 hrg Z1⟩
theorem wp_tlen {x : Nat} (hdg : Dg M pc .arraylength 1 lk) (hx2 : x = 2 ∨ x = 4) (K : Wp sb dC dI dA sp H0 l ρ0 ad rf sh M (pc + 1) h lv (.int (nI (sb x).length) :: st) P) : Wp sb dC dI dA sp H0 l ρ0 ad rf sh M pc h lv (.retAddr x :: st) P := by
  obtain ⟨pc1, h1', lv1, st1, p1, K1, Z1⟩ := K
  exact ⟨pc1, h1', lv1, st1, p1, w0_tlen hdg.1 hx2 K1, zq_tlen hdg hx2 Z1⟩
theorem wp_tld {x n : Nat} {i : Int32} (hdg : Dg M pc .baload 1 lk) (hx2 : x = 2 ∨ x = 4) (h1 : 0 ≤ i.toInt) (hn : (sb x)[i.toInt.toNat]? = some n) (K : Wp sb dC dI dA sp H0 l ρ0 ad rf sh M (pc + 1) h lv (.int (nI n) :: st) P) : Wp sb dC dI dA sp H0 l ρ0 ad rf sh M pc h lv (.int i :: .retAddr x :: st) P := by
  obtain ⟨pc1, h1', lv1, st1, p1, K1, Z1⟩ := K
  exact ⟨pc1, h1', lv1, st1, p1, w0_tld hdg.1 hx2 h1 hn K1, zq_tld hdg hx2 h1 hn Z1⟩
theorem wp_gets {x : Nat} (hdg : Dg M pc ins len (x :: lk)) (hlen : len = ax_len ins) (hlk : lok mth M pc ins (x :: lk) = true) (ho : ax_op ins = 56) (K1 : x = 0 → Wp sb dC dI dA sp H0 l ρ0 ad rf sh M (pc + len) h lv (.int 1 :: st) P) (K2 : x ≠ 0 → Wp sb dC dI dA sp H0 l ρ0 ad rf sh M (pc + len) h lv (.float 0 :: st) P) : Wp sb dC dI dA sp H0 l ρ0 ad rf sh M pc h lv st P := by
  by_cases c : x = 0
  · subst c
    obtain ⟨pc1, h1', lv1, st1, p1, KA, Z1⟩ := K1 rfl
    exact ⟨pc1, h1', lv1, st1, p1, w0_gets hdg.1 hlen hlk ho (fun _ => KA) (fun z => absurd rfl z), zq_gets0 hdg ho Z1⟩
  · obtain ⟨pc1, h1', lv1, st1, p1, KA, Z1⟩ := K2 c
    exact ⟨pc1, h1', lv1, st1, p1, w0_gets hdg.1 hlen hlk ho (fun z => absurd z c) (fun _ => KA), zq_gets1 c hdg ho Z1⟩
theorem wp_min {x y : Int32} {rest : List Value} (hdg : Dg M pc ins len (902 :: lk)) (hlen : len = ax_len ins) (hlk : lok mth M pc ins (902 :: lk) = true) (ho : ax_op ins = 21) (hf : 1 ≤ M.2.2.2.2.1.frames) (hl2 : (rest.map fun v => v.category).sum + 13 ≤ M.2.2.2.2.1.locals) (K : Wp sb dC dI dA sp H0 l ρ0 ad rf sh M (pc + len) h lv (.int (if y < x then y else x) :: rest) P) : Wp sb dC dI dA sp H0 l ρ0 ad rf sh M pc h lv (.int y :: .int x :: rest) P := by
  obtain ⟨pc1, h1', lv1, st1, p1, K1, Z1⟩ := K
  exact ⟨pc1, h1', lv1, st1, p1, w0_min hdg.1 hlen hlk ho hf (by rw [tv_sum]; exact hl2) K1, zq_min hdg ho Z1⟩
theorem wp_copy {cs cd n0 n1 kd : Nat} {f0 f1 : List (Nat × Nat)} {n dp sq : Int32} {rest : List Value} (hdg : Dg M pc ins len (901 :: lk)) (hlen : len = ax_len ins) (hlk : lok mth M pc ins (901 :: lk) = true) (ho : ax_op ins = 21) (hf : 1 ≤ M.2.2.2.2.1.frames) (hl2 : (rest.map fun v => v.category).sum + 18 ≤ M.2.2.2.2.1.locals) (hs0 : sh[cs]? = some (kd, n0, f0)) (hs1 : sh[cd]? = some (kd, n1, f1)) (hkd : kd = 100 ∨ kd = 101) (b1 : 0 ≤ sq.toInt) (b2 : 0 ≤ dp.toInt) (b3 : 0 ≤ n.toInt) (b4 : sq.toInt + n.toInt ≤ n0) (b5 : dp.toInt + n.toInt ≤ n1) (K : Wp sb dC dI dA sp H0 l ρ0 ad rf sh M (pc + len) (cph h cs cd sq.toInt.toNat dp.toInt.toNat n.toInt.toNat) lv rest P) : Wp sb dC dI dA sp H0 l ρ0 ad rf sh M pc h lv (.int n :: .int dp :: .ref (ad cd) :: .int sq :: .ref (ad cs) :: rest) P := by
  obtain ⟨pc1, h1', lv1, st1, p1, K1, Z1⟩ := K
  exact ⟨pc1, h1', lv1, st1, p1, w0_copy hdg.1 hlen hlk ho hf (by rw [tv_sum]; exact hl2) hs0 hs1 hkd b1 b2 b3 b4 b5 K1, zq_copy hdg ho b1 b2 b3 Z1⟩
theorem wp_table {d lo hi T : Nat} {ks : List Nat} {x : Int32} (hdg : Dg M pc ins len (d :: lo :: hi :: ks)) (hlk : lok mth M pc ins (d :: lo :: hi :: ks) = true) (ho : ax_op ins = 57) (K : Wp sb dC dI dA sp H0 l ρ0 ad rf sh M T h lv st P) (hD : x.toInt < (nI lo).toInt ∨ (nI hi).toInt < x.toInt → d = T) (hND : (∀ k t, ax_pr k t ks → x ≠ nI k) → d = T) (hK : ∀ k t, ax_pr k t ks → x = nI k → t = T) : Wp sb dC dI dA sp H0 l ρ0 ad rf sh M pc h lv (.int x :: st) P := by
  obtain ⟨pc1, h1', lv1, st1, p1, K1, Z1⟩ := K
  exact ⟨pc1, h1', lv1, st1, p1, w0_table hdg.1 hlk ho (fun z => by rw [hD z]; exact K1) (fun k t z1 z2 => by rw [hK k t z1 z2]; exact K1), zq_table hdg ho Z1 hD hND hK⟩
theorem wp_look {d T : Nat} {ks : List Nat} {x : Int32} (hdg : Dg M pc ins len (d :: ks)) (hlk : lok mth M pc ins (d :: ks) = true) (ho : ax_op ins = 58) (K : Wp sb dC dI dA sp H0 l ρ0 ad rf sh M T h lv st P) (hD : (∀ k t, ax_pr k t ks → x ≠ nI k) → d = T) (hK : ∀ k t, ax_pr k t ks → x = nI k → t = T) : Wp sb dC dI dA sp H0 l ρ0 ad rf sh M pc h lv (.int x :: st) P := by
  obtain ⟨pc1, h1', lv1, st1, p1, K1, Z1⟩ := K
  exact ⟨pc1, h1', lv1, st1, p1, w0_look hdg.1 hlk ho (fun z => by rw [hD z]; exact K1) (fun k t z1 z2 => by rw [hK k t z1 z2]; exact K1), zq_look hdg ho Z1 hD hK⟩
theorem wp_call {a b kc ci : Nat} {C : MR} {as rest : List Value} (hC : mth a b = some C) (hCC : Mcw C) (hdg : Dg M pc ins len (a :: b :: kc :: ci :: lk)) (hlen : len = ax_len ins) (hlk : lok mth M pc ins (a :: b :: kc :: ci :: lk) = true) (ho : ax_op ins = 21) (h9 : (Nat.beq a 900 = false ∧ Nat.beq a 901 = false ∧ Nat.beq a 902 = false) ∧ Nat.beq a 903 = false) (hkc : kc = 0 ∨ kc = 2) (hna : as.length = C.2.2.2.2.2.1) (hf1 : C.2.2.2.2.1.frames < M.2.2.2.2.1.frames) (hf2 : 8 + (C.2.2.1 + 11) + C.2.2.2.2.1.locals ≤ M.2.2.2.2.1.locals) (hwr : (rest.map fun v => v.category).sum ≤ 8) (hwa : (as.map fun v => v.category).sum ≤ C.2.2.1) (hz : C.2.2.2.2.1.cells = 0 ∧ C.2.2.2.2.1.slots = 0) (hrc : kc = 0 → rcvt ad sh ci as)
    (hW : Wp sb dC dI dA sp H0 l ρ0 ad rf sh C 0 h (lv_args 0 as) [] P') (hR : Rt C P') (K : ∀ pc' h' lv' st', P' pc' h' lv' st' → Wp sb dC dI dA sp H0 l ρ0 ad rf sh M (pc + len) h' lv (st' ++ rest) P) : Wp sb dC dI dA sp H0 l ρ0 ad rf sh M pc h lv (as.reverse ++ rest) P := by
  obtain ⟨pc1, h1', lv1, st1, p1, W1, Z1⟩ := hW
  obtain ⟨pc2, h2', lv2, st2, p2, K2, Z2⟩ := K pc1 h1' lv1 st1 p1
  refine ⟨pc2, h2', lv2, st2, p2, ?_, zq_call hC hdg ho ⟨h9.1.2.1, h9.1.2.2, h9.2⟩ hna Z1 (hR _ _ _ _ p1) Z2⟩
  rw [← lvt_args] at W1
  rw [List.map_append, List.map_reverse]
  refine w0_call (P' := one pc1 h1' (lvt sp lv1) (st1.map (tv sp))) hC hCC hdg.1 hlen hlk ho h9.1 hkc (by rw [List.length_map]; exact hna) hf1 hf2 (by rw [tv_sum]; exact hwr) (by rw [tv_sum]; exact hwa) hz (fun z => (hrc z).tv sp) W1 (fun pc' h' lv' st' q => ?_) (fun pc' h' lv' st' q => ?_)
  · obtain ⟨rfl, rfl, rfl, rfl⟩ := q
    obtain ⟨i0, d0, k0⟩ := hR _ _ _ _ p1
    exact ⟨i0, d0, rokc_tv sp k0⟩
  · obtain ⟨rfl, rfl, rfl, rfl⟩ := q
    rw [← List.map_append]
    exact K2
theorem wp_max {b : Nat} {x y : Int32} {rest : List Value} (hmt : mth 903 b = none) (hdg : Dg M pc ins len (903 :: b :: lk)) (hlen : len = ax_len ins) (hlk : lok mth M pc ins (903 :: b :: lk) = true) (ho : ax_op ins = 21) (hf : 1 ≤ M.2.2.2.2.1.frames) (hl2 : (rest.map fun v => v.category).sum + 13 ≤ M.2.2.2.2.1.locals) (K : Wp sb dC dI dA sp H0 l ρ0 ad rf sh M (pc + len) h lv (.int (if x < y then y else x) :: rest) P) : Wp sb dC dI dA sp H0 l ρ0 ad rf sh M pc h lv (.int y :: .int x :: rest) P := by
  obtain ⟨pc1, h1', lv1, st1, p1, K1, Z1⟩ := K
  exact ⟨pc1, h1', lv1, st1, p1, w0_max hmt hdg.1 hlen hlk ho hf (by rw [tv_sum]; exact hl2) K1, zq_max hdg ho Z1⟩
theorem wp_less {LV LV' : LVs} (hs : ∀ q ∈ LV', q ∈ LV) (K : Wp sb dC dI dA sp H0 l ρ0 ad rf sh M pc h LV' st P) : Wp sb dC dI dA sp H0 l ρ0 ad rf sh M pc h LV st P := by
  obtain ⟨pc1, h1', lv1, st1, p1, K1, Z1⟩ := K
  refine ⟨pc1, h1', lv1, st1, p1, ?_, zq_less hs Z1⟩
  intro p e R s m args below meth c Q nc ns hX hN hG H locs ls z1 z2 z3 z4
  refine K1 p e R s m args below meth c Q nc ns hX hN hG H locs ls z1 z2 z3 ⟨z4.1, z4.2.1, fun q hq => ?_⟩
  obtain ⟨q0, q1, q2⟩ := List.mem_map.mp hq
  subst q2
  exact z4.2.2 _ (lvt_mem (hs q0 q1))
end WPT
