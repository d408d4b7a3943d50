/-! THE MACHINE BY STEPS, 4: a walk has one end -/
section WPS
variable (sb : Nat → List Nat) (dC : Nat → ClassId) (dI : Nat → Nat → Nat) (dA : Nat → ClassId) (sp : Nat → Nat) (H0 : Heap) (l : Launch) (ρ0 : List Nat) (ad : Nat → Nat) (rf : Nat → Nat → Option Nat) (sh : SHP)
/-- one state -/
def one (pc : Nat) (h : PH) (lv : LVs) (st : List Value) : PO := fun pc' h' lv' st' => pc' = pc ∧ h' = h ∧ lv' = lv ∧ st' = st
def Wp (M : MR) (pc : Nat) (h : PH) (lv : LVs) (st : List Value) (P : PO) : Prop := ∃ pc' h' lv' st', P pc' h' lv' st' ∧ Wp0 sb dC dI dA sp H0 l ρ0 ad rf sh M pc h lv st (one pc' h' lv' st')
end WPS
section WPT
variable {sb : Nat → List Nat} {mt : Nat → Nat → Option MR} {dC : Nat → ClassId} {dI : Nat → Nat → Nat} {dA : Nat → ClassId} {sp : Nat → Nat} {H0 : Heap} {l : Launch} {ρ0 : List Nat} {ad : Nat → Nat} {rf : Nat → Nat → Option Nat} {sh : SHP}
variable {M : MR} {pc len : Nat} {ins : Instr} {lk : List Nat} {h : PH} {lv : LVs} {st : List Value} {P P' : PO}
theorem wp_rf (hP : P pc h lv st) : Wp sb dC dI dA sp H0 l ρ0 ad rf sh M pc h lv st P := ⟨pc, h, lv, st, hP, w0_rf ⟨rfl, rfl, rfl, rfl⟩⟩
theorem wp_bd (K : Wp sb dC dI dA sp H0 l ρ0 ad rf sh M pc h lv st P') (KK : ∀ pc' h' lv' st', P' pc' h' lv' st' → Wp sb dC dI dA sp H0 l ρ0 ad rf sh M pc' h' lv' st' P) : Wp sb dC dI dA sp H0 l ρ0 ad rf sh M pc h lv st P := by
  obtain ⟨pc1, h1, lv1, st1, p1, K1⟩ := K
  obtain ⟨pc2, h2, lv2, st2, p2, K2⟩ := KK pc1 h1 lv1 st1 p1
  refine ⟨pc2, h2, lv2, st2, p2, w0_bd K1 (fun pc' h' lv' st' q => ?_)⟩
  obtain ⟨rfl, rfl, rfl, rfl⟩ := q
  exact K2
theorem wp_push {t n : Nat} (hdg : decode M.2.1 pc = .ok (ins, len)) (hlen : len = ax_len ins) (hlk : lok mt M pc ins (t :: n :: lk) = true) (ho : ax_op ins = 0) (K : Wp sb dC dI dA sp H0 l ρ0 ad rf sh M (pc + len) h lv (pv sp t n :: st) P) : Wp sb dC dI dA sp H0 l ρ0 ad rf sh M pc h lv st P := by
  obtain ⟨pc1, h1', lv1, st1, p1, K1⟩ := K
  exact ⟨pc1, h1', lv1, st1, p1, w0_push hdg hlen hlk ho K1⟩
theorem wp_load {k : Nat} {V : Value} (hdg : decode M.2.1 pc = .ok (ins, len)) (hlen : len = ax_len ins) (hlk : lok mt M pc ins (k :: lk) = true) (hV : (k, V) ∈ lv) (ho : (ax_op ins = 1 ∧ ∃ x, V = .int x) ∨ (ax_op ins = 2 ∧ ∃ x, V = .long x) ∨ (ax_op ins = 3 ∧ ∃ x, V = .ref x)) (K : Wp sb dC dI dA sp H0 l ρ0 ad rf sh M (pc + len) h lv (V :: st) P) : Wp sb dC dI dA sp H0 l ρ0 ad rf sh M pc h lv st P := by
  obtain ⟨pc1, h1', lv1, st1, p1, K1⟩ := K
  exact ⟨pc1, h1', lv1, st1, p1, w0_load hdg hlen hlk hV ho K1⟩
theorem wp_sto1 {k : Nat} {V : Value} (hdg : decode M.2.1 pc = .ok (ins, len)) (hlen : len = ax_len ins) (hlk : lok mt M pc ins (k :: lk) = true) (ho : (ax_op ins = 4 ∧ ∃ x, V = .int x) ∨ (ax_op ins = 6 ∧ ∃ x, V = .ref x)) (K : Wp sb dC dI dA sp H0 l ρ0 ad rf sh M (pc + len) h ((k, V) :: lv.filter (pk1 k)) st P) : Wp sb dC dI dA sp H0 l ρ0 ad rf sh M pc h lv (V :: st) P := by
  obtain ⟨pc1, h1', lv1, st1, p1, K1⟩ := K
  exact ⟨pc1, h1', lv1, st1, p1, w0_sto1 hdg hlen hlk ho K1⟩
theorem wp_sto2 {k : Nat} {x : Int64} (hdg : decode M.2.1 pc = .ok (ins, len)) (hlen : len = ax_len ins) (hlk : lok mt M pc ins (k :: lk) = true) (ho : ax_op ins = 5) (K : Wp sb dC dI dA sp H0 l ρ0 ad rf sh M (pc + len) h ((k, .long x) :: lv.filter (pk2 k)) st P) : Wp sb dC dI dA sp H0 l ρ0 ad rf sh M pc h lv (.long x :: st) P := by
  obtain ⟨pc1, h1', lv1, st1, p1, K1⟩ := K
  exact ⟨pc1, h1', lv1, st1, p1, w0_sto2 hdg hlen hlk ho K1⟩
theorem wp_iinc {k n : Nat} {x : Int32} (hdg : decode M.2.1 pc = .ok (ins, len)) (hlen : len = ax_len ins) (hlk : lok mt M pc ins (k :: n :: lk) = true) (ho : ax_op ins = 7) (hV : (k, .int x) ∈ lv) (K : Wp sb dC dI dA sp H0 l ρ0 ad rf sh M (pc + len) h ((k, .int (x + nI n)) :: lv.filter (pk1 k)) st P) : Wp sb dC dI dA sp H0 l ρ0 ad rf sh M pc h lv st P := by
  obtain ⟨pc1, h1', lv1, st1, p1, K1⟩ := K
  exact ⟨pc1, h1', lv1, st1, p1, w0_iinc hdg hlen hlk ho hV K1⟩
theorem wp_ib {op : Nat} {x y : Int32} (hdg : decode M.2.1 pc = .ok (ins, len)) (hlen : len = ax_len ins) (ho : ax_op ins = op + 26) (ho2 : op < 9) (K : Wp sb dC dI dA sp H0 l ρ0 ad rf sh M (pc + len) h lv (.int (ax_fop op x y) :: st) P) : Wp sb dC dI dA sp H0 l ρ0 ad rf sh M pc h lv (.int y :: .int x :: st) P := by
  obtain ⟨pc1, h1', lv1, st1, p1, K1⟩ := K
  exact ⟨pc1, h1', lv1, st1, p1, w0_ib hdg hlen ho ho2 K1⟩
theorem wp_id {op : Nat} {x y : Int32} (hdg : decode M.2.1 pc = .ok (ins, len)) (hlen : len = ax_len ins) (ho : ax_op ins = op + 35) (ho2 : op < 2) (hy : ¬ y = 0) (K : Wp sb dC dI dA sp H0 l ρ0 ad rf sh M (pc + len) h lv (.int (if op = 0 then x / y else x - x / y * y) :: st) P) : Wp sb dC dI dA sp H0 l ρ0 ad rf sh M pc h lv (.int y :: .int x :: st) P := by
  obtain ⟨pc1, h1', lv1, st1, p1, K1⟩ := K
  exact ⟨pc1, h1', lv1, st1, p1, w0_id hdg hlen ho ho2 hy K1⟩
theorem wp_lb {op : Nat} {x y : Int64} (hdg : decode M.2.1 pc = .ok (ins, len)) (hlen : len = ax_len ins) (ho : ax_op ins = op + 37) (ho2 : op < 5) (K : Wp sb dC dI dA sp H0 l ρ0 ad rf sh M (pc + len) h lv (.long (ax_flo op x y) :: st) P) : Wp sb dC dI dA sp H0 l ρ0 ad rf sh M pc h lv (.long y :: .long x :: st) P := by
  obtain ⟨pc1, h1', lv1, st1, p1, K1⟩ := K
  exact ⟨pc1, h1', lv1, st1, p1, w0_lb hdg hlen ho ho2 K1⟩
theorem wp_ld {op : Nat} {x y : Int64} (hdg : decode M.2.1 pc = .ok (ins, 1)) (ho : ax_op ins = op + 60) (ho2 : op < 2) (hy : ¬ y = 0) (K : Wp sb dC dI dA sp H0 l ρ0 ad rf sh M (pc + 1) h lv (.long (if op = 0 then x / y else x - x / y * y) :: st) P) : Wp sb dC dI dA sp H0 l ρ0 ad rf sh M pc h lv (.long y :: .long x :: st) P := by
  obtain ⟨pc1, h1', lv1, st1, p1, K1⟩ := K
  exact ⟨pc1, h1', lv1, st1, p1, w0_ld hdg ho ho2 hy K1⟩
theorem wp_lshl {x : Int64} {y : Int32} (hdg : decode M.2.1 pc = .ok (ins, len)) (hlen : len = ax_len ins) (ho : ax_op ins = 42) (K : Wp sb dC dI dA sp H0 l ρ0 ad rf sh M (pc + len) h lv (.long (x <<< (y.toInt64 &&& 63)) :: st) P) : Wp sb dC dI dA sp H0 l ρ0 ad rf sh M pc h lv (.int y :: .long x :: st) P := by
  obtain ⟨pc1, h1', lv1, st1, p1, K1⟩ := K
  exact ⟨pc1, h1', lv1, st1, p1, w0_lshl hdg hlen ho K1⟩
theorem wp_lcmp {x y : Int64} (hdg : decode M.2.1 pc = .ok (ins, len)) (hlen : len = ax_len ins) (ho : ax_op ins = 43) (K : Wp sb dC dI dA sp H0 l ρ0 ad rf sh M (pc + len) h lv (.int (lg_cmp x y) :: st) P) : Wp sb dC dI dA sp H0 l ρ0 ad rf sh M pc h lv (.long y :: .long x :: st) P := by
  obtain ⟨pc1, h1', lv1, st1, p1, K1⟩ := K
  exact ⟨pc1, h1', lv1, st1, p1, w0_lcmp hdg hlen ho K1⟩
theorem wp_un {op : Nat} {x : Int32} (hdg : decode M.2.1 pc = .ok (ins, len)) (hlen : len = ax_len ins) (ho : ax_op ins = op + 44) (ho2 : op < 4) (K : Wp sb dC dI dA sp H0 l ρ0 ad rf sh M (pc + len) h lv (.int (ax_fu op x) :: st) P) : Wp sb dC dI dA sp H0 l ρ0 ad rf sh M pc h lv (.int x :: st) P := by
  obtain ⟨pc1, h1', lv1, st1, p1, K1⟩ := K
  exact ⟨pc1, h1', lv1, st1, p1, w0_un hdg hlen ho ho2 K1⟩
theorem wp_i2l {x : Int32} (hdg : decode M.2.1 pc = .ok (ins, len)) (hlen : len = ax_len ins) (ho : ax_op ins = 48) (K : Wp sb dC dI dA sp H0 l ρ0 ad rf sh M (pc + len) h lv (.long x.toInt64 :: st) P) : Wp sb dC dI dA sp H0 l ρ0 ad rf sh M pc h lv (.int x :: st) P := by
  obtain ⟨pc1, h1', lv1, st1, p1, K1⟩ := K
  exact ⟨pc1, h1', lv1, st1, p1, w0_i2l hdg hlen ho K1⟩
theorem wp_l2i {x : Int64} (hdg : decode M.2.1 pc = .ok (ins, len)) (hlen : len = ax_len ins) (ho : ax_op ins = 49) (K : Wp sb dC dI dA sp H0 l ρ0 ad rf sh M (pc + len) h lv (.int x.toInt32 :: st) P) : Wp sb dC dI dA sp H0 l ρ0 ad rf sh M pc h lv (.long x :: st) P := by
  obtain ⟨pc1, h1', lv1, st1, p1, K1⟩ := K
  exact ⟨pc1, h1', lv1, st1, p1, w0_l2i hdg hlen ho K1⟩
theorem wp_dup {V : Value} (hdg : decode M.2.1 pc = .ok (ins, len)) (hlen : len = ax_len ins) (ho : ax_op ins = 50) (hc : V.category = 1) (K : Wp sb dC dI dA sp H0 l ρ0 ad rf sh M (pc + len) h lv (V :: V :: st) P) : Wp sb dC dI dA sp H0 l ρ0 ad rf sh M pc h lv (V :: st) P := by
  obtain ⟨pc1, h1', lv1, st1, p1, K1⟩ := K
  exact ⟨pc1, h1', lv1, st1, p1, w0_dup hdg hlen ho hc K1⟩
theorem wp_dup2a {V : Value} (hdg : decode M.2.1 pc = .ok (ins, len)) (hlen : len = ax_len ins) (ho : ax_op ins = 51) (hc : V.category = 2) (K : Wp sb dC dI dA sp H0 l ρ0 ad rf sh M (pc + len) h lv (V :: V :: st) P) : Wp sb dC dI dA sp H0 l ρ0 ad rf sh M pc h lv (V :: st) P := by
  obtain ⟨pc1, h1', lv1, st1, p1, K1⟩ := K
  exact ⟨pc1, h1', lv1, st1, p1, w0_dup2a hdg hlen ho hc K1⟩
theorem wp_dup2b {V U : Value} (hdg : decode M.2.1 pc = .ok (ins, len)) (hlen : len = ax_len ins) (ho : ax_op ins = 51) (hc : V.category = 1) (hc2 : U.category = 1) (K : Wp sb dC dI dA sp H0 l ρ0 ad rf sh M (pc + len) h lv (V :: U :: V :: U :: st) P) : Wp sb dC dI dA sp H0 l ρ0 ad rf sh M pc h lv (V :: U :: st) P := by
  obtain ⟨pc1, h1', lv1, st1, p1, K1⟩ := K
  exact ⟨pc1, h1', lv1, st1, p1, w0_dup2b hdg hlen ho hc hc2 K1⟩
theorem wp_pop {V : Value} (hdg : decode M.2.1 pc = .ok (ins, len)) (hlen : len = ax_len ins) (ho : ax_op ins = 52) (hc : V.category = 1) (K : Wp sb dC dI dA sp H0 l ρ0 ad rf sh M (pc + len) h lv st P) : Wp sb dC dI dA sp H0 l ρ0 ad rf sh M pc h lv (V :: st) P := by
  obtain ⟨pc1, h1', lv1, st1, p1, K1⟩ := K
  exact ⟨pc1, h1', lv1, st1, p1, w0_pop hdg hlen ho hc K1⟩
theorem wp_pop2 {V : Value} (hdg : decode M.2.1 pc = .ok (ins, 1)) (ho : ax_op ins = 59) (hc : V.category = 2) (K : Wp sb dC dI dA sp H0 l ρ0 ad rf sh M (pc + 1) h lv st P) : Wp sb dC dI dA sp H0 l ρ0 ad rf sh M pc h lv (V :: st) P := by
  obtain ⟨pc1, h1', lv1, st1, p1, K1⟩ := K
  exact ⟨pc1, h1', lv1, st1, p1, w0_pop2 hdg ho hc K1⟩
theorem wp_icmp {t k : Nat} {x y : Int32} (hdg : decode M.2.1 pc = .ok (ins, len)) (hlen : len = ax_len ins) (hlk : lok mt M pc ins (t :: k :: lk) = true) (ho : ax_op ins = 18) (KT : ax_cp k x y → Wp sb dC dI dA sp H0 l ρ0 ad rf sh M t h lv st P) (KF : ¬ ax_cp k x y → Wp sb dC dI dA sp H0 l ρ0 ad rf sh M (pc + len) h lv st P) : Wp sb dC dI dA sp H0 l ρ0 ad rf sh M pc h lv (.int y :: .int x :: st) P := by
  by_cases c : ax_cp k x y
  · obtain ⟨pc1, h1', lv1, st1, p1, K1⟩ := KT c
    exact ⟨pc1, h1', lv1, st1, p1, w0_icmp hdg hlen hlk ho (fun _ => K1) (fun z => absurd c z)⟩
  · obtain ⟨pc1, h1', lv1, st1, p1, K1⟩ := KF c
    exact ⟨pc1, h1', lv1, st1, p1, w0_icmp hdg hlen hlk ho (fun z => absurd z c) (fun _ => K1)⟩
theorem wp_ifc {t k : Nat} {x : Int32} (hdg : decode M.2.1 pc = .ok (ins, len)) (hlen : len = ax_len ins) (hlk : lok mt M pc ins (t :: k :: lk) = true) (ho : ax_op ins = 19) (KT : ax_cp k x 0 → Wp sb dC dI dA sp H0 l ρ0 ad rf sh M t h lv st P) (KF : ¬ ax_cp k x 0 → Wp sb dC dI dA sp H0 l ρ0 ad rf sh M (pc + len) h lv st P) : Wp sb dC dI dA sp H0 l ρ0 ad rf sh M pc h lv (.int x :: st) P := by
  by_cases c : ax_cp k x 0
  · obtain ⟨pc1, h1', lv1, st1, p1, K1⟩ := KT c
    exact ⟨pc1, h1', lv1, st1, p1, w0_ifc hdg hlen hlk ho (fun _ => K1) (fun z => absurd c z)⟩
  · obtain ⟨pc1, h1', lv1, st1, p1, K1⟩ := KF c
    exact ⟨pc1, h1', lv1, st1, p1, w0_ifc hdg hlen hlk ho (fun z => absurd z c) (fun _ => K1)⟩
theorem wp_goto {t : Nat} (hdg : decode M.2.1 pc = .ok (ins, len)) (hlen : len = ax_len ins) (hlk : lok mt M pc ins (t :: lk) = true) (ho : ax_op ins = 20) (K : Wp sb dC dI dA sp H0 l ρ0 ad rf sh M t h lv st P) : Wp sb dC dI dA sp H0 l ρ0 ad rf sh M pc h lv st P := by
  obtain ⟨pc1, h1', lv1, st1, p1, K1⟩ := K
  exact ⟨pc1, h1', lv1, st1, p1, w0_goto hdg hlen hlk ho K1⟩
theorem wp_getf {ci k c0 n : Nat} {fs : List (Nat × Nat)} {f : Nat × Nat} (hdg : decode M.2.1 pc = .ok (ins, len)) (hlen : len = ax_len ins) (hlk : lok mt M pc ins (ci :: k :: lk) = true) (ho : ax_op ins = 8) (hsh : sh[c0]? = some (ci, n, fs)) (hci : ci < 100) (hf : fs[k]? = some f) (K : Wp sb dC dI dA sp H0 l ρ0 ad rf sh M (pc + len) h lv (pf ad (h c0) k f :: st) P) : Wp sb dC dI dA sp H0 l ρ0 ad rf sh M pc h lv (.ref (ad c0) :: st) P := by
  obtain ⟨pc1, h1', lv1, st1, p1, K1⟩ := K
  exact ⟨pc1, h1', lv1, st1, p1, w0_getf hdg hlen hlk ho hsh hci hf K1⟩
theorem wp_getS {k x : Nat} (hdg : decode M.2.1 pc = .ok (ins, len)) (hlen : len = ax_len ins) (hlk : lok mt M pc ins (200 :: k :: lk) = true) (ho : ax_op ins = 8) (hxs : x = 1 ∨ x = 3) (K : Wp sb dC dI dA sp H0 l ρ0 ad rf sh M (pc + len) h lv ((if k = 0 then .ref (sp (x + 1)) else .int 0) :: st) P) : Wp sb dC dI dA sp H0 l ρ0 ad rf sh M pc h lv (.ref (sp x) :: st) P := by
  obtain ⟨pc1, h1', lv1, st1, p1, K1⟩ := K
  exact ⟨pc1, h1', lv1, st1, p1, w0_getS hdg hlen hlk ho hxs K1⟩
theorem wp_putf {ci k tc c0 n : Nat} {x : Int} {V : Value} {fs : List (Nat × Nat)} {f : Nat × Nat} (hdg : decode M.2.1 pc = .ok (ins, len)) (hlen : len = ax_len ins) (hlk : lok mt M pc ins (ci :: k :: tc :: lk) = true) (ho : ax_op ins = 9) (hsh : sh[c0]? = some (ci, n, fs)) (hci : ci < 100) (hf : fs[k]? = some f) (hft : (f.1 = 0 ∧ (tc = 0 ∨ tc = 1)) ∨ (f.1 = 1 ∧ tc = 2)) (hV : fok tc V x) (hni : M.1.name ≠ "<init>") (K : Wp sb dC dI dA sp H0 l ρ0 ad rf sh M (pc + len) (uph h c0 k x) lv st P) : Wp sb dC dI dA sp H0 l ρ0 ad rf sh M pc h lv (V :: .ref (ad c0) :: st) P := by
  obtain ⟨pc1, h1', lv1, st1, p1, K1⟩ := K
  exact ⟨pc1, h1', lv1, st1, p1, w0_putf hdg hlen hlk ho hsh hci hf hft hV hni K1⟩
theorem wp_iald {c0 n : Nat} {fs : List (Nat × Nat)} {i : Int32} (hdg : decode M.2.1 pc = .ok (.iaload, 1)) (hsh : sh[c0]? = some (100, n, fs)) (h1 : 0 ≤ i.toInt) (h2 : i.toInt < n) (K : Wp sb dC dI dA sp H0 l ρ0 ad rf sh M (pc + 1) h lv (.int (Int32.ofInt (h c0 i.toInt.toNat)) :: st) P) : Wp sb dC dI dA sp H0 l ρ0 ad rf sh M pc h lv (.int i :: .ref (ad c0) :: st) P := by
  obtain ⟨pc1, h1', lv1, st1, p1, K1⟩ := K
  exact ⟨pc1, h1', lv1, st1, p1, w0_iald hdg hsh h1 h2 K1⟩
theorem wp_bald {c0 n : Nat} {fs : List (Nat × Nat)} {i : Int32} (hdg : decode M.2.1 pc = .ok (.baload, 1)) (hsh : sh[c0]? = some (102, n, fs)) (h1 : 0 ≤ i.toInt) (h2 : i.toInt < n) (K : Wp sb dC dI dA sp H0 l ρ0 ad rf sh M (pc + 1) h lv (.int (Int32.ofInt (h c0 i.toInt.toNat)) :: st) P) : Wp sb dC dI dA sp H0 l ρ0 ad rf sh M pc h lv (.int i :: .ref (ad c0) :: st) P := by
  obtain ⟨pc1, h1', lv1, st1, p1, K1⟩ := K
  exact ⟨pc1, h1', lv1, st1, p1, w0_bald hdg hsh h1 h2 K1⟩
theorem wp_lald {c0 n : Nat} {fs : List (Nat × Nat)} {i : Int32} (hdg : decode M.2.1 pc = .ok (.laload, 1)) (hsh : sh[c0]? = some (101, n, fs)) (h1 : 0 ≤ i.toInt) (h2 : i.toInt < n) (K : Wp sb dC dI dA sp H0 l ρ0 ad rf sh M (pc + 1) h lv (.long (Int64.ofInt (h c0 i.toInt.toNat)) :: st) P) : Wp sb dC dI dA sp H0 l ρ0 ad rf sh M pc h lv (.int i :: .ref (ad c0) :: st) P := by
  obtain ⟨pc1, h1', lv1, st1, p1, K1⟩ := K
  exact ⟨pc1, h1', lv1, st1, p1, w0_lald hdg hsh h1 h2 K1⟩
theorem wp_aald {c0 n kd a : Nat} {fs : List (Nat × Nat)} {i : Int32} (hdg : decode M.2.1 pc = .ok (.aaload, 1)) (hsh : sh[c0]? = some (kd, n, fs)) (hk1 : 103 ≤ kd) (hk2 : kd ≤ 105) (h1 : 0 ≤ i.toInt) (h2 : i.toInt < n) (hr : rf c0 i.toInt.toNat = some a) (K : Wp sb dC dI dA sp H0 l ρ0 ad rf sh M (pc + 1) h lv (.ref a :: st) P) : Wp sb dC dI dA sp H0 l ρ0 ad rf sh M pc h lv (.int i :: .ref (ad c0) :: st) P := by
  obtain ⟨pc1, h1', lv1, st1, p1, K1⟩ := K
  exact ⟨pc1, h1', lv1, st1, p1, w0_aald hdg hsh hk1 hk2 h1 h2 hr K1⟩
theorem wp_iast {c0 n : Nat} {fs : List (Nat × Nat)} {i x : Int32} (hdg : decode M.2.1 pc = .ok (.iastore, 1)) (hsh : sh[c0]? = some (100, n, fs)) (h1 : 0 ≤ i.toInt) (h2 : i.toInt < n) (K : Wp sb dC dI dA sp H0 l ρ0 ad rf sh M (pc + 1) (uph h c0 i.toInt.toNat x.toInt) lv st P) : Wp sb dC dI dA sp H0 l ρ0 ad rf sh M pc h lv (.int x :: .int i :: .ref (ad c0) :: st) P := by
  obtain ⟨pc1, h1', lv1, st1, p1, K1⟩ := K
  exact ⟨pc1, h1', lv1, st1, p1, w0_iast hdg hsh h1 h2 K1⟩
theorem wp_bast {c0 n : Nat} {fs : List (Nat × Nat)} {i x : Int32} (hdg : decode M.2.1 pc = .ok (.bastore, 1)) (hsh : sh[c0]? = some (102, n, fs)) (h1 : 0 ≤ i.toInt) (h2 : i.toInt < n) (h3 : -128 ≤ x.toInt) (h4 : x.toInt ≤ 127) (K : Wp sb dC dI dA sp H0 l ρ0 ad rf sh M (pc + 1) (uph h c0 i.toInt.toNat x.toInt) lv st P) : Wp sb dC dI dA sp H0 l ρ0 ad rf sh M pc h lv (.int x :: .int i :: .ref (ad c0) :: st) P := by
  obtain ⟨pc1, h1', lv1, st1, p1, K1⟩ := K
  exact ⟨pc1, h1', lv1, st1, p1, w0_bast hdg hsh h1 h2 h3 h4 K1⟩
theorem wp_last {c0 n : Nat} {fs : List (Nat × Nat)} {i : Int32} {x : Int64} (hdg : decode M.2.1 pc = .ok (.lastore, 1)) (hsh : sh[c0]? = some (101, n, fs)) (h1 : 0 ≤ i.toInt) (h2 : i.toInt < n) (K : Wp sb dC dI dA sp H0 l ρ0 ad rf sh M (pc + 1) (uph h c0 i.toInt.toNat x.toInt) lv st P) : Wp sb dC dI dA sp H0 l ρ0 ad rf sh M pc h lv (.long x :: .int i :: .ref (ad c0) :: st) P := by
  obtain ⟨pc1, h1', lv1, st1, p1, K1⟩ := K
  exact ⟨pc1, h1', lv1, st1, p1, w0_last hdg hsh h1 h2 K1⟩
theorem wp_alen {c0 n kd : Nat} {fs : List (Nat × Nat)} (hdg : decode M.2.1 pc = .ok (.arraylength, 1)) (hsh : sh[c0]? = some (kd, n, fs)) (hk1 : 100 ≤ kd) (hk2 : kd ≤ 105) (K : Wp sb dC dI dA sp H0 l ρ0 ad rf sh M (pc + 1) h lv (.int (nI n) :: st) P) : Wp sb dC dI dA sp H0 l ρ0 ad rf sh M pc h lv (.ref (ad c0) :: st) P := by
  obtain ⟨pc1, h1', lv1, st1, p1, K1⟩ := K
  exact ⟨pc1, h1', lv1, st1, p1, w0_alen hdg hsh hk1 hk2 K1⟩
theorem wp_slen {L : Nat} (hdg : decode M.2.1 pc = .ok (.arraylength, 1)) (hL : ρ0[6]? = some (L + 9223372036854775808)) (K : Wp sb dC dI dA sp H0 l ρ0 ad rf sh M (pc + 1) h lv (.int (nI L) :: st) P) : Wp sb dC dI dA sp H0 l ρ0 ad rf sh M pc h lv (.ref (sp 0) :: st) P := by
  obtain ⟨pc1, h1', lv1, st1, p1, K1⟩ := K
  exact ⟨pc1, h1', lv1, st1, p1, w0_slen hdg hL K1⟩
theorem wp_sld {L : Nat} {i : Int32} (hdg : decode M.2.1 pc = .ok (.iaload, 1)) (hL : ρ0[6]? = some (L + 9223372036854775808)) (h1 : 0 ≤ i.toInt) (h2 : i.toInt < L) (K : Wp sb dC dI dA sp H0 l ρ0 ad rf sh M (pc + 1) h lv (.int (Int32.ofInt ((sp (1000 + i.toInt.toNat) : Int) - 9223372036854775808)) :: st) P) : Wp sb dC dI dA sp H0 l ρ0 ad rf sh M pc h lv (.int i :: .ref (sp 0) :: st) P := by
  obtain ⟨pc1, h1', lv1, st1, p1, K1⟩ := K
  exact ⟨pc1, h1', lv1, st1, p1, w0_sld hdg hL h1 h2 K1⟩
theorem wp_tlen {x : Nat} (hdg : decode M.2.1 pc = .ok (.arraylength, 1)) (hx2 : x = 2 ∨ x = 4) (K : Wp sb dC dI dA sp H0 l ρ0 ad rf sh M (pc + 1) h lv (.int (nI (sb x).length) :: st) P) : Wp sb dC dI dA sp H0 l ρ0 ad rf sh M pc h lv (.ref (sp x) :: st) P := by
  obtain ⟨pc1, h1', lv1, st1, p1, K1⟩ := K
  exact ⟨pc1, h1', lv1, st1, p1, w0_tlen hdg hx2 K1⟩
theorem wp_tld {x n : Nat} {i : Int32} (hdg : decode M.2.1 pc = .ok (.baload, 1)) (hx2 : x = 2 ∨ x = 4) (h1 : 0 ≤ i.toInt) (hn : (sb x)[i.toInt.toNat]? = some n) (K : Wp sb dC dI dA sp H0 l ρ0 ad rf sh M (pc + 1) h lv (.int (nI n) :: st) P) : Wp sb dC dI dA sp H0 l ρ0 ad rf sh M pc h lv (.int i :: .ref (sp x) :: st) P := by
  obtain ⟨pc1, h1', lv1, st1, p1, K1⟩ := K
  exact ⟨pc1, h1', lv1, st1, p1, w0_tld hdg hx2 h1 hn K1⟩
theorem wp_gets {x : Nat} (hdg : decode M.2.1 pc = .ok (ins, len)) (hlen : len = ax_len ins) (hlk : lok mt M pc ins (x :: lk) = true) (ho : ax_op ins = 56) (K1 : x = 0 → Wp sb dC dI dA sp H0 l ρ0 ad rf sh M (pc + len) h lv (.int 1 :: st) P) (K2 : x ≠ 0 → Wp sb dC dI dA sp H0 l ρ0 ad rf sh M (pc + len) h lv (vq sp :: st) P) : Wp sb dC dI dA sp H0 l ρ0 ad rf sh M pc h lv st P := by
  by_cases c : x = 0
  · obtain ⟨pc1, h1', lv1, st1, p1, KA⟩ := K1 c
    exact ⟨pc1, h1', lv1, st1, p1, w0_gets hdg hlen hlk ho (fun _ => KA) (fun z => absurd c z)⟩
  · obtain ⟨pc1, h1', lv1, st1, p1, KA⟩ := K2 c
    exact ⟨pc1, h1', lv1, st1, p1, w0_gets hdg hlen hlk ho (fun z => absurd z c) (fun _ => KA)⟩
theorem wp_min {x y : Int32} {rest : List Value} (hdg : decode M.2.1 pc = .ok (ins, len)) (hlen : len = ax_len ins) (hlk : lok mt M pc ins (902 :: lk) = true) (ho : ax_op ins = 21) (hf : 1 ≤ M.2.2.2.2.1.frames) (hl2 : (rest.map fun v => v.category).sum + 13 ≤ M.2.2.2.2.1.locals) (K : Wp sb dC dI dA sp H0 l ρ0 ad rf sh M (pc + len) h lv (.int (if y < x then y else x) :: rest) P) : Wp sb dC dI dA sp H0 l ρ0 ad rf sh M pc h lv (.int y :: .int x :: rest) P := by
  obtain ⟨pc1, h1', lv1, st1, p1, K1⟩ := K
  exact ⟨pc1, h1', lv1, st1, p1, w0_min hdg hlen hlk ho hf hl2 K1⟩
theorem wp_copy {cs cd n0 n1 kd : Nat} {f0 f1 : List (Nat × Nat)} {n dp sq : Int32} {rest : List Value} (hdg : decode M.2.1 pc = .ok (ins, len)) (hlen : len = ax_len ins) (hlk : lok mt M pc ins (901 :: lk) = true) (ho : ax_op ins = 21) (hf : 1 ≤ M.2.2.2.2.1.frames) (hl2 : (rest.map fun v => v.category).sum + 18 ≤ M.2.2.2.2.1.locals) (hs0 : sh[cs]? = some (kd, n0, f0)) (hs1 : sh[cd]? = some (kd, n1, f1)) (hkd : kd = 100 ∨ kd = 101) (b1 : 0 ≤ sq.toInt) (b2 : 0 ≤ dp.toInt) (b3 : 0 ≤ n.toInt) (b4 : sq.toInt + n.toInt ≤ n0) (b5 : dp.toInt + n.toInt ≤ n1) (K : Wp sb dC dI dA sp H0 l ρ0 ad rf sh M (pc + len) (cph h cs cd sq.toInt.toNat dp.toInt.toNat n.toInt.toNat) lv rest P) : Wp sb dC dI dA sp H0 l ρ0 ad rf sh M pc h lv (.int n :: .int dp :: .ref (ad cd) :: .int sq :: .ref (ad cs) :: rest) P := by
  obtain ⟨pc1, h1', lv1, st1, p1, K1⟩ := K
  exact ⟨pc1, h1', lv1, st1, p1, w0_copy hdg hlen hlk ho hf hl2 hs0 hs1 hkd b1 b2 b3 b4 b5 K1⟩
theorem wp_table {d lo hi T : Nat} {ks : List Nat} {x : Int32} (hdg : decode M.2.1 pc = .ok (ins, len)) (hlk : lok mt M pc ins (d :: lo :: hi :: ks) = true) (ho : ax_op ins = 57) (K : Wp sb dC dI dA sp H0 l ρ0 ad rf sh M T h lv st P) (hD : x.toInt < (nI lo).toInt ∨ (nI hi).toInt < x.toInt → d = T) (hK : ∀ k t, ax_pr k t ks → x = nI k → t = T) : Wp sb dC dI dA sp H0 l ρ0 ad rf sh M pc h lv (.int x :: st) P := by
  obtain ⟨pc1, h1', lv1, st1, p1, K1⟩ := K
  exact ⟨pc1, h1', lv1, st1, p1, w0_table hdg hlk ho (fun z => by rw [hD z]; exact K1) (fun k t z1 z2 => by rw [hK k t z1 z2]; exact K1)⟩
theorem wp_look {d T : Nat} {ks : List Nat} {x : Int32} (hdg : decode M.2.1 pc = .ok (ins, len)) (hlk : lok mt M pc ins (d :: ks) = true) (ho : ax_op ins = 58) (K : Wp sb dC dI dA sp H0 l ρ0 ad rf sh M T h lv st P) (hD : (∀ k t, ax_pr k t ks → x ≠ nI k) → d = T) (hK : ∀ k t, ax_pr k t ks → x = nI k → t = T) : Wp sb dC dI dA sp H0 l ρ0 ad rf sh M pc h lv (.int x :: st) P := by
  obtain ⟨pc1, h1', lv1, st1, p1, K1⟩ := K
  exact ⟨pc1, h1', lv1, st1, p1, w0_look hdg hlk ho (fun z => by rw [hD z]; exact K1) (fun k t z1 z2 => by rw [hK k t z1 z2]; exact K1)⟩
theorem wp_call {a b kc ci : Nat} {C : MR} {as rest : List Value} (hC : mt a b = some C) (hCC : Mcw C) (hdg : decode M.2.1 pc = .ok (ins, len)) (hlen : len = ax_len ins) (hlk : lok mt M pc ins (a :: b :: kc :: ci :: lk) = true) (ho : ax_op ins = 21) (h9 : Nat.beq a 900 = false ∧ Nat.beq a 901 = false ∧ Nat.beq a 902 = false) (hkc : kc = 0 ∨ kc = 2) (hna : as.length = C.2.2.2.2.2.1) (hf1 : C.2.2.2.2.1.frames < M.2.2.2.2.1.frames) (hf2 : 8 + (C.2.2.1 + 11) + C.2.2.2.2.1.locals ≤ M.2.2.2.2.1.locals) (hwr : (rest.map fun v => v.category).sum ≤ 8) (hwa : (as.map fun v => v.category).sum ≤ C.2.2.1) (hz : C.2.2.2.2.1.cells = 0 ∧ C.2.2.2.2.1.slots = 0) (hrc : kc = 0 → rcvc sp ad sh ci as)
    (hW : Wp sb dC dI dA sp H0 l ρ0 ad rf sh C 0 h (lv_args 0 as) [] P') (hR : Rt C P') (K : ∀ pc' h' lv' st', P' pc' h' lv' st' → Wp sb dC dI dA sp H0 l ρ0 ad rf sh M (pc + len) h' lv (st' ++ rest) P) : Wp sb dC dI dA sp H0 l ρ0 ad rf sh M pc h lv (as.reverse ++ rest) P := by
  obtain ⟨pc1, h1', lv1, st1, p1, W1⟩ := hW
  obtain ⟨pc2, h2', lv2, st2, p2, K2⟩ := K pc1 h1' lv1 st1 p1
  refine ⟨pc2, h2', lv2, st2, p2, w0_call (P' := one pc1 h1' lv1 st1) hC hCC hdg hlen hlk ho h9 hkc hna hf1 hf2 hwr hwa hz hrc W1 (fun pc' h' lv' st' q => ?_) (fun pc' h' lv' st' q => ?_)⟩
  · obtain ⟨rfl, rfl, rfl, rfl⟩ := q
    exact hR _ _ _ _ p1
  · obtain ⟨rfl, rfl, rfl, rfl⟩ := q
    exact K2
theorem wp_max {b : Nat} {x y : Int32} {rest : List Value} (hmt : mt 903 b = none) (hdg : decode M.2.1 pc = .ok (ins, len)) (hlen : len = ax_len ins) (hlk : lok mt M pc ins (903 :: b :: lk) = true) (ho : ax_op ins = 21) (hf : 1 ≤ M.2.2.2.2.1.frames) (hl2 : (rest.map fun v => v.category).sum + 13 ≤ M.2.2.2.2.1.locals) (K : Wp sb dC dI dA sp H0 l ρ0 ad rf sh M (pc + len) h lv (.int (if x < y then y else x) :: rest) P) : Wp sb dC dI dA sp H0 l ρ0 ad rf sh M pc h lv (.int y :: .int x :: rest) P := by
  obtain ⟨pc1, h1', lv1, st1, p1, K1⟩ := K
  exact ⟨pc1, h1', lv1, st1, p1, w0_max hmt hdg hlen hlk ho hf hl2 K1⟩
theorem wp_less {LV LV' : LVs} (hs : ∀ q ∈ LV', q ∈ LV) (K : Wp sb dC dI dA sp H0 l ρ0 ad rf sh M pc h LV' st P) : Wp sb dC dI dA sp H0 l ρ0 ad rf sh M pc h LV st P := by
  obtain ⟨pc1, h1', lv1, st1, p1, K1⟩ := K
  refine ⟨pc1, h1', lv1, st1, p1, ?_⟩
  intro p e R s m args below meth c Q nc ns hX hN hG H locs ls z1 z2 z3 z4
  exact K1 p e R s m args below meth c Q nc ns hX hN hG H locs ls z1 z2 z3 ⟨z4.1, z4.2.1, fun q hq => z4.2.2 q (hs q hq)⟩
end WPT
