section
/-! 23.wp -/
/-! THE MACHINE BY STEPS, 1: plain states. The cells are those behind the constructors: their shape stays, their numbers change. -/
abbrev PH : Type := Nat → Nat → Int
abbrev SHP : Type := List (Nat × Nat × List (Nat × Nat))
def uph (h : PH) (c k : Nat) (v : Int) : PH := fun c' k' => if c' = c ∧ k' = k then v else h c' k'
theorem uph_in (h : PH) (c k : Nat) (v : Int) : uph h c k v c k = v := if_pos ⟨rfl, rfl⟩
theorem uph_ne (h : PH) {c k c' k' : Nat} (v : Int) (q : ¬ (c' = c ∧ k' = k)) : uph h c k v c' k' = h c' k' := if_neg q
def pf (ad : Nat → Nat) (g : Nat → Int) (k : Nat) (f : Nat × Nat) : Value := match f.1 with
  | 0 => .int (Int32.ofInt (g k))
  | 1 => .long (Int64.ofInt (g k))
  | _ => .ref (ad f.2)
def mkE (dA : Nat → ClassId) (ad : Nat → Nat) (rf : Nat → Nat → Option Nat) (g : Nat → Int) (c : Nat) (q : Nat × Nat × List (Nat × Nat)) : va_E :=
  if q.1 < 100 then .inr (q.1, q.2.2.mapIdx (fun k f => pf ad g k f))
  else if q.1 = 101 then .inl (dA 101, q.2.1, .inr (.inl (fun j => Int64.ofInt (g j))))
  else if 103 ≤ q.1 then .inl (dA q.1, q.2.1, .inr (.inr (.inr (.inr (rf c)))))
  else .inl (dA q.1, q.2.1, .inl (fun j => Int32.ofInt (g j)))
def mkW (dA : Nat → ClassId) (ad : Nat → Nat) (rf : Nat → Nat → Option Nat) (sh : SHP) (h : PH) : va_W := sh.mapIdx (fun c q => (ad c, mkE dA ad rf (h c) c q))
theorem mkW_get {dA : Nat → ClassId} {ad : Nat → Nat} {rf : Nat → Nat → Option Nat} {sh : SHP} {h : PH} {c : Nat} {q : Nat × Nat × List (Nat × Nat)} (hc : sh[c]? = some q) : (mkW dA ad rf sh h)[c]? = some (ad c, mkE dA ad rf (h c) c q) := by
  unfold mkW
  rw [List.getElem?_mapIdx, hc]
  rfl
theorem mkW_set {dA : Nat → ClassId} {ad : Nat → Nat} {rf : Nat → Nat → Option Nat} {sh : SHP} {h h' : PH} {c : Nat} {q : Nat × Nat × List (Nat × Nat)} {E : va_E} (hc : sh[c]? = some q) (hE : E = mkE dA ad rf (h' c) c q) (hn : ∀ c', c' ≠ c → h' c' = h c') : (mkW dA ad rf sh h).set c (ad c, E) = mkW dA ad rf sh h' := by
  apply List.ext_getElem?
  intro i
  have hl : c < (mkW dA ad rf sh h).length := by
    have := (List.getElem?_eq_some_iff.mp hc).1
    unfold mkW
    rw [List.length_mapIdx]
    exact this
  by_cases hi : i = c
  · subst hi
    rw [List.getElem?_set_self hl, mkW_get hc, hE]
  · rw [List.getElem?_set_ne (fun z => hi z.symm)]
    unfold mkW
    rw [List.getElem?_mapIdx, List.getElem?_mapIdx]
    cases sh[i]? with
    | none => rfl
    | some r => rw [Option.map_some, Option.map_some, hn i hi]
theorem mkE_o {dA : Nat → ClassId} {ad : Nat → Nat} {rf : Nat → Nat → Option Nat} {g : Nat → Int} {c ci n : Nat} {fs : List (Nat × Nat)} (h : ci < 100) : mkE dA ad rf g c (ci, n, fs) = .inr (ci, fs.mapIdx (fun k f => pf ad g k f)) := if_pos h
theorem mkE_i {dA : Nat → ClassId} {ad : Nat → Nat} {rf : Nat → Nat → Option Nat} {g : Nat → Int} {c kd n : Nat} {fs : List (Nat × Nat)} (h : kd = 100 ∨ kd = 102) : mkE dA ad rf g c (kd, n, fs) = .inl (dA kd, n, .inl (fun j => Int32.ofInt (g j))) := by
  unfold mkE
  rw [if_neg (by show ¬ kd < 100; omega), if_neg (by show ¬ kd = 101; omega), if_neg (by show ¬ 103 ≤ kd; omega)]
theorem mkE_l {dA : Nat → ClassId} {ad : Nat → Nat} {rf : Nat → Nat → Option Nat} {g : Nat → Int} {c n : Nat} {fs : List (Nat × Nat)} : mkE dA ad rf g c (101, n, fs) = .inl (dA 101, n, .inr (.inl (fun j => Int64.ofInt (g j)))) := by
  unfold mkE
  rw [if_neg (by show ¬ (101 < 100); omega), if_pos rfl]
theorem mkE_r {dA : Nat → ClassId} {ad : Nat → Nat} {rf : Nat → Nat → Option Nat} {g : Nat → Int} {c kd n : Nat} {fs : List (Nat × Nat)} (h : 103 ≤ kd) : mkE dA ad rf g c (kd, n, fs) = .inl (dA kd, n, .inr (.inr (.inr (.inr (rf c))))) := by
  unfold mkE
  rw [if_neg (by show ¬ kd < 100; omega), if_neg (by show ¬ kd = 101; omega), if_pos h]
abbrev LVs : Type := List (Nat × Value)
abbrev PO : Type := Nat → PH → LVs → List Value → Prop
section WPS
variable (sb : Nat → List Nat) (dC : Nat → ClassId) (dI : Nat → Nat → Nat) (dA : Nat → ClassId) (sp : Nat → Nat) (H0 : Heap) (l : Launch) (ρ0 : List Nat) (ad : Nat → Nat) (rf : Nat → Nat → Option Nat) (sh : SHP)
def Gl (p : Program) (e : Env) (R : Room) (s : State) (m : MethodId) (args : Array Value) (below : List Frame) (meth : Method) (c : Code) (Q : State → Prop) (nc ns nL pc : Nat) (h : PH) (lv : LVs) (st : List Value) : Prop :=
  ∀ (H : Heap) (locs : List Loc) (ls : Array Slot), va_P (dC, dI) vwCl (mkW dA ad rf sh h) H → va_D (aA H0) (mkW dA ad rf sh h) → va_S (aA H0) H0 H locs → lv_has ls nL lv → W p l e R s m args below meth c H locs nc ns Q (F0 m pc ls st)
def Wp0 (M : MR) (pc : Nat) (h : PH) (lv : LVs) (st : List Value) (P : PO) : Prop :=
  ∀ (p : Program) (e : Env) (R : Room) (s : State) (m : MethodId) (args : Array Value) (below : List Frame) (meth : Method) (c : Code) (Q : State → Prop) (nc ns : Nat), CX sb dC dI dA sp H0 ρ0 M p R s m args meth c → nc ≤ M.2.2.2.2.1.cells ∧ ns ≤ M.2.2.2.2.1.slots →
    (∀ pc' h' lv' st', P pc' h' lv' st' → Gl dC dI dA H0 l ad rf sh p e R s m args below meth c Q nc ns M.2.2.1 pc' h' lv' st') → Gl dC dI dA H0 l ad rf sh p e R s m args below meth c Q nc ns M.2.2.1 pc h lv st
end WPS
section WPT
variable {sb : Nat → List Nat} {mt : Nat → Nat → Option MR} {dC : Nat → ClassId} {dI : Nat → Nat → Nat} {dA : Nat → ClassId} {sp : Nat → Nat} {H0 : Heap} {l : Launch} {ρ0 : List Nat} {ad : Nat → Nat} {rf : Nat → Nat → Option Nat} {sh : SHP}
variable {M : MR} {pc len : Nat} {ins : Instr} {lk : List Nat} {h : PH} {lv : LVs} {st : List Value} {P P' : PO}
theorem w0_rf (hP : P pc h lv st) : Wp0 sb dC dI dA sp H0 l ρ0 ad rf sh M pc h lv st P := by
  intro p e R s m args below meth c Q nc ns hX hN hG
  exact hG _ _ _ _ hP
theorem w0_bd (K : Wp0 sb dC dI dA sp H0 l ρ0 ad rf sh M pc h lv st P') (KK : ∀ pc' h' lv' st', P' pc' h' lv' st' → Wp0 sb dC dI dA sp H0 l ρ0 ad rf sh M pc' h' lv' st' P) : Wp0 sb dC dI dA sp H0 l ρ0 ad rf sh M pc h lv st P := by
  intro p e R s m args below meth c Q nc ns hX hN hG
  exact K p e R s m args below meth c Q nc ns hX hN (fun pc' h' lv' st' z => KK pc' h' lv' st' z p e R s m args below meth c Q nc ns hX hN hG)
/-- the number of a push -/
def pv (sp : Nat → Nat) (t n : Nat) : Value := match t with
  | 0 => .int (nI n)
  | 1 => .long (lN n)
  | _ => .ref (sp n)
theorem w0_push {t n : Nat} (hdg : decode M.2.1 pc = .ok (ins, len)) (hlen : len = ax_len ins) (hlk : lok mt M pc ins (t :: n :: lk) = true) (ho : ax_op ins = 0) (K : Wp0 sb dC dI dA sp H0 l ρ0 ad rf sh M (pc + len) h lv (pv sp t n :: st) P) : Wp0 sb dC dI dA sp H0 l ρ0 ad rf sh M pc h lv st P := by
  intro p e R s m args below meth c Q nc ns hX hN hG H locs ls z1 z2 z3 z4
  have KK := K p e R s m args below meth c Q nc ns hX hN hG H locs ls z1 z2 z3 z4
  obtain ⟨hx, hb, hml, hown, hts, hK, hlocks, hrt, hin, hRoom, hO⟩ := id hX
  cases ins <;> first | (exact absurd ho (Nat.ne_of_beq_eq_false rfl)) | skip
  case bipush i =>
    subst hlen
    have w := bb_and (a := Nat.beq t 0) hlk
    obtain rfl := bb_eq w.1
    exact lv_bipush hx hb hdg (of_decide_eq_true w.2) KK
  case iconst i =>
    subst hlen
    have w := bb_and (a := Nat.beq t 0) hlk
    obtain rfl := bb_eq w.1
    exact lv_iconst hx hb hdg (of_decide_eq_true w.2) KK
  case lconst i =>
    subst hlen
    have w := bb_and (a := Nat.beq t 1) hlk
    obtain rfl := bb_eq w.1
    exact lv_lconst hx hb hdg (of_decide_eq_true w.2) KK
  case sipush i =>
    subst hlen
    have w := bb_and (a := Nat.beq t 0) hlk
    obtain rfl := bb_eq w.1
    exact lv_sipush hx hb hdg (of_decide_eq_true w.2) KK
  case ldc idx =>
    subst hlen
    match lk, hlk with
    | c1 :: j1 :: _, hlk =>
      have hl : (bif Nat.beq t 0 then wdq c1 j1 (.constant M.1.cls idx (nI n)) else Nat.beq t 6 && ((Nat.beq n 1 && (decide (M.1.cls = RX9) && Nat.beq idx 51)) || (Nat.beq n 3 && (decide (M.1.cls = RX12) && Nat.beq idx 171)))) = true := hlk
      cases ht : Nat.beq t 0 with
      | true =>
        rw [ht] at hl
        obtain rfl := bb_eq ht
        exact lv_ldc hx hb hown (hts _ (wdq_in hl)) hdg KK
      | false =>
        rw [ht] at hl
        have w := bb_and hl
        obtain rfl := bb_eq w.1
        rcases (Bool.or_eq_true _ _).mp w.2 with w2 | w2
        · have w3 := bb_and w2
          have w4 := bb_and w3.2
          obtain rfl := bb_eq w3.1
          obtain rfl := bb_eq w4.2
          have hc : M.1.cls = RX9 := of_decide_eq_true w4.1
          exact va_ldcS hx hb (by rw [← hc]; exact hown) hO.2.2.2.1 hdg KK
        · have w3 := bb_and w2
          have w4 := bb_and w3.2
          obtain rfl := bb_eq w3.1
          obtain rfl := bb_eq w4.2
          have hc : M.1.cls = RX12 := of_decide_eq_true w4.1
          exact va_ldcS hx hb (by rw [← hc]; exact hown) hO.2.2.2.2.1 hdg KK
  case ldc_w idx =>
    subst hlen
    match lk, hlk with
    | c1 :: j1 :: _, hlk =>
      have w := bb_and (a := Nat.beq t 0) hlk
      obtain rfl := bb_eq w.1
      exact lv_ldcw hx hb hown (hts _ (wdq_in w.2)) hdg KK
  case ldc2_w idx =>
    subst hlen
    match lk, hlk with
    | c1 :: j1 :: _, hlk =>
      have w := bb_and (a := Nat.beq t 1) hlk
      obtain rfl := bb_eq w.1
      exact lv_ldc2 hx hb hown (hts _ (wdq_in w.2)) hdg KK
theorem w0_load {k : Nat} {V : Value} (hdg : decode M.2.1 pc = .ok (ins, len)) (hlen : len = ax_len ins) (hlk : lok mt M pc ins (k :: lk) = true) (hV : (k, V) ∈ lv) (ho : (ax_op ins = 1 ∧ ∃ x, V = .int x) ∨ (ax_op ins = 2 ∧ ∃ x, V = .long x) ∨ (ax_op ins = 3 ∧ ∃ x, V = .ref x)) (K : Wp0 sb dC dI dA sp H0 l ρ0 ad rf sh M (pc + len) h lv (V :: st) P) : Wp0 sb dC dI dA sp H0 l ρ0 ad rf sh M pc h lv st P := by
  intro p e R s m args below meth c Q nc ns hX hN hG H locs ls z1 z2 z3 z4
  have KK := K p e R s m args below meth c Q nc ns hX hN hG H locs ls z1 z2 z3 z4
  obtain ⟨hx, hb, hml, hown, hts, hK, hlocks, hrt, hin, hRoom, hO⟩ := id hX
  have hls : ls[k]? = some (.val V) := z4.2.2 (k, V) hV
  rcases ho with ⟨ho, x, rfl⟩ | ⟨ho, x, rfl⟩ | ⟨ho, x, rfl⟩
  · cases ins <;> first | (exact absurd ho (Nat.ne_of_beq_eq_false rfl)) | skip
    case iload i =>
      subst hlen
      obtain rfl := bb_eq (a := i) (b := k) hlk
      exact lv_iload hx hb hdg hls KK
    case iload_n i =>
      subst hlen
      exact lv_iload_n hx hb hdg (bb_eq (a := (i : Nat)) (b := k) hlk) hls KK
  · cases ins <;> first | (exact absurd ho (Nat.ne_of_beq_eq_false rfl)) | skip
    case lload i =>
      subst hlen
      obtain rfl := bb_eq (a := i) (b := k) hlk
      exact lv_lload hx hb hdg hls KK
    case lload_n i =>
      subst hlen
      exact lv_lload_n hx hb hdg (bb_eq (a := (i : Nat)) (b := k) hlk) hls KK
  · cases ins <;> first | (exact absurd ho (Nat.ne_of_beq_eq_false rfl)) | skip
    case aload i =>
      subst hlen
      obtain rfl := bb_eq (a := i) (b := k) hlk
      exact lv_aload hx hb hdg hls KK
    case aload_n i =>
      subst hlen
      exact lv_aload_n hx hb hdg (bb_eq (a := (i : Nat)) (b := k) hlk) hls KK
def pk1 (i : Nat) : Nat × Value → Bool := fun q => !(q.1 == i) && !(q.1 + 1 == i && q.2.category == 2)
def pk2 (i : Nat) : Nat × Value → Bool := fun q => !(q.1 == i) && (!(q.1 == i + 1) && !(q.1 + 1 == i && q.2.category == 2))
theorem w0_sto1 {k : Nat} {V : Value} (hdg : decode M.2.1 pc = .ok (ins, len)) (hlen : len = ax_len ins) (hlk : lok mt M pc ins (k :: lk) = true) (ho : (ax_op ins = 4 ∧ ∃ x, V = .int x) ∨ (ax_op ins = 6 ∧ ∃ x, V = .ref x)) (K : Wp0 sb dC dI dA sp H0 l ρ0 ad rf sh M (pc + len) h ((k, V) :: lv.filter (pk1 k)) st P) : Wp0 sb dC dI dA sp H0 l ρ0 ad rf sh M pc h lv (V :: st) P := by
  intro p e R s m args below meth c Q nc ns hX hN hG H locs ls z1 z2 z3 z4
  have KK := fun ls' z4' => K p e R s m args below meth c Q nc ns hX hN hG H locs ls' z1 z2 z3 z4'
  obtain ⟨hx, hb, hml, hown, hts, hK, hlocks, hrt, hin, hRoom, hO⟩ := id hX
  rcases ho with ⟨ho, x, rfl⟩ | ⟨ho, x, rfl⟩
  · cases ins <;> first | (exact absurd ho (Nat.ne_of_beq_eq_false rfl)) | skip
    case istore i =>
      subst hlen
      have w := bb_and (a := Nat.beq i k) hlk
      obtain rfl := bb_eq w.1
      exact lv_istore hx hb hdg z4 (bb_lt w.2) rfl KK
    case istore_n i =>
      subst hlen
      have w := bb_and (a := Nat.beq (i : Nat) k) hlk
      exact lv_istore_n hx hb hdg (bb_eq w.1) z4 (bb_lt w.2) rfl KK
  · cases ins <;> first | (exact absurd ho (Nat.ne_of_beq_eq_false rfl)) | skip
    case astore i =>
      subst hlen
      have w := bb_and (a := Nat.beq i k) hlk
      obtain rfl := bb_eq w.1
      exact lv_astore hx hb hdg z4 (bb_lt w.2) rfl KK
    case astore_n i =>
      subst hlen
      have w := bb_and (a := Nat.beq (i : Nat) k) hlk
      exact lv_astore_n hx hb hdg (bb_eq w.1) z4 (bb_lt w.2) rfl KK
theorem w0_sto2 {k : Nat} {x : Int64} (hdg : decode M.2.1 pc = .ok (ins, len)) (hlen : len = ax_len ins) (hlk : lok mt M pc ins (k :: lk) = true) (ho : ax_op ins = 5) (K : Wp0 sb dC dI dA sp H0 l ρ0 ad rf sh M (pc + len) h ((k, .long x) :: lv.filter (pk2 k)) st P) : Wp0 sb dC dI dA sp H0 l ρ0 ad rf sh M pc h lv (.long x :: st) P := by
  intro p e R s m args below meth c Q nc ns hX hN hG H locs ls z1 z2 z3 z4
  have KK := fun ls' z4' => K p e R s m args below meth c Q nc ns hX hN hG H locs ls' z1 z2 z3 z4'
  obtain ⟨hx, hb, hml, hown, hts, hK, hlocks, hrt, hin, hRoom, hO⟩ := id hX
  cases ins <;> first | (exact absurd ho (Nat.ne_of_beq_eq_false rfl)) | skip
  case lstore i =>
    subst hlen
    have w := bb_and (a := Nat.beq i k) hlk
    obtain rfl := bb_eq w.1
    exact lv_lstore hx hb hdg z4 (bb_lt w.2) rfl KK
  case lstore_n i =>
    subst hlen
    have w := bb_and (a := Nat.beq (i : Nat) k) hlk
    exact lv_lstore_n hx hb hdg (bb_eq w.1) z4 (bb_lt w.2) rfl KK
theorem w0_iinc {k n : Nat} {x : Int32} (hdg : decode M.2.1 pc = .ok (ins, len)) (hlen : len = ax_len ins) (hlk : lok mt M pc ins (k :: n :: lk) = true) (ho : ax_op ins = 7) (hV : (k, .int x) ∈ lv) (K : Wp0 sb dC dI dA sp H0 l ρ0 ad rf sh M (pc + len) h ((k, .int (x + nI n)) :: lv.filter (pk1 k)) st P) : Wp0 sb dC dI dA sp H0 l ρ0 ad rf sh M pc h lv st P := by
  intro p e R s m args below meth c Q nc ns hX hN hG H locs ls z1 z2 z3 z4
  have KK := fun ls' z4' => K p e R s m args below meth c Q nc ns hX hN hG H locs ls' z1 z2 z3 z4'
  obtain ⟨hx, hb, hml, hown, hts, hK, hlocks, hrt, hin, hRoom, hO⟩ := id hX
  obtain ⟨k0, hk0⟩ := List.getElem?_of_mem hV
  cases ins <;> first | (exact absurd ho (Nat.ne_of_beq_eq_false rfl)) | skip
  case iinc i n' =>
    subst hlen
    have w := bb_and (a := Nat.beq i k) hlk
    have w2 := bb_and w.2
    obtain rfl := bb_eq w.1
    have hn : Int32.ofInt n' = nI n := of_decide_eq_true w2.1
    exact lv_iinc hx hb hdg z4 hk0 (by rw [hn]) (bb_lt w2.2) rfl KK
theorem w0_ib {op : Nat} {x y : Int32} (hdg : decode M.2.1 pc = .ok (ins, len)) (hlen : len = ax_len ins) (ho : ax_op ins = op + 26) (ho2 : op < 9) (K : Wp0 sb dC dI dA sp H0 l ρ0 ad rf sh M (pc + len) h lv (.int (ax_fop op x y) :: st) P) : Wp0 sb dC dI dA sp H0 l ρ0 ad rf sh M pc h lv (.int y :: .int x :: st) P := by
  intro p e R s m args below meth c Q nc ns hX hN hG H locs ls z1 z2 z3 z4
  have KK := K p e R s m args below meth c Q nc ns hX hN hG H locs ls z1 z2 z3 z4
  obtain ⟨hx, hb, -⟩ := id hX
  match op, ho2 with
  | 0, _ => cases ins <;> first | (exact absurd ho (Nat.ne_of_beq_eq_false rfl)) | (subst hlen; exact lv_iadd hx hb hdg KK)
  | 1, _ => cases ins <;> first | (exact absurd ho (Nat.ne_of_beq_eq_false rfl)) | (subst hlen; exact lv_isub hx hb hdg KK)
  | 2, _ => cases ins <;> first | (exact absurd ho (Nat.ne_of_beq_eq_false rfl)) | (subst hlen; exact lv_imul hx hb hdg KK)
  | 3, _ => cases ins <;> first | (exact absurd ho (Nat.ne_of_beq_eq_false rfl)) | (subst hlen; exact lv_iand hx hb hdg KK)
  | 4, _ => cases ins <;> first | (exact absurd ho (Nat.ne_of_beq_eq_false rfl)) | (subst hlen; exact lv_ior hx hb hdg KK)
  | 5, _ => cases ins <;> first | (exact absurd ho (Nat.ne_of_beq_eq_false rfl)) | (subst hlen; exact lv_ixor hx hb hdg KK)
  | 6, _ => cases ins <;> first | (exact absurd ho (Nat.ne_of_beq_eq_false rfl)) | (subst hlen; exact lv_ishl hx hb hdg KK)
  | 7, _ => cases ins <;> first | (exact absurd ho (Nat.ne_of_beq_eq_false rfl)) | (subst hlen; exact lv_ishr hx hb hdg KK)
  | 8, _ => cases ins <;> first | (exact absurd ho (Nat.ne_of_beq_eq_false rfl)) | (subst hlen; exact lv_iushr hx hb hdg rfl KK)
  | n + 9, hn => exact absurd hn (by omega)
theorem w0_id {op : Nat} {x y : Int32} (hdg : decode M.2.1 pc = .ok (ins, len)) (hlen : len = ax_len ins) (ho : ax_op ins = op + 35) (ho2 : op < 2) (hy : ¬ y = 0) (K : Wp0 sb dC dI dA sp H0 l ρ0 ad rf sh M (pc + len) h lv (.int (if op = 0 then x / y else x - x / y * y) :: st) P) : Wp0 sb dC dI dA sp H0 l ρ0 ad rf sh M pc h lv (.int y :: .int x :: st) P := by
  intro p e R s m args below meth c Q nc ns hX hN hG H locs ls z1 z2 z3 z4
  have KK := K p e R s m args below meth c Q nc ns hX hN hG H locs ls z1 z2 z3 z4
  obtain ⟨hx, hb, -⟩ := id hX
  match op, ho2 with
  | 0, _ => cases ins <;> first | (exact absurd ho (Nat.ne_of_beq_eq_false rfl)) | (subst hlen; exact lv_idiv hx hb hdg hy KK)
  | 1, _ => cases ins <;> first | (exact absurd ho (Nat.ne_of_beq_eq_false rfl)) | (subst hlen; exact lv_irem hx hb hdg hy KK)
  | n + 2, hn => exact absurd hn (by omega)
theorem w0_lb {op : Nat} {x y : Int64} (hdg : decode M.2.1 pc = .ok (ins, len)) (hlen : len = ax_len ins) (ho : ax_op ins = op + 37) (ho2 : op < 5) (K : Wp0 sb dC dI dA sp H0 l ρ0 ad rf sh M (pc + len) h lv (.long (ax_flo op x y) :: st) P) : Wp0 sb dC dI dA sp H0 l ρ0 ad rf sh M pc h lv (.long y :: .long x :: st) P := by
  intro p e R s m args below meth c Q nc ns hX hN hG H locs ls z1 z2 z3 z4
  have KK := K p e R s m args below meth c Q nc ns hX hN hG H locs ls z1 z2 z3 z4
  obtain ⟨hx, hb, -⟩ := id hX
  match op, ho2 with
  | 0, _ => cases ins <;> first | (exact absurd ho (Nat.ne_of_beq_eq_false rfl)) | (subst hlen; exact lv_ladd hx hb hdg KK)
  | 1, _ => cases ins <;> first | (exact absurd ho (Nat.ne_of_beq_eq_false rfl)) | (subst hlen; exact lv_lsub hx hb hdg KK)
  | 2, _ => cases ins <;> first | (exact absurd ho (Nat.ne_of_beq_eq_false rfl)) | (subst hlen; exact lv_lmul hx hb hdg KK)
  | 3, _ => cases ins <;> first | (exact absurd ho (Nat.ne_of_beq_eq_false rfl)) | (subst hlen; exact lv_land hx hb hdg KK)
  | 4, _ => cases ins <;> first | (exact absurd ho (Nat.ne_of_beq_eq_false rfl)) | (subst hlen; exact lv_lor hx hb hdg KK)
  | n + 5, hn => exact absurd hn (by omega)
theorem w0_ld {op : Nat} {x y : Int64} (hdg : decode M.2.1 pc = .ok (ins, 1)) (ho : ax_op ins = op + 60) (ho2 : op < 2) (hy : ¬ y = 0) (K : Wp0 sb dC dI dA sp H0 l ρ0 ad rf sh M (pc + 1) h lv (.long (if op = 0 then x / y else x - x / y * y) :: st) P) : Wp0 sb dC dI dA sp H0 l ρ0 ad rf sh M pc h lv (.long y :: .long x :: st) P := by
  intro p e R s m args below meth c Q nc ns hX hN hG H locs ls z1 z2 z3 z4
  have KK := K p e R s m args below meth c Q nc ns hX hN hG H locs ls z1 z2 z3 z4
  obtain ⟨hx, hb, -⟩ := id hX
  match op, ho2 with
  | 0, _ => cases ins <;> first | (exact absurd ho (Nat.ne_of_beq_eq_false rfl)) | exact lv_ldiv hx hb hdg hy KK
  | 1, _ => cases ins <;> first | (exact absurd ho (Nat.ne_of_beq_eq_false rfl)) | exact lv_lrem hx hb hdg hy KK
  | n + 2, hn => exact absurd hn (by omega)
theorem w0_lshl {x : Int64} {y : Int32} (hdg : decode M.2.1 pc = .ok (ins, len)) (hlen : len = ax_len ins) (ho : ax_op ins = 42) (K : Wp0 sb dC dI dA sp H0 l ρ0 ad rf sh M (pc + len) h lv (.long (x <<< (y.toInt64 &&& 63)) :: st) P) : Wp0 sb dC dI dA sp H0 l ρ0 ad rf sh M pc h lv (.int y :: .long x :: st) P := by
  intro p e R s m args below meth c Q nc ns hX hN hG H locs ls z1 z2 z3 z4
  have KK := K p e R s m args below meth c Q nc ns hX hN hG H locs ls z1 z2 z3 z4
  obtain ⟨hx, hb, -⟩ := id hX
  cases ins <;> first | (exact absurd ho (Nat.ne_of_beq_eq_false rfl)) | (subst hlen; exact lv_lshl hx hb hdg rfl KK)
theorem w0_lcmp {x y : Int64} (hdg : decode M.2.1 pc = .ok (ins, len)) (hlen : len = ax_len ins) (ho : ax_op ins = 43) (K : Wp0 sb dC dI dA sp H0 l ρ0 ad rf sh M (pc + len) h lv (.int (lg_cmp x y) :: st) P) : Wp0 sb dC dI dA sp H0 l ρ0 ad rf sh M pc h lv (.long y :: .long x :: st) P := by
  intro p e R s m args below meth c Q nc ns hX hN hG H locs ls z1 z2 z3 z4
  have KK := K p e R s m args below meth c Q nc ns hX hN hG H locs ls z1 z2 z3 z4
  obtain ⟨hx, hb, -⟩ := id hX
  cases ins <;> first | (exact absurd ho (Nat.ne_of_beq_eq_false rfl)) | (subst hlen; exact W.lcmp hx hb hdg KK)
theorem w0_un {op : Nat} {x : Int32} (hdg : decode M.2.1 pc = .ok (ins, len)) (hlen : len = ax_len ins) (ho : ax_op ins = op + 44) (ho2 : op < 4) (K : Wp0 sb dC dI dA sp H0 l ρ0 ad rf sh M (pc + len) h lv (.int (ax_fu op x) :: st) P) : Wp0 sb dC dI dA sp H0 l ρ0 ad rf sh M pc h lv (.int x :: st) P := by
  intro p e R s m args below meth c Q nc ns hX hN hG H locs ls z1 z2 z3 z4
  have KK := K p e R s m args below meth c Q nc ns hX hN hG H locs ls z1 z2 z3 z4
  obtain ⟨hx, hb, -⟩ := id hX
  match op, ho2 with
  | 0, _ => cases ins <;> first | (exact absurd ho (Nat.ne_of_beq_eq_false rfl)) | (subst hlen; exact lv_i2b hx hb hdg rfl KK)
  | 1, _ => cases ins <;> first | (exact absurd ho (Nat.ne_of_beq_eq_false rfl)) | (subst hlen; exact lv_i2s hx hb hdg rfl KK)
  | 2, _ => cases ins <;> first | (exact absurd ho (Nat.ne_of_beq_eq_false rfl)) | (subst hlen; exact lv_i2c hx hb hdg rfl KK)
  | 3, _ => cases ins <;> first | (exact absurd ho (Nat.ne_of_beq_eq_false rfl)) | (subst hlen; exact lv_ineg hx hb hdg KK)
  | n + 4, hn => exact absurd hn (by omega)
theorem w0_i2l {x : Int32} (hdg : decode M.2.1 pc = .ok (ins, len)) (hlen : len = ax_len ins) (ho : ax_op ins = 48) (K : Wp0 sb dC dI dA sp H0 l ρ0 ad rf sh M (pc + len) h lv (.long x.toInt64 :: st) P) : Wp0 sb dC dI dA sp H0 l ρ0 ad rf sh M pc h lv (.int x :: st) P := by
  intro p e R s m args below meth c Q nc ns hX hN hG H locs ls z1 z2 z3 z4
  have KK := K p e R s m args below meth c Q nc ns hX hN hG H locs ls z1 z2 z3 z4
  obtain ⟨hx, hb, -⟩ := id hX
  cases ins <;> first | (exact absurd ho (Nat.ne_of_beq_eq_false rfl)) | (subst hlen; exact lv_i2l hx hb hdg rfl KK)
theorem w0_l2i {x : Int64} (hdg : decode M.2.1 pc = .ok (ins, len)) (hlen : len = ax_len ins) (ho : ax_op ins = 49) (K : Wp0 sb dC dI dA sp H0 l ρ0 ad rf sh M (pc + len) h lv (.int x.toInt32 :: st) P) : Wp0 sb dC dI dA sp H0 l ρ0 ad rf sh M pc h lv (.long x :: st) P := by
  intro p e R s m args below meth c Q nc ns hX hN hG H locs ls z1 z2 z3 z4
  have KK := K p e R s m args below meth c Q nc ns hX hN hG H locs ls z1 z2 z3 z4
  obtain ⟨hx, hb, -⟩ := id hX
  cases ins <;> first | (exact absurd ho (Nat.ne_of_beq_eq_false rfl)) | (subst hlen; exact lv_l2i hx hb hdg rfl KK)
theorem w0_dup {V : Value} (hdg : decode M.2.1 pc = .ok (ins, len)) (hlen : len = ax_len ins) (ho : ax_op ins = 50) (hc : V.category = 1) (K : Wp0 sb dC dI dA sp H0 l ρ0 ad rf sh M (pc + len) h lv (V :: V :: st) P) : Wp0 sb dC dI dA sp H0 l ρ0 ad rf sh M pc h lv (V :: st) P := by
  intro p e R s m args below meth c Q nc ns hX hN hG H locs ls z1 z2 z3 z4
  have KK := K p e R s m args below meth c Q nc ns hX hN hG H locs ls z1 z2 z3 z4
  obtain ⟨hx, hb, -⟩ := id hX
  cases ins <;> first | (exact absurd ho (Nat.ne_of_beq_eq_false rfl)) | (subst hlen; exact lv_dup hx hb hdg hc KK)
theorem w0_dup2a {V : Value} (hdg : decode M.2.1 pc = .ok (ins, len)) (hlen : len = ax_len ins) (ho : ax_op ins = 51) (hc : V.category = 2) (K : Wp0 sb dC dI dA sp H0 l ρ0 ad rf sh M (pc + len) h lv (V :: V :: st) P) : Wp0 sb dC dI dA sp H0 l ρ0 ad rf sh M pc h lv (V :: st) P := by
  intro p e R s m args below meth c Q nc ns hX hN hG H locs ls z1 z2 z3 z4
  have KK := K p e R s m args below meth c Q nc ns hX hN hG H locs ls z1 z2 z3 z4
  obtain ⟨hx, hb, -⟩ := id hX
  cases ins <;> first | (exact absurd ho (Nat.ne_of_beq_eq_false rfl)) | (subst hlen; exact lv_dup2_2 hx hb hdg hc KK)
theorem w0_dup2b {V U : Value} (hdg : decode M.2.1 pc = .ok (ins, len)) (hlen : len = ax_len ins) (ho : ax_op ins = 51) (hc : V.category = 1) (hc2 : U.category = 1) (K : Wp0 sb dC dI dA sp H0 l ρ0 ad rf sh M (pc + len) h lv (V :: U :: V :: U :: st) P) : Wp0 sb dC dI dA sp H0 l ρ0 ad rf sh M pc h lv (V :: U :: st) P := by
  intro p e R s m args below meth c Q nc ns hX hN hG H locs ls z1 z2 z3 z4
  have KK := K p e R s m args below meth c Q nc ns hX hN hG H locs ls z1 z2 z3 z4
  obtain ⟨hx, hb, -⟩ := id hX
  cases ins <;> first | (exact absurd ho (Nat.ne_of_beq_eq_false rfl)) | (subst hlen; exact lv_dup2_11 hx hb hdg hc hc2 KK)
theorem w0_pop {V : Value} (hdg : decode M.2.1 pc = .ok (ins, len)) (hlen : len = ax_len ins) (ho : ax_op ins = 52) (hc : V.category = 1) (K : Wp0 sb dC dI dA sp H0 l ρ0 ad rf sh M (pc + len) h lv st P) : Wp0 sb dC dI dA sp H0 l ρ0 ad rf sh M pc h lv (V :: st) P := by
  intro p e R s m args below meth c Q nc ns hX hN hG H locs ls z1 z2 z3 z4
  have KK := K p e R s m args below meth c Q nc ns hX hN hG H locs ls z1 z2 z3 z4
  obtain ⟨hx, hb, -⟩ := id hX
  cases ins <;> first | (exact absurd ho (Nat.ne_of_beq_eq_false rfl)) | (subst hlen; exact lv_pop hx hb hdg hc KK)
theorem w0_pop2 {V : Value} (hdg : decode M.2.1 pc = .ok (ins, 1)) (ho : ax_op ins = 59) (hc : V.category = 2) (K : Wp0 sb dC dI dA sp H0 l ρ0 ad rf sh M (pc + 1) h lv st P) : Wp0 sb dC dI dA sp H0 l ρ0 ad rf sh M pc h lv (V :: st) P := by
  intro p e R s m args below meth c Q nc ns hX hN hG H locs ls z1 z2 z3 z4
  have KK := K p e R s m args below meth c Q nc ns hX hN hG H locs ls z1 z2 z3 z4
  obtain ⟨hx, hb, -⟩ := id hX
  cases ins <;> first | (exact absurd ho (Nat.ne_of_beq_eq_false rfl)) | exact lv_pop2_2 hx hb hdg hc KK
theorem w0_icmp {t k : Nat} {x y : Int32} (hdg : decode M.2.1 pc = .ok (ins, len)) (hlen : len = ax_len ins) (hlk : lok mt M pc ins (t :: k :: lk) = true) (ho : ax_op ins = 18) (KT : ax_cp k x y → Wp0 sb dC dI dA sp H0 l ρ0 ad rf sh M t h lv st P) (KF : ¬ ax_cp k x y → Wp0 sb dC dI dA sp H0 l ρ0 ad rf sh M (pc + len) h lv st P) : Wp0 sb dC dI dA sp H0 l ρ0 ad rf sh M pc h lv (.int y :: .int x :: st) P := by
  intro p e R s m args below meth c Q nc ns hX hN hG H locs ls z1 z2 z3 z4
  have K1 := fun z => KT z p e R s m args below meth c Q nc ns hX hN hG H locs ls z1 z2 z3 z4
  have K2 := fun z => KF z p e R s m args below meth c Q nc ns hX hN hG H locs ls z1 z2 z3 z4
  obtain ⟨hx, hb, -⟩ := id hX
  cases ins <;> first | (exact absurd ho (Nat.ne_of_beq_eq_false rfl)) | skip
  case if_icmp cc off =>
    subst hlen
    have w := bb_and (a := decide ((pc : Int) + off = (t : Int))) hlk
    have ht : (pc : Int) + off = (t : Int) := of_decide_eq_true w.1
    have hk : k = ax_cc cc := bb_eq w.2
    subst hk
    cases cc
    · exact lv_icmp_eq hx hb hdg ht K1 K2
    · exact lv_icmp_ne hx hb hdg ht K1 (fun q => K2 (fun z => z q))
    · exact lv_icmp_lt hx hb hdg ht K1 K2
    · exact lv_icmp_ge hx hb hdg ht K1 K2
    · exact lv_icmp_gt hx hb hdg ht K1 K2
    · exact lv_icmp_le hx hb hdg ht K1 K2
theorem w0_ifc {t k : Nat} {x : Int32} (hdg : decode M.2.1 pc = .ok (ins, len)) (hlen : len = ax_len ins) (hlk : lok mt M pc ins (t :: k :: lk) = true) (ho : ax_op ins = 19) (KT : ax_cp k x 0 → Wp0 sb dC dI dA sp H0 l ρ0 ad rf sh M t h lv st P) (KF : ¬ ax_cp k x 0 → Wp0 sb dC dI dA sp H0 l ρ0 ad rf sh M (pc + len) h lv st P) : Wp0 sb dC dI dA sp H0 l ρ0 ad rf sh M pc h lv (.int x :: st) P := by
  intro p e R s m args below meth c Q nc ns hX hN hG H locs ls z1 z2 z3 z4
  have K1 := fun z => KT z p e R s m args below meth c Q nc ns hX hN hG H locs ls z1 z2 z3 z4
  have K2 := fun z => KF z p e R s m args below meth c Q nc ns hX hN hG H locs ls z1 z2 z3 z4
  obtain ⟨hx, hb, -⟩ := id hX
  cases ins <;> first | (exact absurd ho (Nat.ne_of_beq_eq_false rfl)) | skip
  case ifCond cc off =>
    subst hlen
    have w := bb_and (a := decide ((pc : Int) + off = (t : Int))) hlk
    have ht : (pc : Int) + off = (t : Int) := of_decide_eq_true w.1
    have hk : k = ax_cc cc := bb_eq w.2
    subst hk
    cases cc
    · exact lv_if_eq hx hb hdg ht K1 K2
    · exact lv_if_ne hx hb hdg ht K1 (fun q => K2 (fun z => z q))
    · exact lv_if_lt hx hb hdg ht K1 K2
    · exact lv_if_ge hx hb hdg ht K1 K2
    · exact lv_if_gt hx hb hdg ht K1 K2
    · exact lv_if_le hx hb hdg ht K1 K2
theorem w0_goto {t : Nat} (hdg : decode M.2.1 pc = .ok (ins, len)) (hlen : len = ax_len ins) (hlk : lok mt M pc ins (t :: lk) = true) (ho : ax_op ins = 20) (K : Wp0 sb dC dI dA sp H0 l ρ0 ad rf sh M t h lv st P) : Wp0 sb dC dI dA sp H0 l ρ0 ad rf sh M pc h lv st P := by
  intro p e R s m args below meth c Q nc ns hX hN hG H locs ls z1 z2 z3 z4
  have KK := K p e R s m args below meth c Q nc ns hX hN hG H locs ls z1 z2 z3 z4
  obtain ⟨hx, hb, -⟩ := id hX
  cases ins <;> first | (exact absurd ho (Nat.ne_of_beq_eq_false rfl)) | skip
  case goto off =>
    subst hlen
    exact lv_goto hx hb hdg (of_decide_eq_true hlk) KK
end WPT
end
section
/-! 24.wph -/
/-! THE MACHINE BY STEPS, 2: the heap, switches, calls -/
section WPT
variable {sb : Nat → List Nat} {mt : Nat → Nat → Option MR} {dC : Nat → ClassId} {dI : Nat → Nat → Nat} {dA : Nat → ClassId} {sp : Nat → Nat} {H0 : Heap} {l : Launch} {ρ0 : List Nat} {ad : Nat → Nat} {rf : Nat → Nat → Option Nat} {sh : SHP}
variable {M : MR} {pc len : Nat} {ins : Instr} {lk : List Nat} {h : PH} {lv : LVs} {st : List Value} {P P' : PO}
theorem w0_getf {ci k c0 n : Nat} {fs : List (Nat × Nat)} {f : Nat × Nat} (hdg : decode M.2.1 pc = .ok (ins, len)) (hlen : len = ax_len ins) (hlk : lok mt M pc ins (ci :: k :: lk) = true) (ho : ax_op ins = 8) (hsh : sh[c0]? = some (ci, n, fs)) (hci : ci < 100) (hf : fs[k]? = some f) (K : Wp0 sb dC dI dA sp H0 l ρ0 ad rf sh M (pc + len) h lv (pf ad (h c0) k f :: st) P) : Wp0 sb dC dI dA sp H0 l ρ0 ad rf sh M pc h lv (.ref (ad c0) :: st) P := by
  intro p e R s m args below meth c Q nc ns hX hN hG H locs ls z1 z2 z3 z4
  have KK := K p e R s m args below meth c Q nc ns hX hN hG H locs ls z1 z2 z3 z4
  obtain ⟨hx, hb, hml, hown, hts, hK, hlocks, hrt, hin, hRoom, hO⟩ := id hX
  cases ins <;> first | (exact absurd ho (Nat.ne_of_beq_eq_false rfl)) | skip
  case getfield idx =>
    subst hlen
    match lk, hlk with
    | c1 :: j1 :: _, hlk =>
      have hl : (bif Nat.beq ci 200 then (bif Nat.beq k 0 then wdq c1 j1 (.fieldLink M.1.cls idx sSTR "value" "[B") else wdq c1 j1 (.fieldLink M.1.cls idx sSTR "coder" "B")) else (match vwCl[ci]? with
        | some q => Nat.blt k q.2.2 && wdq c1 j1 (.fieldLink M.1.cls idx (q.2.1 k).1 (q.2.1 k).2.1 (q.2.1 k).2.2.1)
        | none => false)) = true := hlk
      rw [show Nat.beq ci 200 = false from bb_nb (by omega)] at hl
      have hl2 : (match vwCl[ci]? with | some q => Nat.blt k q.2.2 && wdq c1 j1 (.fieldLink M.1.cls idx (q.2.1 k).1 (q.2.1 k).2.1 (q.2.1 k).2.2.1) | none => false) = true := hl
      cases hq : vwCl[ci]? with
      | none => rw [hq] at hl2; cases hl2
      | some q =>
        rw [hq] at hl2
        have u := bb_and (a := Nat.blt k q.2.2) hl2
        have hvw := vw_ok ci q hq
        have hw := mkW_get (dA := dA) (ad := ad) (rf := rf) (h := h) hsh
        rw [mkE_o hci] at hw
        exact va_get (D := (dC, dI)) (ci := ci) (v := pf ad (h c0) k f) (C := q.1) (T := q.2.1) (N := q.2.2) hx hb hts hvw.1 hown hK z1 c0 hw hq k (bb_lt u.1) (hts _ (wdq_in u.2)) (fun _ h9 => h9) (by rw [List.getElem?_mapIdx, hf]; rfl) hdg KK
/-- of an old String -/
theorem w0_getS {k x : Nat} (hdg : decode M.2.1 pc = .ok (ins, len)) (hlen : len = ax_len ins) (hlk : lok mt M pc ins (200 :: k :: lk) = true) (ho : ax_op ins = 8) (hxs : x = 1 ∨ x = 3) (K : Wp0 sb dC dI dA sp H0 l ρ0 ad rf sh M (pc + len) h lv ((if k = 0 then .ref (sp (x + 1)) else .int 0) :: st) P) : Wp0 sb dC dI dA sp H0 l ρ0 ad rf sh M pc h lv (.ref (sp x) :: st) P := by
  intro p e R s m args below meth c Q nc ns hX hN hG H locs ls z1 z2 z3 z4
  have KK := K p e R s m args below meth c Q nc ns hX hN hG H locs ls z1 z2 z3 z4
  obtain ⟨hx, hb, hml, hown, hts, hK, hlocks, hrt, hin, hRoom, hO⟩ := id hX
  cases ins <;> first | (exact absurd ho (Nat.ne_of_beq_eq_false rfl)) | skip
  case getfield idx =>
    subst hlen
    match lk, hlk with
    | c1 :: j1 :: _, hlk =>
      have hl : (bif Nat.beq k 0 then wdq c1 j1 (.fieldLink M.1.cls idx sSTR "value" "[B") else wdq c1 j1 (.fieldLink M.1.cls idx sSTR "coder" "B")) = true := hlk
      have hso : SO sp sb H0 x s := by
        rcases hxs with rfl | rfl
        · exact hO.2.1
        · exact hO.2.2.1
      have hkp : ∀ a : Nat, a < H0.size → ¬ (aA H0) a → H[a]? = H0[a]? := fun a h1 h2 => z3.2.1 a h1 h2
      cases hk : Nat.beq k 0 with
      | true =>
        rw [hk] at hl
        rw [if_pos (bb_eq hk)] at KK
        obtain ⟨cf, k9, fi, f, cell, y1, y2, y3, y4, y5, y6⟩ := hso.2.2.1.kept hkp
        exact W.getf hx hb hown (hts _ (wdq_in hl)) y1 y2 y3 y4 (v := .ref (sp (x + 1))) y5 rfl rfl hdg KK
      | false =>
        rw [hk] at hl
        rw [if_neg (bb_ne hk)] at KK
        obtain ⟨cf, k9, fi, f, cell, y1, y2, y3, y4, y5, y6⟩ := hso.2.1.kept hkp
        exact W.getf hx hb hown (hts _ (wdq_in hl)) y1 y2 y3 y4 (v := .int 0) y5 rfl rfl hdg KK
theorem set_mapIdx {ad : Nat → Nat} {g g' : Nat → Int} {fs : List (Nat × Nat)} {k : Nat} {f : Nat × Nat} {V : Value} (hf : fs[k]? = some f) (hV : V = pf ad g' k f) (hg : ∀ j, j ≠ k → g' j = g j) : (fs.mapIdx (fun k f => pf ad g k f)).set k V = fs.mapIdx (fun k f => pf ad g' k f) := by
  apply List.ext_getElem?
  intro i
  have hl : k < (fs.mapIdx (fun k f => pf ad g k f)).length := by rw [List.length_mapIdx]; exact (List.getElem?_eq_some_iff.mp hf).1
  by_cases hi : i = k
  · subst hi
    rw [List.getElem?_set_self hl, List.getElem?_mapIdx, hf, hV]
    rfl
  · rw [List.getElem?_set_ne (fun z => hi z.symm), List.getElem?_mapIdx, List.getElem?_mapIdx]
    cases fs[i]? with
    | none => rfl
    | some r => rw [Option.map_some, Option.map_some]; unfold pf; rw [hg i hi]
/-- what may be put into a field by its type code: the value, its number -/
def fok (tc : Nat) (V : Value) (x : Int) : Prop := match tc with
  | 0 => ∃ y : Int32, V = .int y ∧ y.toInt = x
  | 1 => ∃ y : Int32, V = .int y ∧ y.toInt = x ∧ (x = 0 ∨ x = 1)
  | 2 => ∃ y : Int64, V = .long y ∧ y.toInt = x
  | _ => False
theorem w0_putf {ci k tc c0 n : Nat} {x : Int} {V : Value} {fs : List (Nat × Nat)} {f : Nat × Nat} (hdg : decode M.2.1 pc = .ok (ins, len)) (hlen : len = ax_len ins) (hlk : lok mt M pc ins (ci :: k :: tc :: lk) = true) (ho : ax_op ins = 9) (hsh : sh[c0]? = some (ci, n, fs)) (hci : ci < 100) (hf : fs[k]? = some f) (hft : (f.1 = 0 ∧ (tc = 0 ∨ tc = 1)) ∨ (f.1 = 1 ∧ tc = 2)) (hV : fok tc V x) (hni : M.1.name ≠ "<init>") (K : Wp0 sb dC dI dA sp H0 l ρ0 ad rf sh M (pc + len) (uph h c0 k x) lv st P) : Wp0 sb dC dI dA sp H0 l ρ0 ad rf sh M pc h lv (V :: .ref (ad c0) :: st) P := by
  intro p e R s m args below meth c Q nc ns hX hN hG H locs ls z1 z2 z3 z4
  have KK := fun H1 locs1 y1 y2 y3 => K p e R s m args below meth c Q nc ns hX hN hG H1 locs1 ls y1 y2 y3 z4
  obtain ⟨hx, hb, hml, hown, hts, hK, hlocks, hrt, hin, hRoom, hO⟩ := id hX
  cases ins <;> first | (exact absurd ho (Nat.ne_of_beq_eq_false rfl)) | skip
  case putfield idx =>
    subst hlen
    match lk, hlk with
    | c1 :: j1 :: _, hlk =>
      have hl : (match vwCl[ci]? with
        | some q => Nat.blt k q.2.2 && (wdq c1 j1 (.fieldLink M.1.cls idx (q.2.1 k).1 (q.2.1 k).2.1 (q.2.1 k).2.2.1) && (Nat.beq (ax_ty (q.2.1 k).2.2.1) tc && (!(q.2.1 k).2.2.2 || (decide (M.1.name = "<init>") && decide ((q.2.1 k).1 = M.1.cls)))))
        | none => false) = true := hlk
      cases hq : vwCl[ci]? with
      | none => rw [hq] at hl; cases hl
      | some q =>
        rw [hq] at hl
        have e1 := bb_and (a := Nat.blt k q.2.2) hl
        have e2 := bb_and e1.2
        have e3 := bb_and e2.2
        have e4 := bb_eq e3.1
        obtain ⟨hvw, ⟨ty0, hty⟩, hnm, -⟩ := vw_ok ci q hq
        have hfi : (q.2.1 k).2.2.2 = false := by
          cases hfq : (q.2.1 k).2.2.2 with
          | false => rfl
          | true =>
            rw [hfq] at e3
            exact absurd (of_decide_eq_true (bb_and (a := decide (M.1.name = "<init>")) e3.2).1) hni
        have TY : ∃ ty, parseFieldDescriptor (q.2.1 k).2.2.1 = some ty ∧ narrow ty V = V ∧ fits ty V = true := by
          unfold ax_ty at e4
          cases hp : parseFieldDescriptor (q.2.1 k).2.2.1 with
          | none => rw [hp] at e4; subst e4; exact hV.elim
          | some ty =>
            rw [hp] at e4
            refine ⟨ty, rfl, ?_⟩
            cases ty <;> (dsimp only at e4; subst e4) <;> first | exact hV.elim | skip
            case int => obtain ⟨y, rfl, -⟩ := hV; exact ⟨rfl, rfl⟩
            case long => obtain ⟨y, rfl, -⟩ := hV; exact ⟨rfl, rfl⟩
            case boolean =>
              obtain ⟨y, rfl, hy, hy2⟩ := hV
              have : y = 0 ∨ y = 1 := by
                rcases hy2 with z | z
                · exact Or.inl (Int32.toInt_inj.mp (by rw [hy, z]; rfl))
                · exact Or.inr (Int32.toInt_inj.mp (by rw [hy, z]; rfl))
              rcases this with rfl | rfl <;> exact ⟨by decide +kernel, by decide +kernel⟩
        obtain ⟨ty, t1, t2, t3⟩ := TY
        have hw := mkW_get (dA := dA) (ad := ad) (rf := rf) (h := h) hsh
        rw [mkE_o hci] at hw
        have hVp : V = pf ad (uph h c0 k x c0) k f := by
          unfold pf
          rw [uph_in]
          rcases hft with ⟨f1, g | g⟩ | ⟨f1, g⟩
          · subst g; rw [f1]; obtain ⟨y, rfl, rfl⟩ := hV; exact congrArg Value.int (Int32.ofInt_toInt _).symm
          · subst g; rw [f1]; obtain ⟨y, rfl, rfl, -⟩ := hV; exact congrArg Value.int (Int32.ofInt_toInt _).symm
          · subst g; rw [f1]; obtain ⟨y, rfl, rfl⟩ := hV; exact congrArg Value.long (Int64.ofInt_toInt _).symm
        have hset : (mkW dA ad rf sh h).set c0 (ad c0, .inr (ci, (fs.mapIdx (fun k f => pf ad (h c0) k f)).set k V)) = mkW dA ad rf sh (uph h c0 k x) := mkW_set hsh (by rw [mkE_o hci, set_mapIdx hf hVp (fun j hj => uph_ne h x (fun z => hj z.2))]) (fun c' hc' => funext (fun j => uph_ne h x (fun z => hc' z.1)))
        refine va_put (D := (dC, dI)) (ci := ci) (v := V) (ty := ty) (C := q.1) (T := q.2.1) (N := q.2.2) hx hb hts hvw ty0 hty hnm hown hK z1 z2 z3 c0 hw hq k (bb_lt e1.1) (hts _ (wdq_in e2.1)) (fun _ h9 => h9) hfi t1 t2 t3 (by rw [List.length_mapIdx]; exact (List.getElem?_eq_some_iff.mp hf).1) hdg ?_
        rw [hset]
        exact KK
theorem vp_i {i : Int32} {n : Nat} (h1 : 0 ≤ i.toInt) (h2 : i.toInt < n) : vp_in i n := fun q => by
  rcases q with q | q
  · rw [Int32.lt_iff_toInt_lt] at q
    have : (0 : Int32).toInt = 0 := rfl
    omega
  · have : i.toNatClampNeg = i.toInt.toNat := rfl
    omega
theorem w0_iald {c0 n : Nat} {fs : List (Nat × Nat)} {i : Int32} (hdg : decode M.2.1 pc = .ok (.iaload, 1)) (hsh : sh[c0]? = some (100, n, fs)) (h1 : 0 ≤ i.toInt) (h2 : i.toInt < n) (K : Wp0 sb dC dI dA sp H0 l ρ0 ad rf sh M (pc + 1) h lv (.int (Int32.ofInt (h c0 i.toInt.toNat)) :: st) P) : Wp0 sb dC dI dA sp H0 l ρ0 ad rf sh M pc h lv (.int i :: .ref (ad c0) :: st) P := by
  intro p e R s m args below meth c Q nc ns hX hN hG H locs ls z1 z2 z3 z4
  have KK := K p e R s m args below meth c Q nc ns hX hN hG H locs ls z1 z2 z3 z4
  obtain ⟨hx, hb, hml, hown, hts, hK, hlocks, hrt, hin, hRoom, hO⟩ := id hX
  have hw := mkW_get (dA := dA) (ad := ad) (rf := rf) (h := h) hsh
  rw [mkE_i (Or.inl rfl)] at hw
  exact va_iald hx hb hK z1 c0 0 hw rfl (vp_i h1 h2) hdg KK
theorem w0_bald {c0 n : Nat} {fs : List (Nat × Nat)} {i : Int32} (hdg : decode M.2.1 pc = .ok (.baload, 1)) (hsh : sh[c0]? = some (102, n, fs)) (h1 : 0 ≤ i.toInt) (h2 : i.toInt < n) (K : Wp0 sb dC dI dA sp H0 l ρ0 ad rf sh M (pc + 1) h lv (.int (Int32.ofInt (h c0 i.toInt.toNat)) :: st) P) : Wp0 sb dC dI dA sp H0 l ρ0 ad rf sh M pc h lv (.int i :: .ref (ad c0) :: st) P := by
  intro p e R s m args below meth c Q nc ns hX hN hG H locs ls z1 z2 z3 z4
  have KK := K p e R s m args below meth c Q nc ns hX hN hG H locs ls z1 z2 z3 z4
  obtain ⟨hx, hb, hml, hown, hts, hK, hlocks, hrt, hin, hRoom, hO⟩ := id hX
  have hw := mkW_get (dA := dA) (ad := ad) (rf := rf) (h := h) hsh
  rw [mkE_i (Or.inr rfl)] at hw
  exact va_bald hx hb hK z1 c0 2 hw rfl (vp_i h1 h2) hdg KK
theorem w0_lald {c0 n : Nat} {fs : List (Nat × Nat)} {i : Int32} (hdg : decode M.2.1 pc = .ok (.laload, 1)) (hsh : sh[c0]? = some (101, n, fs)) (h1 : 0 ≤ i.toInt) (h2 : i.toInt < n) (K : Wp0 sb dC dI dA sp H0 l ρ0 ad rf sh M (pc + 1) h lv (.long (Int64.ofInt (h c0 i.toInt.toNat)) :: st) P) : Wp0 sb dC dI dA sp H0 l ρ0 ad rf sh M pc h lv (.int i :: .ref (ad c0) :: st) P := by
  intro p e R s m args below meth c Q nc ns hX hN hG H locs ls z1 z2 z3 z4
  have KK := K p e R s m args below meth c Q nc ns hX hN hG H locs ls z1 z2 z3 z4
  obtain ⟨hx, hb, hml, hown, hts, hK, hlocks, hrt, hin, hRoom, hO⟩ := id hX
  have hw := mkW_get (dA := dA) (ad := ad) (rf := rf) (h := h) hsh
  rw [mkE_l] at hw
  exact va_lald hx hb hK z1 c0 1 hw rfl (vp_i h1 h2) hdg KK
theorem w0_aald {c0 n kd a : Nat} {fs : List (Nat × Nat)} {i : Int32} (hdg : decode M.2.1 pc = .ok (.aaload, 1)) (hsh : sh[c0]? = some (kd, n, fs)) (hk1 : 103 ≤ kd) (hk2 : kd ≤ 105) (h1 : 0 ≤ i.toInt) (h2 : i.toInt < n) (hr : rf c0 i.toInt.toNat = some a) (K : Wp0 sb dC dI dA sp H0 l ρ0 ad rf sh M (pc + 1) h lv (.ref a :: st) P) : Wp0 sb dC dI dA sp H0 l ρ0 ad rf sh M pc h lv (.int i :: .ref (ad c0) :: st) P := by
  intro p e R s m args below meth c Q nc ns hX hN hG H locs ls z1 z2 z3 z4
  have KK := K p e R s m args below meth c Q nc ns hX hN hG H locs ls z1 z2 z3 z4
  obtain ⟨hx, hb, hml, hown, hts, hK, hlocks, hrt, hin, hRoom, hO⟩ := id hX
  have hw := mkW_get (dA := dA) (ad := ad) (rf := rf) (h := h) hsh
  rw [mkE_r hk1] at hw
  have hv : va_rf (rf c0 i.toNatClampNeg) = .ref a := by rw [show i.toNatClampNeg = i.toInt.toNat from rfl, hr]; rfl
  rcases (show kd = 103 ∨ kd = 104 ∨ kd = 105 by omega) with rfl | rfl | rfl
  · exact va_aldq hx hb hK z1 c0 3 hw rfl (vp_i h1 h2) hdg (by rw [hv]; exact KK)
  · exact va_aldq hx hb hK z1 c0 4 hw rfl (vp_i h1 h2) hdg (by rw [hv]; exact KK)
  · exact va_aldq hx hb hK z1 c0 5 hw rfl (vp_i h1 h2) hdg (by rw [hv]; exact KK)
theorem w0_iast {c0 n : Nat} {fs : List (Nat × Nat)} {i x : Int32} (hdg : decode M.2.1 pc = .ok (.iastore, 1)) (hsh : sh[c0]? = some (100, n, fs)) (h1 : 0 ≤ i.toInt) (h2 : i.toInt < n) (K : Wp0 sb dC dI dA sp H0 l ρ0 ad rf sh M (pc + 1) (uph h c0 i.toInt.toNat x.toInt) lv st P) : Wp0 sb dC dI dA sp H0 l ρ0 ad rf sh M pc h lv (.int x :: .int i :: .ref (ad c0) :: st) P := by
  intro p e R s m args below meth c Q nc ns hX hN hG H locs ls z1 z2 z3 z4
  have KK := fun H1 locs1 y1 y2 y3 => K p e R s m args below meth c Q nc ns hX hN hG H1 locs1 ls y1 y2 y3 z4
  obtain ⟨hx, hb, hml, hown, hts, hK, hlocks, hrt, hin, hRoom, hO⟩ := id hX
  have hw := mkW_get (dA := dA) (ad := ad) (rf := rf) (h := h) hsh
  rw [mkE_i (Or.inl rfl)] at hw
  have hset : (mkW dA ad rf sh h).set c0 (ad c0, .inl (dA 100, n, .inl (upd (fun j => Int32.ofInt (h c0 j)) i.toNatClampNeg x))) = mkW dA ad rf sh (uph h c0 i.toInt.toNat x.toInt) := mkW_set hsh (by
    rw [mkE_i (Or.inl rfl)]
    congr 3
    congr 1
    funext j
    unfold upd
    by_cases hj : j = i.toNatClampNeg
    · rw [if_pos hj, hj, show i.toNatClampNeg = i.toInt.toNat from rfl, uph_in, Int32.ofInt_toInt]
    · rw [if_neg hj]; exact congrArg _ (uph_ne h (c' := c0) (k' := j) x.toInt (fun z => hj z.2)).symm) (fun c' hc' => funext (fun j => uph_ne h _ (fun z => hc' z.1)))
  refine va_iast hx hb hK z1 z2 z3 c0 0 hw rfl (vp_i h1 h2) hdg ?_
  rw [hset]
  exact KK
theorem nar_b {x : Int32} (h1 : -128 ≤ x.toInt) (h2 : x.toInt ≤ 127) : vp_nar .byte x = x := by
  show x.toInt8.toInt32 = x
  apply Int32.toInt_inj.mp
  rw [Int8.toInt_toInt32, Int32.toInt_toInt8, Int.bmod_def]
  omega
theorem w0_bast {c0 n : Nat} {fs : List (Nat × Nat)} {i x : Int32} (hdg : decode M.2.1 pc = .ok (.bastore, 1)) (hsh : sh[c0]? = some (102, n, fs)) (h1 : 0 ≤ i.toInt) (h2 : i.toInt < n) (h3 : -128 ≤ x.toInt) (h4 : x.toInt ≤ 127) (K : Wp0 sb dC dI dA sp H0 l ρ0 ad rf sh M (pc + 1) (uph h c0 i.toInt.toNat x.toInt) lv st P) : Wp0 sb dC dI dA sp H0 l ρ0 ad rf sh M pc h lv (.int x :: .int i :: .ref (ad c0) :: st) P := by
  intro p e R s m args below meth c Q nc ns hX hN hG H locs ls z1 z2 z3 z4
  have KK := fun H1 locs1 y1 y2 y3 => K p e R s m args below meth c Q nc ns hX hN hG H1 locs1 ls y1 y2 y3 z4
  obtain ⟨hx, hb, hml, hown, hts, hK, hlocks, hrt, hin, hRoom, hO⟩ := id hX
  have hw := mkW_get (dA := dA) (ad := ad) (rf := rf) (h := h) hsh
  rw [mkE_i (Or.inr rfl)] at hw
  have hset : (mkW dA ad rf sh h).set c0 (ad c0, .inl (dA 102, n, .inl (upd (fun j => Int32.ofInt (h c0 j)) i.toNatClampNeg (vp_nar .byte x)))) = mkW dA ad rf sh (uph h c0 i.toInt.toNat x.toInt) := mkW_set hsh (by
    rw [mkE_i (Or.inr rfl), nar_b h3 h4]
    congr 3
    congr 1
    funext j
    unfold upd
    by_cases hj : j = i.toNatClampNeg
    · rw [if_pos hj, hj, show i.toNatClampNeg = i.toInt.toNat from rfl, uph_in, Int32.ofInt_toInt]
    · rw [if_neg hj]; exact congrArg _ (uph_ne h (c' := c0) (k' := j) x.toInt (fun z => hj z.2)).symm) (fun c' hc' => funext (fun j => uph_ne h _ (fun z => hc' z.1)))
  refine va_bast hx hb hK z1 z2 z3 c0 2 hw rfl (vp_i h1 h2) hdg ?_
  rw [hset]
  exact KK
theorem w0_last {c0 n : Nat} {fs : List (Nat × Nat)} {i : Int32} {x : Int64} (hdg : decode M.2.1 pc = .ok (.lastore, 1)) (hsh : sh[c0]? = some (101, n, fs)) (h1 : 0 ≤ i.toInt) (h2 : i.toInt < n) (K : Wp0 sb dC dI dA sp H0 l ρ0 ad rf sh M (pc + 1) (uph h c0 i.toInt.toNat x.toInt) lv st P) : Wp0 sb dC dI dA sp H0 l ρ0 ad rf sh M pc h lv (.long x :: .int i :: .ref (ad c0) :: st) P := by
  intro p e R s m args below meth c Q nc ns hX hN hG H locs ls z1 z2 z3 z4
  have KK := fun H1 locs1 y1 y2 y3 => K p e R s m args below meth c Q nc ns hX hN hG H1 locs1 ls y1 y2 y3 z4
  obtain ⟨hx, hb, hml, hown, hts, hK, hlocks, hrt, hin, hRoom, hO⟩ := id hX
  have hw := mkW_get (dA := dA) (ad := ad) (rf := rf) (h := h) hsh
  rw [mkE_l] at hw
  have hset : (mkW dA ad rf sh h).set c0 (ad c0, .inl (dA 101, n, .inr (.inl (vp_updL (fun j => Int64.ofInt (h c0 j)) i.toNatClampNeg x)))) = mkW dA ad rf sh (uph h c0 i.toInt.toNat x.toInt) := mkW_set hsh (by
    rw [mkE_l]
    congr 5
    funext j
    unfold vp_updL
    by_cases hj : j = i.toNatClampNeg
    · rw [if_pos hj, hj, show i.toNatClampNeg = i.toInt.toNat from rfl, uph_in, Int64.ofInt_toInt]
    · rw [if_neg hj]; exact congrArg _ (uph_ne h (c' := c0) (k' := j) x.toInt (fun z => hj z.2)).symm) (fun c' hc' => funext (fun j => uph_ne h _ (fun z => hc' z.1)))
  refine va_last hx hb hK z1 z2 z3 c0 1 hw rfl (vp_i h1 h2) hdg ?_
  rw [hset]
  exact KK
theorem w0_alen {c0 n kd : Nat} {fs : List (Nat × Nat)} (hdg : decode M.2.1 pc = .ok (.arraylength, 1)) (hsh : sh[c0]? = some (kd, n, fs)) (hk1 : 100 ≤ kd) (hk2 : kd ≤ 105) (K : Wp0 sb dC dI dA sp H0 l ρ0 ad rf sh M (pc + 1) h lv (.int (nI n) :: st) P) : Wp0 sb dC dI dA sp H0 l ρ0 ad rf sh M pc h lv (.ref (ad c0) :: st) P := by
  intro p e R s m args below meth c Q nc ns hX hN hG H locs ls z1 z2 z3 z4
  have KK := K p e R s m args below meth c Q nc ns hX hN hG H locs ls z1 z2 z3 z4
  obtain ⟨hx, hb, hml, hown, hts, hK, hlocks, hrt, hin, hRoom, hO⟩ := id hX
  have hw := mkW_get (dA := dA) (ad := ad) (rf := rf) (h := h) hsh
  rcases (show kd = 100 ∨ kd = 101 ∨ kd = 102 ∨ kd = 103 ∨ kd = 104 ∨ kd = 105 by omega) with rfl | rfl | rfl | rfl | rfl | rfl
  · rw [mkE_i (Or.inl rfl)] at hw; exact va_alen hx hb hK z1 c0 0 hw rfl rfl hdg KK
  · rw [mkE_l] at hw; exact va_alen hx hb hK z1 c0 1 hw rfl rfl hdg KK
  · rw [mkE_i (Or.inr rfl)] at hw; exact va_alen hx hb hK z1 c0 2 hw rfl rfl hdg KK
  · rw [mkE_r (by omega)] at hw; exact va_alen hx hb hK z1 c0 3 hw rfl rfl hdg KK
  · rw [mkE_r (by omega)] at hw; exact va_alen hx hb hK z1 c0 4 hw rfl rfl hdg KK
  · rw [mkE_r (by omega)] at hw; exact va_alen hx hb hK z1 c0 5 hw rfl rfl hdg KK
/-- the law's script: its length, its ints -/
theorem w0_slen {L : Nat} (hdg : decode M.2.1 pc = .ok (.arraylength, 1)) (hL : ρ0[6]? = some (L + 9223372036854775808)) (K : Wp0 sb dC dI dA sp H0 l ρ0 ad rf sh M (pc + 1) h lv (.int (nI L) :: st) P) : Wp0 sb dC dI dA sp H0 l ρ0 ad rf sh M pc h lv (.ref (sp 0) :: st) P := by
  intro p e R s m args below meth c Q nc ns hX hN hG H locs ls z1 z2 z3 z4
  have KK := K p e R s m args below meth c Q nc ns hX hN hG H locs ls z1 z2 z3 z4
  obtain ⟨hx, hb, hml, hown, hts, hK, hlocks, hrt, hin, hRoom, hO⟩ := id hX
  obtain ⟨⟨L', xs, x1, x2, x3, x4, x5, x6⟩, -⟩ := hO
  have e : L' = L := by rw [hL] at x4; have := Option.some.inj x4; omega
  subst e
  exact va_slen hx hb x1 x2 (Nat.not_le.mpr x2) z3 hdg KK
theorem w0_sld {L : Nat} {i : Int32} (hdg : decode M.2.1 pc = .ok (.iaload, 1)) (hL : ρ0[6]? = some (L + 9223372036854775808)) (h1 : 0 ≤ i.toInt) (h2 : i.toInt < L) (K : Wp0 sb dC dI dA sp H0 l ρ0 ad rf sh M (pc + 1) h lv (.int (Int32.ofInt ((sp (1000 + i.toInt.toNat) : Int) - 9223372036854775808)) :: st) P) : Wp0 sb dC dI dA sp H0 l ρ0 ad rf sh M pc h lv (.int i :: .ref (sp 0) :: st) P := by
  intro p e R s m args below meth c Q nc ns hX hN hG H locs ls z1 z2 z3 z4
  have KK := K p e R s m args below meth c Q nc ns hX hN hG H locs ls z1 z2 z3 z4
  obtain ⟨hx, hb, hml, hown, hts, hK, hlocks, hrt, hin, hRoom, hO⟩ := id hX
  obtain ⟨⟨L', xs, x1, x2, x3, x4, x5, x6⟩, -⟩ := hO
  have e : L' = L := by rw [hL] at x4; have := Option.some.inj x4; omega
  subst e
  have hv : Int32.ofInt ((sp (1000 + i.toInt.toNat) : Int) - 9223372036854775808) = xs i.toNatClampNeg := by
    rw [x6 _ (by omega), zI_cast, show i.toNatClampNeg = i.toInt.toNat from rfl, Int.add_sub_cancel, Int32.ofInt_toInt]
  rw [hv] at KK
  exact va_sld hx hb x1 x2 (Nat.not_le.mpr x2) z3 (vp_i h1 h2) hdg KK
/-- the bytes of an old String -/
theorem so_of {s : State} (hO : OX sp sb H0 ρ0 s) {x : Nat} (hx : x = 2 ∨ x = 4) : ∃ y, x = y + 1 ∧ SO sp sb H0 y s := by
  rcases hx with rfl | rfl
  · exact ⟨1, rfl, hO.2.1⟩
  · exact ⟨3, rfl, hO.2.2.1⟩
theorem w0_tlen {x : Nat} (hdg : decode M.2.1 pc = .ok (.arraylength, 1)) (hx2 : x = 2 ∨ x = 4) (K : Wp0 sb dC dI dA sp H0 l ρ0 ad rf sh M (pc + 1) h lv (.int (nI (sb x).length) :: st) P) : Wp0 sb dC dI dA sp H0 l ρ0 ad rf sh M pc h lv (.ref (sp x) :: st) P := by
  intro p e R s m args below meth c Q nc ns hX hN hG H locs ls z1 z2 z3 z4
  have KK := K p e R s m args below meth c Q nc ns hX hN hG H locs ls z1 z2 z3 z4
  obtain ⟨hx, hb, hml, hown, hts, hK, hlocks, hrt, hin, hRoom, hO⟩ := id hX
  obtain ⟨y, ey, hso⟩ := so_of hO hx2
  have hT := hso.2.2.2.kept (fun a h1 h2 => z3.2.1 a h1 h2)
  rw [← ey] at hT
  obtain ⟨cell, y1, y2, y3, y4, y5, y6, y7⟩ := hT
  exact W.alen (n := nI (sb x).length) hx hb y1 y2 y5 rfl rfl hdg KK
theorem w0_tld {x n : Nat} {i : Int32} (hdg : decode M.2.1 pc = .ok (.baload, 1)) (hx2 : x = 2 ∨ x = 4) (h1 : 0 ≤ i.toInt) (hn : (sb x)[i.toInt.toNat]? = some n) (K : Wp0 sb dC dI dA sp H0 l ρ0 ad rf sh M (pc + 1) h lv (.int (nI n) :: st) P) : Wp0 sb dC dI dA sp H0 l ρ0 ad rf sh M pc h lv (.int i :: .ref (sp x) :: st) P := by
  intro p e R s m args below meth c Q nc ns hX hN hG H locs ls z1 z2 z3 z4
  have KK := K p e R s m args below meth c Q nc ns hX hN hG H locs ls z1 z2 z3 z4
  obtain ⟨hx, hb, hml, hown, hts, hK, hlocks, hrt, hin, hRoom, hO⟩ := id hX
  obtain ⟨y, ey, hso⟩ := so_of hO hx2
  have hT := hso.2.2.2.kept (fun a h1 h2 => z3.2.1 a h1 h2)
  rw [← ey] at hT
  obtain ⟨cell, y1, y2, y3, y4, y5, y6, y7⟩ := hT
  have hlt : i.toInt.toNat < (sb x).length := (List.getElem?_eq_some_iff.mp hn).1
  have hcl : i.toNatClampNeg = i.toInt.toNat := rfl
  exact W.bald (v := .int (nI n)) hx hb y1 y2 y3 (fun q => q.elim (fun q => by rw [Int32.lt_iff_toInt_lt] at q; have : (0 : Int32).toInt = 0 := rfl; omega) (fun q => by rw [hcl] at q; omega)) (by rw [hcl, y6 _ hlt]; show some (Value.int (nI ((sb x).getD i.toInt.toNat 0))) = _; rw [List.getD_eq_getElem?_getD, hn]; rfl) rfl rfl hdg KK
theorem w0_gets {x : Nat} (hdg : decode M.2.1 pc = .ok (ins, len)) (hlen : len = ax_len ins) (hlk : lok mt M pc ins (x :: lk) = true) (ho : ax_op ins = 56) (K1 : x = 0 → Wp0 sb dC dI dA sp H0 l ρ0 ad rf sh M (pc + len) h lv (.int 1 :: st) P) (K2 : x ≠ 0 → Wp0 sb dC dI dA sp H0 l ρ0 ad rf sh M (pc + len) h lv (vq sp :: st) P) : Wp0 sb dC dI dA sp H0 l ρ0 ad rf sh M pc h lv st P := by
  intro p e R s m args below meth c Q nc ns hX hN hG H locs ls z1 z2 z3 z4
  have KK1 := fun z => K1 z p e R s m args below meth c Q nc ns hX hN hG H locs ls z1 z2 z3 z4
  have KK2 := fun z => K2 z p e R s m args below meth c Q nc ns hX hN hG H locs ls z1 z2 z3 z4
  obtain ⟨hx, hb, hml, hown, hts, hK, hlocks, hrt, hin, hRoom, hO⟩ := id hX
  cases ins <;> first | (exact absurd ho (Nat.ne_of_beq_eq_false rfl)) | skip
  case getstatic idx =>
    subst hlen
    match lk, hlk with
    | c1 :: j1 :: _, hlk =>
      have hl : (bif Nat.beq x 0 then wdq c1 j1 (.fieldLink M.1.cls idx sSTR "COMPACT_STRINGS" "Z") else wdq c1 j1 (.fieldLink M.1.cls idx sPRE "SIOOBE_FORMATTER" "Ljava/util/function/BiFunction;")) = true := hlk
      have hkp : ∀ a : Nat, a < H0.size → ¬ (aA H0) a → H[a]? = H0[a]? := fun a h1 h2 => z3.2.1 a h1 h2
      have GS : ∀ (C n d : String) (v : Value), va_Z C n d v (aA H0) s H0 → (Cond.fieldLink M.1.cls idx C n d).before args s = true → W p l e R s m args below meth c H locs nc ns Q (F0 m (pc + 3) ls (v :: st)) → W p l e R s m args below meth c H locs nc ns Q (F0 m pc ls st) := fun C n d v hZ hli KK => by
        obtain ⟨cf, kf, fi, f, a, cell, h1, h2, h3, h4, h5, h6, h7, h8⟩ := hZ.kept hkp
        exact W.gets hx hb hown hli h1 h2 h3 h4 h5 (fun e => by rw [e] at h6; cases h6) h7 rfl hdg KK
      cases hx0 : Nat.beq x 0 with
      | true =>
        rw [hx0] at hl
        exact GS _ _ _ _ hO.2.2.2.2.2.1 (hts _ (wdq_in hl)) (KK1 (bb_eq hx0))
      | false =>
        rw [hx0] at hl
        exact GS _ _ _ _ hO.2.2.2.2.2.2.1 (hts _ (wdq_in hl)) (KK2 (bb_ne hx0))
theorem w0_table {d lo hi : Nat} {ks : List Nat} {x : Int32} (hdg : decode M.2.1 pc = .ok (ins, len)) (hlk : lok mt M pc ins (d :: lo :: hi :: ks) = true) (ho : ax_op ins = 57) (KD : x.toInt < (nI lo).toInt ∨ (nI hi).toInt < x.toInt → Wp0 sb dC dI dA sp H0 l ρ0 ad rf sh M d h lv st P) (KK : ∀ k t, ax_pr k t ks → x = nI k → Wp0 sb dC dI dA sp H0 l ρ0 ad rf sh M t h lv st P) : Wp0 sb dC dI dA sp H0 l ρ0 ad rf sh M pc h lv (.int x :: st) P := by
  intro p e R s m args below meth c Q nc ns hX hN hG H locs ls z1 z2 z3 z4
  have K1 := fun z => KD z p e R s m args below meth c Q nc ns hX hN hG H locs ls z1 z2 z3 z4
  have K2 := fun k t z y => KK k t z y p e R s m args below meth c Q nc ns hX hN hG H locs ls z1 z2 z3 z4
  obtain ⟨hx, hb, -⟩ := id hX
  cases ins <;> first | (exact absurd ho (Nat.ne_of_beq_eq_false rfl)) | skip
  case tableswitch d0 lo0 hi0 offs =>
    have hl : (decide ((pc : Int) + d0 = (d : Int)) && (decide ((nI lo).toInt = lo0) && (decide ((nI hi).toInt = hi0) && (Nat.blt lo 4294967296 && (Nat.blt hi 4294967296 && (ax_sk (fun k t => Nat.blt k 4294967296 && match offs[((nI k).toInt - lo0).toNat]? with
        | some o => decide ((pc : Int) + o = (t : Int)) && (decide (lo0 ≤ (nI k).toInt) && decide ((nI k).toInt ≤ hi0))
        | none => false) ks && (List.range (hi0 - lo0 + 1).toNat).all (fun i => ax_key ((lo0 + i).toNat) ks && decide (0 ≤ lo0)))))))) = true := hlk
    have u1 := bb_and hl
    have u2 := bb_and u1.2
    have u3 := bb_and u2.2
    have u4 := bb_and u3.2
    have u5 := bb_and u4.2
    have u6 := bb_and u5.2
    have hd : (pc : Int) + d0 = (d : Int) := of_decide_eq_true u1.1
    have hlo : (nI lo).toInt = lo0 := of_decide_eq_true u2.1
    have hhi : (nI hi).toInt = hi0 := of_decide_eq_true u3.1
    by_cases c1 : x.toInt < lo0 ∨ hi0 < x.toInt
    · exact lv_tableOut hx hb hdg c1 hd (K1 (by rw [hlo, hhi]; exact c1))
    · have hr := i32_rng x
      have z := List.all_eq_true.mp u6.2 (x.toInt - lo0).toNat (List.mem_range.mpr (by omega))
      have z2 := bb_and (a := ax_key ((lo0 + ((x.toInt - lo0).toNat : Nat)).toNat) ks) z
      have z3 : 0 ≤ lo0 := of_decide_eq_true z2.2
      obtain ⟨t, hp⟩ := ax_key_pr ks z2.1
      have hxk : x = nI (lo0 + ((x.toInt - lo0).toNat : Nat)).toNat := by
        apply Int32.toInt_inj.mp
        rw [nI_toInt (by omega)]
        omega
      have y := ax_sk_pr ks u6.1 hp
      have y2 := (bb_and (a := Nat.blt _ 4294967296) y).2
      rw [← hxk] at y2
      cases ho2 : offs[(x.toInt - lo0).toNat]? with
      | none => rw [ho2] at y2; cases y2
      | some off =>
        rw [ho2] at y2
        have y3 := bb_and (a := decide ((pc : Int) + off = (t : Int))) y2
        exact lv_tableIn hx hb hdg (by omega) (by omega) ho2 (of_decide_eq_true y3.1) (K2 _ t hp hxk)
theorem w0_look {d : Nat} {ks : List Nat} {x : Int32} (hdg : decode M.2.1 pc = .ok (ins, len)) (hlk : lok mt M pc ins (d :: ks) = true) (ho : ax_op ins = 58) (KD : (∀ k t, ax_pr k t ks → x ≠ nI k) → Wp0 sb dC dI dA sp H0 l ρ0 ad rf sh M d h lv st P) (KK : ∀ k t, ax_pr k t ks → x = nI k → Wp0 sb dC dI dA sp H0 l ρ0 ad rf sh M t h lv st P) : Wp0 sb dC dI dA sp H0 l ρ0 ad rf sh M pc h lv (.int x :: st) P := by
  intro p e R s m args below meth c Q nc ns hX hN hG H locs ls z1 z2 z3 z4
  have K1 := fun z => KD z p e R s m args below meth c Q nc ns hX hN hG H locs ls z1 z2 z3 z4
  have K2 := fun k t z y => KK k t z y p e R s m args below meth c Q nc ns hX hN hG H locs ls z1 z2 z3 z4
  obtain ⟨hx, hb, -⟩ := id hX
  cases ins <;> first | (exact absurd ho (Nat.ne_of_beq_eq_false rfl)) | skip
  case lookupswitch d0 ps =>
    have hl : (decide ((pc : Int) + d0 = (d : Int)) && ((ps.toList.zip (ps.toList.drop 1)).all (fun (a, next) => a.1 < next.1) && (ax_sk (fun k t => Nat.blt k 4294967296 && decide ((pc : Int) + Op.lookupswitch.offset ps.toList d0 (nI k).toInt = (t : Int))) ks && ps.toList.all (fun p => decide (0 ≤ p.1 ∧ p.1 < 2147483648) && ax_key p.1.toNat ks)))) = true := hlk
    have u1 := bb_and hl
    have u2 := bb_and u1.2
    have u3 := bb_and u2.2
    have hd : (pc : Int) + d0 = (d : Int) := of_decide_eq_true u1.1
    by_cases c1 : ∃ k t, ax_pr k t ks ∧ x = nI k
    · obtain ⟨k, t, hp, hxk⟩ := c1
      have y := ax_sk_pr ks u3.1 hp
      have y2 := of_decide_eq_true (bb_and (a := Nat.blt k 4294967296) y).2
      rw [← hxk] at y2
      exact lv_lookup hx hb hdg u2.1 rfl y2 (K2 k t hp hxk)
    · have c2 : ∀ k t, ax_pr k t ks → x ≠ nI k := fun k t hp hxk => c1 ⟨k, t, hp, hxk⟩
      have ho2 : Op.lookupswitch.offset ps.toList d0 x.toInt = d0 := off_none _ (fun q hq hqx => by
        have y := List.all_eq_true.mp u3.2 q hq
        have y2 := bb_and (a := decide (0 ≤ q.1 ∧ q.1 < 2147483648)) y
        have y3 := of_decide_eq_true y2.1
        obtain ⟨t, hp⟩ := ax_key_pr ks y2.2
        refine c2 _ t hp ?_
        apply Int32.toInt_inj.mp
        rw [nI_toInt (by omega)]
        omega)
      exact lv_lookup hx hb hdg u2.1 rfl (by rw [ho2]; exact hd) (K1 c2)
end WPT
end
section
/-! 25.wpc -/
/-! THE MACHINE BY STEPS, 3: calls -/
section WPT
variable {sb : Nat → List Nat} {mt : Nat → Nat → Option MR} {dC : Nat → ClassId} {dI : Nat → Nat → Nat} {dA : Nat → ClassId} {sp : Nat → Nat} {H0 : Heap} {l : Launch} {ρ0 : List Nat} {ad : Nat → Nat} {rf : Nat → Nat → Option Nat} {sh : SHP}
variable {M : MR} {pc len : Nat} {ins : Instr} {lk : List Nat} {h : PH} {lv : LVs} {st : List Value} {P P' : PO}
/-- what may be given back -/
def rokc (ret : Option FieldType) (ins : Instr) (st : List Value) : Prop := match ins with
  | .ireturn => ∃ x : Int32, st = [.int x] ∧ (ret = some .int ∨ (ret = some .boolean ∧ (x.toInt = 0 ∨ x.toInt = 1)) ∨ (ret = some .byte ∧ (x.toInt = 0 ∨ x.toInt = 1)) ∨ (ret = some .char ∧ 0 ≤ x.toInt ∧ x.toInt ≤ 65535))
  | .lreturn => ∃ x : Int64, st = [.long x] ∧ ret = some .long
  | .areturn => ∃ a : Nat, st = [.ref a] ∧ ∃ n, ret = some (.object n)
  | .return_ => st = [] ∧ ret = none
  | _ => False
/-- an end that is a return -/
def Rt (C : MR) (P : PO) : Prop := ∀ pc' h' lv' st', P pc' h' lv' st' → ∃ ins, decode C.2.1 pc' = .ok (ins, 1) ∧ rokc C.2.2.2.1 ins st'
def cP2 (sb : Nat → List Nat) (dC : Nat → ClassId) (dI : Nat → Nat → Nat) (dA : Nat → ClassId) (sp : Nat → Nat) (H0 : Heap) (ρ0 : List Nat) (ad : Nat → Nat) (rf : Nat → Nat → Option Nat) (sh : SHP) (h : PH) (U : State) : Prop := va_P (dC, dI) vwCl (mkW dA ad rf sh h) U.heap ∧ va_D (aA H0) (mkW dA ad rf sh h) ∧ va_S (aA H0) H0 U.heap [] ∧ va_K (dC, dI) vwCl (ax_tys dA) U ∧ OX sp sb H0 ρ0 U
def cQ2 (dC : Nat → ClassId) (dI : Nat → Nat → Nat) (dA : Nat → ClassId) (H0 : Heap) (ad : Nat → Nat) (rf : Nat → Nat → Option Nat) (sh : SHP) (P : PO) : Array Value → State → Outcome → State → Prop := fun _ _ oc t => ∃ pc' h' lv' st', P pc' h' lv' st' ∧ va_P (dC, dI) vwCl (mkW dA ad rf sh h') t.heap ∧ va_D (aA H0) (mkW dA ad rf sh h') ∧ va_S (aA H0) H0 t.heap [] ∧ oc = .returned st'.head? ∧ st'.length ≤ 1
theorem cP2.blind {av : List Value} : FrameBlind (va_Pc av (cP2 sb dC dI dA sp H0 ρ0 ad rf sh h)) := fun a U g mk q => by
  obtain ⟨q0, q2, q3, q4, q5, q6⟩ := q
  exact ⟨q0, q2, q3, q4, va_K.moved (u := U) (U := U.calling g mk a) (Vm.Alike.refl U.vm) q5, OX.warm (U := U.calling g mk a) (State.WarmedH.refl U) (Sb.rf ρ0) q6⟩
theorem i01 {x : Int32} (h : x.toInt = 0 ∨ x.toInt = 1) : x = 0 ∨ x = 1 := by
  rcases h with z | z
  · exact Or.inl (Int32.toInt_inj.mp (by rw [z]; rfl))
  · exact Or.inr (Int32.toInt_inj.mp (by rw [z]; rfl))
set_option maxHeartbeats 1000000 in
theorem met_wp {C : MR} (hC : Mcw C) {av : List Value} (hwt : (av.map fun v => v.category).sum ≤ C.2.2.1) (hW : Wp0 sb dC dI dA sp H0 l ρ0 ad rf sh C 0 h (lv_args 0 av) [] P) (hR : Rt C P) :
    Met l C.1 (Cond.code C.1 C.2.1 C.2.2.1 C.2.2.2.1 :: GW) C.2.2.2.2.1 (va_Pc av (cP2 sb dC dI dA sp H0 ρ0 ad rf sh h)) (cQ2 dC dI dA H0 ad rf sh P) C.2.2.2.2.1.cells C.2.2.2.2.1.slots (aA H0) := by
  refine Met.ofW (cc := C.2.1) (maxL := C.2.2.1) (ret := C.2.2.2.1) hC.2 rfl ?_
  intro p e s m args below meth c s₁ B hml hv
  obtain ⟨rfl, q2, q3, q4, q5, q6⟩ := hv
  have hx := B.exec
  have hb := B.bytes
  have hrt := B.returns
  have hts := atoms_spec (ws := Cond.code C.1 C.2.1 C.2.2.1 C.2.2.2.1 :: GW) B.pre
  have hown : s.vm.findClass C.1.cls = some m.cls := findClass_of_methodNamed B.named
  have hlocks := B.notSynchronized
  have hin : meth.name = C.1.name := (name_of_methodNamed B.named B.method).1
  have hX : CX sb dC dI dA sp H0 ρ0 C p C.2.2.2.2.1 s m av.toArray meth c := ⟨hx, hb, hml, hown, fun w hw => hts w (List.mem_cons_of_mem _ hw), q5, hlocks, hrt, fun z => hin.trans z, rfl, q6⟩
  have hle : (lg_sl av).length ≤ C.2.2.1 := by rw [lg_len]; exact hwt
  have hl := lv_entry av hle
  rw [lg_entry_eq]
  generalize (lg_sl av ++ List.replicate (C.2.2.1 - (lg_sl av).length) Slot.unset).toArray = ls at hl ⊢
  refine hW p e C.2.2.2.2.1 s m av.toArray below meth c _ 0 0 hX ⟨Nat.zero_le _, Nat.zero_le _⟩ (fun pc' h' lv' st' hP => ?_) s.heap [] ls q2 q3 q4 hl
  intro H locs ls' z5 z6 z7 z8
  obtain ⟨ins, hdg, hrok⟩ := hR _ _ _ _ hP
  have QOK : ∀ t : State, t.heap = H → s.WarmedH t.vm → st'.length ≤ 1 → cQ2 dC dI dA H0 ad rf sh P av.toArray s (.returned st'.head?) t := fun t ht hW hl1 =>
    ⟨pc', h', lv', st', hP, by rw [ht]; exact z5, z6, by rw [ht]; exact ⟨z7.1, z7.2.1, fun _ h => by cases h⟩, rfl, hl1⟩
  refine W.widen (k := C.2.2.2.2.1.cells) (n := C.2.2.2.2.1.slots) (Nat.zero_le _) (Nat.zero_le _) ?_
  cases ins <;> first | exact hrok.elim | skip
  case ireturn =>
    obtain ⟨x, rfl, hty⟩ := hrok
    rcases hty with hty | ⟨hty, h01⟩ | ⟨hty, h01⟩ | ⟨hty, h1, h2⟩
    · rw [hty] at hrt
      exact W.iret hx hb hrt (fun t ht hW => QOK t ht hW (Nat.le_refl 1)) z7.2.2 hdg hlocks
    · rw [hty] at hrt
      exact W.zret hx hb hrt (by rcases i01 h01 with rfl | rfl <;> decide +kernel) (fun t ht hW => QOK t ht hW (Nat.le_refl 1)) z7.2.2 hdg hlocks
    · rw [hty] at hrt
      exact W.zret hx hb hrt (by rcases i01 h01 with rfl | rfl <;> decide +kernel) (fun t ht hW => QOK t ht hW (Nat.le_refl 1)) z7.2.2 hdg hlocks
    · rw [hty] at hrt
      have hxn : x = nI x.toInt.toNat := by
        apply Int32.toInt_inj.mp
        rw [nI_toInt (by omega)]
        omega
      exact W.zret hx hb hrt (by rw [hxn]; exact (pk_charN (by omega)).1) (fun t ht hW => QOK t ht hW (Nat.le_refl 1)) z7.2.2 hdg hlocks
  case lreturn =>
    obtain ⟨x, rfl, hty⟩ := hrok
    rw [hty] at hrt
    exact W.lret hx hb hrt (fun t ht hW => QOK t ht hW (Nat.le_refl 1)) z7.2.2 hdg hlocks
  case areturn =>
    obtain ⟨a, rfl, nm, hty⟩ := hrok
    rw [hty] at hrt
    exact W.aret hx hb hrt (Or.inl ⟨nm, rfl⟩) (Or.inr ⟨a, rfl⟩) (fun t ht hW => QOK t ht hW (Nat.le_refl 1)) z7.2.2 hdg hlocks
  case return_ =>
    obtain ⟨rfl, hty⟩ := hrok
    rw [hty] at hrt
    exact W.vret hx hb hrt (fun t ht hW => QOK t ht hW (Nat.zero_le 1)) z7.2.2 hdg hlocks
/-- behind a call -/
theorem run_wp {p : Program} {e : Env} {R : Room} {s : State} {m : MethodId} {args : Array Value} {below : List Frame} {meth : Method} {c : Code} {Q : State → Prop} {nc ns : Nat} {H : Heap} {locs : List Loc} {ls : Array Slot} {ST RS : List Value} {mc ms : Nat} {a : Array Value} (hr : va_Run p l e R s m args below meth c H locs nc ns mc ms (F0 m pc ls ST) RS (cQ2 dC dI dA H0 ad rf sh P a) (aA H0)) (hS : va_S (aA H0) H0 H locs)
    (kk : ∀ pc' h' lv' st' (H1 : Heap) (locs1 : List Loc), P pc' h' lv' st' → va_P (dC, dI) vwCl (mkW dA ad rf sh h') H1 → va_D (aA H0) (mkW dA ad rf sh h') → va_S (aA H0) H0 H1 locs1 → W p l e R s m args below meth c H1 locs1 (nc + mc) (ns + ms) Q (F0 m (pc + 3) ls (st' ++ RS))) : W p l e R s m args below meth c H locs nc ns Q (F0 m pc ls ST) := by
  intro T hT X
  obtain ⟨v, st₀, t, T', L, h0, X', hL, e1, e2, ⟨pc', h', lv', st', k1, k5, k6, k7, k9, k10⟩, st⟩ := hr T hT X
  have hv : v.toList = st' := by
    have : v = st'.head? := by cases k9; rfl
    rw [this]
    match st', k10 with
    | [], _ => rfl
    | [_], _ => rfl
  obtain ⟨t2, a1, b1⟩ := kk pc' h' lv' st' T'.heap (locs ++ L) k1 (by rw [e1]; exact k5) k6 ⟨by rw [e1]; exact k7.1, by rw [e1]; exact k7.2.1, fun q hq => by
    rcases List.mem_append.mp hq with h | h
    · exact hS.2.2 q h
    · exact hL q h⟩ T' rfl X'
  exact ⟨t2, st t2 (by rw [hv]; exact a1), b1⟩
/-- the receiver of a virtual call -/
def rcvc (sp ad : Nat → Nat) (sh : SHP) (ci : Nat) (as : List Value) : Prop := (ci < 100 ∧ ∃ c0 n fs, as.head? = some (.ref (ad c0)) ∧ sh[c0]? = some (ci, n, fs)) ∨ (ci = 200 ∧ ∃ x, (x = 1 ∨ x = 3) ∧ as.head? = some (.ref (sp x)))
set_option maxHeartbeats 2000000 in
theorem w0_call {a b kc ci : Nat} {C : MR} {as rest : List Value} (hC : mt a b = some C) (hCC : Mcw C) (hdg : decode M.2.1 pc = .ok (ins, len)) (hlen : len = ax_len ins) (hlk : lok mt M pc ins (a :: b :: kc :: ci :: lk) = true) (ho : ax_op ins = 21) (h9 : Nat.beq a 900 = false ∧ Nat.beq a 901 = false ∧ Nat.beq a 902 = false) (hkc : kc = 0 ∨ kc = 2) (hna : as.length = C.2.2.2.2.2.1) (hf1 : C.2.2.2.2.1.frames < M.2.2.2.2.1.frames) (hf2 : 8 + (C.2.2.1 + 11) + C.2.2.2.2.1.locals ≤ M.2.2.2.2.1.locals) (hwr : (rest.map fun v => v.category).sum ≤ 8) (hwa : (as.map fun v => v.category).sum ≤ C.2.2.1) (hz : C.2.2.2.2.1.cells = 0 ∧ C.2.2.2.2.1.slots = 0) (hrc : kc = 0 → rcvc sp ad sh ci as)
    (hW : Wp0 sb dC dI dA sp H0 l ρ0 ad rf sh C 0 h (lv_args 0 as) [] P') (hR : Rt C P') (K : ∀ pc' h' lv' st', P' pc' h' lv' st' → Wp0 sb dC dI dA sp H0 l ρ0 ad rf sh M (pc + len) h' lv (st' ++ rest) P) : Wp0 sb dC dI dA sp H0 l ρ0 ad rf sh M pc h lv (as.reverse ++ rest) P := by
  intro p e R s m args below meth c Q nc ns hX hN hG H locs ls z1 z2 z3 z4
  obtain ⟨hx, hb, hml, hown, hts, hK, hlocks, hrt, hin, hRoom, hO⟩ := id hX
  have hMet := met_wp hCC hwa hW hR
  subst hRoom
  have hcw : ∀ w ∈ (Cond.code C.1 C.2.1 C.2.2.1 C.2.2.2.1 :: GW), w ∈ GW := fun w hw => by
    rcases List.mem_cons.mp hw with rfl | hw
    · exact hCC.1
    · exact hw
  have hGd : GoodIn GW (Cond.code C.1 C.2.1 C.2.2.1 C.2.2.2.1 :: GW) := GW_good hcw
  have hPc : ∀ U : State, U.heap = H → s.WarmedH U.vm → cP2 sb dC dI dA sp H0 ρ0 ad rf sh h U := fun U hU hW => ⟨by rw [hU]; exact z1, z2, by rw [hU]; exact ⟨z3.1, z3.2.1, fun _ h => by cases h⟩, va_K.moved hW.alike hK, OX.warm hW (Sb.rf ρ0) hO⟩
  have hlen3 : len = 3 := by
    rw [hlen]
    cases ins <;> first | (exact absurd ho (Nat.ne_of_beq_eq_false rfl)) | rfl
  subst hlen3
  have FIN : va_Run p l e M.2.2.2.2.1 s m args below meth c H locs nc ns C.2.2.2.2.1.cells C.2.2.2.2.1.slots (F0 m pc ls (as.reverse ++ rest)) rest (cQ2 dC dI dA H0 ad rf sh P' as.toArray) (aA H0) → W p l e M.2.2.2.2.1 s m args below meth c H locs nc ns Q (F0 m pc ls (as.reverse ++ rest)) := fun hrun => by
    refine run_wp hrun z3 (fun pc' h' lv' st' H1 locs1 k1 k5 k6 k7 => ?_)
    rw [hz.1, hz.2]
    exact K pc' h' lv' st' k1 p e _ s m args below meth c Q nc ns hX hN hG H1 locs1 ls k5 k6 k7 z4
  have hRm : C.2.2.2.2.1.frames + 1 ≤ M.2.2.2.2.1.frames ∧ 8 + (C.2.2.1 + 11) + C.2.2.2.2.1.locals ≤ M.2.2.2.2.1.locals := ⟨hf1, hf2⟩
  have hcs : nc + C.2.2.2.2.1.cells ≤ M.2.2.2.2.1.cells ∧ ns + C.2.2.2.2.1.slots ≤ M.2.2.2.2.1.slots := by rw [hz.1, hz.2]; exact hN
  obtain ⟨h9a, h9b, h9c⟩ := h9
  cases ins <;> first | (exact absurd ho (Nat.ne_of_beq_eq_false rfl)) | skip
  case invokevirtual idx =>
    match lk, hlk with
    | m1 :: m2 :: i1 :: i2 :: s1 :: s2 :: n1 :: n2 :: _, hlk =>
      have hl : (match mt a b with
        | some C => Nat.beq kc 0 && (wdq m1 m2 (.methodLink M.1.cls idx C.1) && (wdq i1 i2 (.instanceMethod C.1) && (wdq s1 s2 (.selects C.1.cls C.1 C.1) && (wdq n1 n2 (.initialized C.1.cls) && ((bif Nat.beq ci 200 then decide (C.1.cls = sSTR) else decide (vwCl[ci]?.map (fun q => q.1) = some C.1.cls)) && (decide (C.1.cls ≠ "java/lang/invoke/MethodHandle" ∧ C.1.cls ≠ "java/lang/invoke/VarHandle" ∧ (parseMethodDescriptor C.1.desc).map (fun d => d.parameters.length) = some (C.2.2.2.2.2.1 - 1)) && (Nat.ble 1 C.2.2.2.2.2.1 && (!(Nat.beq a 900) && (!(Nat.beq a 901) && !(Nat.beq a 902))))))))))
        | none => false) = true := hlk
      rw [hC] at hl
      have v1 := bb_and (a := Nat.beq kc 0) hl
      have v2 := bb_and v1.2
      have v3 := bb_and v2.2
      have v4 := bb_and v3.2
      have v5 := bb_and v4.2
      have v6 := bb_and v5.2
      have v7 := bb_and v6.2
      have v8 := bb_and v7.2
      have hn1 := bb_le v8.1
      have hds := of_decide_eq_true v7.1
      have hrc' := hrc (bb_eq v1.1)
      cases as with
      | nil => simp only [List.length_nil] at hna; omega
      | cons VA AS =>
        have RECV : ∃ b0, VA = .ref b0 ∧ ∃ cellB : Cell, H[b0]? = some cellB ∧ cellB.vm.isStatics = false ∧ s.vm.findClass C.1.cls = some cellB.cls := by
          rcases hrc' with ⟨hci, c0, n, fs, hh, hsh⟩ | ⟨hci, x, hx1, hh⟩
          · have hVA : VA = .ref (ad c0) := Option.some.inj hh
            have hw := mkW_get (dA := dA) (ad := ad) (rf := rf) (h := h) hsh
            rw [mkE_o hci] at hw
            have z := v6.1
            rw [bb_nb (show ci ≠ 200 by omega)] at z
            have z : decide (vwCl[ci]?.map (fun q => q.1) = some C.1.cls) = true := z
            have z := of_decide_eq_true z
            cases hq : vwCl[ci]? with
            | none => rw [hq] at z; cases z
            | some q =>
              rw [hq] at z
              have z : some q.1 = some C.1.cls := z
              have rv := va_recv hK z1 (ci := ci) (q0 := c0) hq hw
              rw [Option.some.inj z] at rv
              exact ⟨ad c0, hVA, rv⟩
          · have hVA : VA = .ref (sp x) := Option.some.inj hh
            have hso : SO sp sb H0 x s := by
              rcases hx1 with rfl | rfl
              · exact hO.2.1
              · exact hO.2.2.1
            have z := v6.1
            rw [hci] at z
            have z : decide (C.1.cls = sSTR) = true := z
            obtain ⟨cell, y1, y2, y3, -⟩ := hso.1.kept (fun a h1 h2 => z3.2.1 a h1 h2)
            exact ⟨sp x, hVA, cell, y1, y2, by rw [of_decide_eq_true z]; exact y3⟩
        obtain ⟨b0, rfl, hrecv⟩ := RECV
        have cb := callB_of (own := M.1.cls) (index := idx) (R := M.2.2.2.2.1) (C.2.2.2.2.2.1 - 1) hts hGd rfl rfl rfl (hts _ (wdq_in v5.1)) (hts _ (wdq_in v2.1)) ⟨hds.1, hds.2.1, hds.2.2⟩ hRm
        refine FIN ?_
        exact va_runV (g := F0 m pc ls ((.ref b0 :: AS).reverse ++ rest)) (b := b0) (As := AS) (rest := rest) ⟨hx, hb, hml, hown, hts⟩ hMet ⟨cb, hts _ (wdq_in v3.1), hts _ (wdq_in v4.1)⟩ ⟨cP2.blind, hrecv, fun U hU hW => ⟨rfl, hPc U hU hW⟩⟩ rfl (by rw [List.length_cons] at hna; omega) z4.1 (by rw [List.reverse_cons]; simp) (lv_room hwr) hdg hcs
  case invokespecial idx =>
    obtain ⟨m1, m2, i1, i2, n1, n2, ne, hl⟩ := lok_sp h9a hlk
    rw [hC] at hl
    have v1 := bb_eq (bb_and (a := Nat.beq kc 1) hl).1
    omega
  case invokestatic idx =>
    obtain ⟨m1, m2, i1, i2, n1, n2, ne, hl⟩ := lok_st h9b h9c hlk
    rw [hC] at hl
    have v1 := bb_and (a := Nat.beq kc 2) hl
    have v2 := bb_and v1.2
    have v3 := bb_and v2.2
    have v4 := bb_and v3.2
    have v5 := bb_and v4.2
    have hds := of_decide_eq_true v5.1
    refine FIN ?_
    cases hne : Nat.beq ne 0 with
    | true =>
      rw [hne] at v2
      have cb := callB_of (own := M.1.cls) (index := idx) (R := M.2.2.2.2.1) C.2.2.2.2.2.1 hts hGd rfl rfl rfl (hts _ (wdq_in v4.1)) (hts _ (wdq_in v2.1)) ⟨hds.1, hds.2.1, hds.2.2⟩ hRm
      exact va_runS (g := F0 m pc ls (as.reverse ++ rest)) (As := as) (rest := rest) ⟨hx, hb, hml, hown, hts⟩ hMet ⟨cb, hts _ (wdq_in v3.1)⟩ ⟨cP2.blind, fun U hU hW => ⟨rfl, hPc U hU hW⟩⟩ rfl hna z4.1 rfl (lv_room hwr) hdg hcs
    | false =>
      rw [hne] at v2
      have hnest : (Cond.methodLinkNest M.1.cls idx C.1 RX11) ∈ nestW := List.mem_filter.mpr ⟨wdn_in v2.1, rfl⟩
      have cb := va_cnB (own := M.1.cls) (index := idx) (R := M.2.2.2.2.1) C.2.2.2.2.2.1 hts hGd rfl rfl rfl (hO.2.2.2.2.2.2.2.2.2.2 _ hnest) (hts _ (wdq_in v4.1)) ⟨hds.1, hds.2.1, hds.2.2⟩ hRm
      exact va_runSN (g := F0 m pc ls (as.reverse ++ rest)) (As := as) (rest := rest) ⟨hx, hb, hml, hown, hts⟩ hMet ⟨cb, hts _ (wdq_in v3.1), trivial⟩ ⟨cP2.blind, fun U hU hW => ⟨rfl, hPc U hU hW⟩⟩ rfl hna z4.1 rfl (lv_room hwr) hdg hcs
theorem w0_min {x y : Int32} {rest : List Value} (hdg : decode M.2.1 pc = .ok (ins, len)) (hlen : len = ax_len ins) (hlk : lok mt M pc ins (902 :: lk) = true) (ho : ax_op ins = 21) (hf : 1 ≤ M.2.2.2.2.1.frames) (hl2 : (rest.map fun v => v.category).sum + 13 ≤ M.2.2.2.2.1.locals) (K : Wp0 sb dC dI dA sp H0 l ρ0 ad rf sh M (pc + len) h lv (.int (if y < x then y else x) :: rest) P) : Wp0 sb dC dI dA sp H0 l ρ0 ad rf sh M pc h lv (.int y :: .int x :: rest) P := by
  intro p e R s m args below meth c Q nc ns hX hN hG H locs ls z1 z2 z3 z4
  have KK := K p e R s m args below meth c Q nc ns hX hN hG H locs ls z1 z2 z3 z4
  obtain ⟨hx, hb, hml, hown, hts, hK, hlocks, hrt, hin, hRoom, hO⟩ := id hX
  subst hRoom
  cases ins <;> first | (exact absurd ho (Nat.ne_of_beq_eq_false rfl)) | skip
  case invokevirtual idx =>
    match lk, hlk with
    | b :: kc :: ci :: m1 :: m2 :: i1 :: i2 :: s1 :: s2 :: n1 :: n2 :: _, hlk =>
      exfalso
      have hl := hlk
      unfold lok at hl
      cases hC : mt 902 b with
      | none => simp [hC] at hl
      | some C => simp [hC] at hl
  case invokespecial idx =>
    match lk, hlk with
    | b :: kc :: ci :: m1 :: m2 :: i1 :: i2 :: n1 :: n2 :: ne :: _, hlk =>
      exfalso
      have hl := hlk
      unfold lok at hl
      cases hC : mt 902 b with
      | none => simp [hC] at hl
      | some C => simp [hC] at hl
  case invokestatic idx =>
    match lk, hlk with
    | m1 :: m2 :: s1 :: s2 :: n1 :: n2 :: c1 :: c2 :: _, hlk =>
      have hl : (wdq m1 m2 (.methodLink M.1.cls idx Lib.Math.min.name) && (wdq s1 s2 (.static Lib.Math.min.name) && (wdq n1 n2 (.initialized "java/lang/Math") && wdq c1 c2 (.code Lib.Math.min.name Lib.Math.min.code 2 (some .int))))) = true := hlk
      have u := bb_and hl
      have u2 := bb_and u.2
      have u3 := bb_and u2.2
      subst hlen
      exact va_mmin hx hb (by rw [hml]; exact z4.1.symm) hown (hts _ (wdq_in u.1)) (hts _ (wdq_in u2.1)) (hts _ (wdq_in u3.1)) (hts _ (wdq_in u3.2)) hf hl2 hN.1 hN.2 hdg KK
theorem w0_max {b : Nat} {x y : Int32} {rest : List Value} (hmt : mt 903 b = none) (hdg : decode M.2.1 pc = .ok (ins, len)) (hlen : len = ax_len ins) (hlk : lok mt M pc ins (903 :: b :: lk) = true) (ho : ax_op ins = 21) (hf : 1 ≤ M.2.2.2.2.1.frames) (hl2 : (rest.map fun v => v.category).sum + 13 ≤ M.2.2.2.2.1.locals) (K : Wp0 sb dC dI dA sp H0 l ρ0 ad rf sh M (pc + len) h lv (.int (if x < y then y else x) :: rest) P) : Wp0 sb dC dI dA sp H0 l ρ0 ad rf sh M pc h lv (.int y :: .int x :: rest) P := by
  intro p e R s m args below meth c Q nc ns hX hN hG H locs ls z1 z2 z3 z4
  have KK := K p e R s m args below meth c Q nc ns hX hN hG H locs ls z1 z2 z3 z4
  obtain ⟨hx, hb, hml, hown, hts, hK, hlocks, hrt, hin, hRoom, hO⟩ := id hX
  subst hRoom
  cases ins <;> first | (exact absurd ho (Nat.ne_of_beq_eq_false rfl)) | skip
  case invokevirtual idx =>
    match lk, hlk with
    | kc :: ci :: m1 :: m2 :: i1 :: i2 :: s1 :: s2 :: n1 :: n2 :: _, hlk =>
      exfalso
      have hl := hlk
      unfold lok at hl
      simp [hmt] at hl
  case invokespecial idx =>
    match lk, hlk with
    | kc :: ci :: m1 :: m2 :: i1 :: i2 :: n1 :: n2 :: ne :: _, hlk =>
      exfalso
      have hl := hlk
      unfold lok at hl
      simp [hmt] at hl
  case invokestatic idx =>
    match lk, hlk with
    | kc :: ci :: m1 :: m2 :: i1 :: i2 :: n1 :: n2 :: ne :: _, hlk =>
      have hl : (match mt 903 b with
        | some C => Nat.beq kc 2 && ((bif Nat.beq ne 0 then wdq m1 m2 (.methodLink M.1.cls idx C.1) else wdn m1 m2 (.methodLinkNest M.1.cls idx C.1 RX11)) && (wdq i1 i2 (.static C.1) && (wdq n1 n2 (.initialized C.1.cls) && (decide (C.1.cls ≠ "java/lang/invoke/MethodHandle" ∧ C.1.cls ≠ "java/lang/invoke/VarHandle" ∧ (parseMethodDescriptor C.1.desc).map (fun d => d.parameters.length) = some C.2.2.2.2.2.1) && !(Nat.beq 903 900)))))
        | none => Nat.beq 903 903 && (wdq b kc (.methodLink M.1.cls idx Lib.Math.max.name) && (wdq ci m1 (.static Lib.Math.max.name) && (wdq m2 i1 (.initialized "java/lang/Math") && wdq i2 n1 (.code Lib.Math.max.name Lib.Math.max.code 2 (some .int)))))) = true := hlk
      rw [hmt] at hl
      have u0 := bb_and (a := Nat.beq 903 903) hl
      have u := bb_and u0.2
      have u2 := bb_and u.2
      have u3 := bb_and u2.2
      subst hlen
      exact va_mmax hx hb (by rw [hml]; exact z4.1.symm) hown (hts _ (wdq_in u.1)) (hts _ (wdq_in u2.1)) (hts _ (wdq_in u3.1)) (hts _ (wdq_in u3.2)) hf hl2 hN.1 hN.2 hdg KK
/-- the heap with a piece of a row copied -/
def cph (h : PH) (cs cd sp dp n : Nat) : PH := fun c k => if c = cd ∧ dp ≤ k ∧ k < dp + n then h cs (sp + (k - dp)) else h c k
theorem w0_copy {cs cd n0 n1 kd : Nat} {f0 f1 : List (Nat × Nat)} {n dp sq : Int32} {rest : List Value} (hdg : decode M.2.1 pc = .ok (ins, len)) (hlen : len = ax_len ins) (hlk : lok mt M pc ins (901 :: lk) = true) (ho : ax_op ins = 21) (hf : 1 ≤ M.2.2.2.2.1.frames) (hl2 : (rest.map fun v => v.category).sum + 18 ≤ M.2.2.2.2.1.locals) (hs0 : sh[cs]? = some (kd, n0, f0)) (hs1 : sh[cd]? = some (kd, n1, f1)) (hkd : kd = 100 ∨ kd = 101) (b1 : 0 ≤ sq.toInt) (b2 : 0 ≤ dp.toInt) (b3 : 0 ≤ n.toInt) (b4 : sq.toInt + n.toInt ≤ n0) (b5 : dp.toInt + n.toInt ≤ n1) (K : Wp0 sb dC dI dA sp H0 l ρ0 ad rf sh M (pc + len) (cph h cs cd sq.toInt.toNat dp.toInt.toNat n.toInt.toNat) lv rest P) : Wp0 sb dC dI dA sp H0 l ρ0 ad rf sh M pc h lv (.int n :: .int dp :: .ref (ad cd) :: .int sq :: .ref (ad cs) :: rest) P := by
  intro p e R s m args below meth c Q nc ns hX hN hG H locs ls z1 z2 z3 z4
  have KK := fun H1 locs1 y1 y2 y3 => K p e R s m args below meth c Q nc ns hX hN hG H1 locs1 ls y1 y2 y3 z4
  obtain ⟨hx, hb, hml, hown, hts, hK, hlocks, hrt, hin, hRoom, hO⟩ := id hX
  subst hRoom
  have hloc : (rest.map fun v => v.category).sum + (nativeFrameWords "java/lang/System" "arraycopy" 5 + 11) ≤ M.2.2.2.2.1.locals := by
    have e18 : nativeFrameWords "java/lang/System" "arraycopy" 5 = 7 := by decide +kernel
    rw [e18]
    omega
  have WORDS : ∃ idx m1 m2 i1 i2 s1 s2 n1 n2, ins = .invokestatic idx ∧ wdq m1 m2 (.methodLink M.1.cls idx arraycopyName) = true ∧ wdq i1 i2 (.native arraycopyName) = true ∧ wdq s1 s2 (.static arraycopyName) = true ∧ wdq n1 n2 (.initialized "java/lang/System") = true := by
    cases ins <;> first | (exact absurd ho (Nat.ne_of_beq_eq_false rfl)) | skip
    case invokevirtual idx =>
      match lk, hlk with
      | b :: kc :: ci :: m1 :: m2 :: i1 :: i2 :: s1 :: s2 :: n1 :: n2 :: _, hlk =>
        exfalso
        have hl := hlk
        unfold lok at hl
        cases hC : mt 901 b with
        | none => simp [hC] at hl
        | some C => simp [hC] at hl
    case invokespecial idx =>
      match lk, hlk with
      | b :: kc :: ci :: m1 :: m2 :: i1 :: i2 :: n1 :: n2 :: ne :: _, hlk =>
        exfalso
        have hl := hlk
        unfold lok at hl
        cases hC : mt 901 b with
        | none => simp [hC] at hl
        | some C => simp [hC] at hl
    case invokestatic idx =>
      match lk, hlk with
      | m1 :: m2 :: i1 :: i2 :: s1 :: s2 :: n1 :: n2 :: _, hlk =>
        have hl : (wdq m1 m2 (.methodLink M.1.cls idx arraycopyName) && (wdq i1 i2 (.native arraycopyName) && (wdq s1 s2 (.static arraycopyName) && wdq n1 n2 (.initialized "java/lang/System")))) = true := hlk
        have u := bb_and hl
        have u2 := bb_and u.2
        have u3 := bb_and u2.2
        exact ⟨idx, m1, m2, i1, i2, s1, s2, n1, n2, rfl, u.1, u2.1, u3.1, u3.2⟩
  obtain ⟨idx, m1, m2, i1, i2, s1, s2, n1', n2', rfl, u1, u2, u3, u4⟩ := WORDS
  have hlen : len = 3 := hlen
  subst hlen
  have ng : ∀ z : Int32, 0 ≤ z.toInt → ¬ z < 0 := fun z hz q => by
    rw [Int32.lt_iff_toInt_lt] at q
    have : (0 : Int32).toInt = 0 := rfl
    omega
  have cl : ∀ z : Int32, z.toNatClampNeg = z.toInt.toNat := fun z => rfl
  have w0 := mkW_get (dA := dA) (ad := ad) (rf := rf) (h := h) hs0
  have w1 := mkW_get (dA := dA) (ad := ad) (rf := rf) (h := h) hs1
  have hrow : ∀ j, cph h cs cd sq.toInt.toNat dp.toInt.toNat n.toInt.toNat cd j = va_cpy (h cs) (h cd) sq.toInt.toNat dp.toInt.toNat n.toInt.toNat j := fun j => by
    unfold cph va_cpy
    by_cases q : dp.toInt.toNat ≤ j ∧ j < dp.toInt.toNat + n.toInt.toNat
    · rw [if_pos ⟨rfl, q⟩, if_pos q]
    · rw [if_neg (fun z => q z.2), if_neg q]
  have hoth : ∀ c', c' ≠ cd → cph h cs cd sq.toInt.toNat dp.toInt.toNat n.toInt.toNat c' = h c' := fun c' hc' => funext (fun j => if_neg (fun z => hc' z.1))
  rcases hkd with rfl | rfl
  · rw [mkE_i (Or.inl rfl)] at w0 w1
    have hset : (mkW dA ad rf sh h).set cd (ad cd, .inl (dA 100, n1, .inl (va_cpy (fun j => Int32.ofInt (h cs j)) (fun j => Int32.ofInt (h cd j)) sq.toNatClampNeg dp.toNatClampNeg n.toNatClampNeg))) = mkW dA ad rf sh (cph h cs cd sq.toInt.toNat dp.toInt.toNat n.toInt.toNat) := mkW_set hs1 (by
      rw [mkE_i (Or.inl rfl)]
      congr 3
      congr 1
      funext j
      rw [hrow j]
      unfold va_cpy
      rw [cl, cl, cl]
      by_cases q : dp.toInt.toNat ≤ j ∧ j < dp.toInt.toNat + n.toInt.toNat
      · rw [if_pos q, if_pos q]
      · rw [if_neg q, if_neg q]) hoth
    refine va_copyi hx hb (by rw [hml]; exact z4.1.symm) hown (hts _ (wdq_in u1)) (hts _ (wdq_in u2)) (hts _ (wdq_in u3)) (hts _ (wdq_in u4)) hK z1 z2 z3 cs cd 0 0 w0 w1 rfl rfl rfl (ng _ b1) (ng _ b2) (ng _ b3) (by rw [cl, cl]; omega) (by rw [cl, cl]; omega) (fun _ _ => rfl) hf hloc hdg ?_
    rw [hset]
    exact KK
  · rw [mkE_l] at w0 w1
    have hset : (mkW dA ad rf sh h).set cd (ad cd, .inl (dA 101, n1, .inr (.inl (va_cpy (fun j => Int64.ofInt (h cs j)) (fun j => Int64.ofInt (h cd j)) sq.toNatClampNeg dp.toNatClampNeg n.toNatClampNeg)))) = mkW dA ad rf sh (cph h cs cd sq.toInt.toNat dp.toInt.toNat n.toInt.toNat) := mkW_set hs1 (by
      rw [mkE_l]
      congr 5
      funext j
      rw [hrow j]
      unfold va_cpy
      rw [cl, cl, cl]
      by_cases q : dp.toInt.toNat ≤ j ∧ j < dp.toInt.toNat + n.toInt.toNat
      · rw [if_pos q, if_pos q]
      · rw [if_neg q, if_neg q]) hoth
    refine va_copyl hx hb (by rw [hml]; exact z4.1.symm) hown (hts _ (wdq_in u1)) (hts _ (wdq_in u2)) (hts _ (wdq_in u3)) (hts _ (wdq_in u4)) hK z1 z2 z3 cs cd 1 1 w0 w1 rfl rfl rfl (ng _ b1) (ng _ b2) (ng _ b3) (by rw [cl, cl]; omega) (by rw [cl, cl]; omega) (fun _ _ => rfl) hf hloc hdg ?_
    rw [hset]
    exact KK
end WPT
end
section
/-! 25a.zm -/
/-! PLAIN RUNS, 1: a machine over whole numbers. A value is a pair of a tag and a number: 0 an int, 1 a long, 2 a cell, 6 an old cell, 7 what is not looked into. -/
abbrev ZV : Type := Nat × Int
abbrev ZL : Type := List (Nat × ZV)
abbrev ZS : Type := Nat × PH × ZL × List ZV
def R32 (z : Int) : Prop := -2147483648 ≤ z ∧ z ≤ 2147483647
def R64 (z : Int) : Prop := -9223372036854775808 ≤ z ∧ z ≤ 9223372036854775807
def w32 (z : Int) : Int := (Int32.ofInt z).toInt
def w64 (z : Int) : Int := (Int64.ofInt z).toInt
def zand (a b : Int) : Int := (Int32.ofInt a &&& Int32.ofInt b).toInt
def zor (a b : Int) : Int := (Int32.ofInt a ||| Int32.ofInt b).toInt
def zxor (a b : Int) : Int := (Int32.ofInt a ^^^ Int32.ofInt b).toInt
def zshl (a b : Int) : Int := (Int32.ofInt a <<< (Int32.ofInt b &&& 31)).toInt
def zshr (a b : Int) : Int := (Int32.ofInt a >>> (Int32.ofInt b &&& 31)).toInt
def zush (a b : Int) : Int := (ax_fop 8 (Int32.ofInt a) (Int32.ofInt b)).toInt
def z_ib (op : Nat) (a b : Int) : Int := match op with
  | 0 => w32 (a + b)
  | 1 => w32 (a - b)
  | 2 => w32 (a * b)
  | 3 => zand a b
  | 4 => zor a b
  | 5 => zxor a b
  | 6 => zshl a b
  | 7 => zshr a b
  | _ => zush a b
def zdiv (a b : Int) : Int := (Int32.ofInt a / Int32.ofInt b).toInt
def zrem (a b : Int) : Int := (Int32.ofInt a - Int32.ofInt a / Int32.ofInt b * Int32.ofInt b).toInt
def zland (a b : Int) : Int := (Int64.ofInt a &&& Int64.ofInt b).toInt
def zlor (a b : Int) : Int := (Int64.ofInt a ||| Int64.ofInt b).toInt
def z_lb (op : Nat) (a b : Int) : Int := match op with
  | 0 => w64 (a + b)
  | 1 => w64 (a - b)
  | 2 => w64 (a * b)
  | 3 => zland a b
  | _ => zlor a b
def zldiv (a b : Int) : Int := (Int64.ofInt a / Int64.ofInt b).toInt
def zlrem (a b : Int) : Int := (Int64.ofInt a - Int64.ofInt a / Int64.ofInt b * Int64.ofInt b).toInt
def zlshl (a b : Int) : Int := (Int64.ofInt a <<< ((Int32.ofInt b).toInt64 &&& 63)).toInt
def zcmp (a b : Int) : Int := if a < b then -1 else if b < a then 1 else 0
def zi2b (a : Int) : Int := (Int32.ofInt a).toInt8.toInt32.toInt
def zi2s (a : Int) : Int := (Int32.ofInt a).toInt16.toInt32.toInt
def zi2c (a : Int) : Int := ((Int32.ofInt a).toUInt32 % 65536).toInt32.toInt
def z_un (op : Nat) (a : Int) : Int := match op with
  | 0 => zi2b a
  | 1 => zi2s a
  | 2 => zi2c a
  | _ => w32 (-a)
def zl2i (a : Int) : Int := (Int64.ofInt a).toInt32.toInt
def zcp (k : Nat) (a b : Int) : Prop := match k with
  | 0 => a = b
  | 1 => a ≠ b
  | 2 => a < b
  | 3 => b ≤ a
  | 4 => b < a
  | _ => a ≤ b
def zmin (a b : Int) : Int := if b < a then b else a
def zmax (a b : Int) : Int := if a < b then b else a
noncomputable def lcr {α R : Type} (bot : R) (l : List α) (k : α → List α → R) : R := List.rec (motive := fun _ => R) bot (fun x t _ => k x t) l
noncomputable def obr {α R : Type} (bot : R) (o : Option α) (k : α → R) : R := Option.rec (motive := fun _ => R) bot k o
noncomputable def gdr {R : Type} (bot : R) (b : Bool) (x : R) : R := Bool.rec (motive := fun _ => R) bot x b
noncomputable def zlk (lv : ZL) (i : Nat) : Option ZV := List.rec (motive := fun _ => Option ZV) none (fun q _ ih => bif Nat.beq q.1 i then some q.2 else ih) lv
def zk1 (i : Nat) : Nat × ZV → Bool := fun q => !(Nat.beq q.1 i) && !(Nat.beq (q.1 + 1) i && Nat.beq q.2.1 1)
def zk2 (i : Nat) : Nat × ZV → Bool := fun q => !(Nat.beq q.1 i) && (!(Nat.beq q.1 (i + 1)) && !(Nat.beq (q.1 + 1) i && Nat.beq q.2.1 1))
noncomputable def zfl (p : Nat × ZV → Bool) (l : ZL) : ZL := List.rec (motive := fun _ => ZL) [] (fun x _ ih => bif p x then x :: ih else ih) l
noncomputable def z32 (n : Nat) : Int := bif Nat.blt n 2147483648 then Int.ofNat n else bif Nat.blt n 4294967296 then Int.negSucc (4294967295 - n) else (nI n).toInt
noncomputable def z64 (n : Nat) : Int := bif Nat.blt n 9223372036854775808 then Int.ofNat n else bif Nat.blt n 18446744073709551616 then Int.negSucc (18446744073709551615 - n) else (lN n).toInt
def ztI (t : Nat) : Bool := Nat.beq t 0
def ztL (t : Nat) : Bool := Nat.beq t 1
def ztR (t : Nat) : Bool := Nat.beq t 2 || (Nat.beq t 6 || Nat.beq t 7)
def zc (v : ZV) : Nat := v.2.toNat
def z_args (n : Nat) (st acc : List ZV) : Option (List ZV × List ZV) := match n with
  | 0 => some (acc, st)
  | k + 1 => match st with
    | v :: r => z_args k r (v :: acc)
    | [] => none
def z_locs (i : Nat) (l : List ZV) : ZL := match l with
  | [] => []
  | v :: r => (i, v) :: z_locs (bif Nat.beq v.1 1 then i + 2 else i + 1) r
section ZM
variable {R : Type} (bot : R) (br : Prop → R → R → R) (as : Prop → R → R) (cl : MR → PH → List ZV → (PH → List ZV → R) → R) (sh : SHP) (sb : Nat → List Nat) (sl : Nat) (si : Nat → Int) (fm : ZV)
noncomputable def z_psh (lk : List Nat) (kk : ZV → R) : R := lcr bot lk (fun t lk => lcr bot lk (fun n _ =>
    bif Nat.beq t 0 then kk (0, z32 n) else bif Nat.beq t 1 then kk (1, z64 n) else kk (6, Int.ofNat n)))
/-- 0 to 7 -/
noncomputable def z_b0 (op : Nat) (lk : List Nat) (lv : ZL) (st : List ZV) (kk : ZL → List ZV → R) : R :=
  bif Nat.ble op 3 then (bif Nat.beq op 0 then z_psh bot lk (fun v => kk lv (v :: st)) else lcr bot lk (fun i _ => obr bot (zlk lv i) (fun v => gdr bot ((bif Nat.beq op 1 then ztI else bif Nat.beq op 2 then ztL else ztR) v.1) (kk lv (v :: st)))))
  else bif Nat.ble op 6 then lcr bot lk (fun i _ => lcr bot st (fun v r => gdr bot (bif Nat.beq op 4 then ztI v.1 else bif Nat.beq op 5 then ztL v.1 else ztR v.1) (kk ((i, v) :: zfl (bif Nat.beq op 5 then zk2 i else zk1 i) lv) r)))
  else lcr bot lk (fun i lk => lcr bot lk (fun n _ => obr bot (zlk lv i) (fun v => gdr bot (Nat.beq v.1 0) (kk ((i, (0, w32 (v.2 + z32 n))) :: zfl (zk1 i) lv) st))))
noncomputable def z_getf (lk : List Nat) (h : PH) (st : List ZV) (kk : List ZV → R) : R := lcr bot lk (fun ci lk => lcr bot lk (fun k _ => lcr bot st (fun a r =>
    bif Nat.beq a.1 2 then obr bot (ax_nth sh (zc a)) (fun q => gdr bot (Nat.beq q.1 ci && Nat.blt ci 100) (obr bot (ax_nth q.2.2 k) (fun f => bif Nat.beq f.1 0 then as (R32 (h (zc a) k)) (kk ((0, h (zc a) k) :: r)) else bif Nat.beq f.1 1 then as (R64 (h (zc a) k)) (kk ((1, h (zc a) k) :: r)) else gdr bot (Nat.beq f.1 2) (kk ((2, Int.ofNat f.2) :: r)))))
    else gdr bot (Nat.beq a.1 6 && Nat.beq ci 200) (bif Nat.beq k 0 then kk ((6, a.2 + 1) :: r) else kk ((0, 0) :: r)))))
noncomputable def z_putf (lk : List Nat) (h : PH) (st : List ZV) (kk : PH → List ZV → R) : R := lcr bot lk (fun ci lk => lcr bot lk (fun k lk => lcr bot lk (fun tc _ => lcr bot st (fun v st => lcr bot st (fun a r => gdr bot (Nat.beq a.1 2) (obr bot (ax_nth sh (zc a)) (fun q => gdr bot (Nat.beq q.1 ci && Nat.blt ci 100) (kk (uph h (zc a) k v.2) r))))))))
noncomputable def z_sel (i : Int) (kk : ZV → R) (fs : List (Nat × Nat)) : Nat → R := List.rec (motive := fun _ => Nat → R) (fun _ => bot) (fun f _ ih j => br (i = Int.ofNat j) (kk (2, Int.ofNat f.2)) (ih (j + 1))) fs
/-- array loads: kinds 100 int, 101 long, 102 byte, 103 references -/
noncomputable def z_ald (kd : Nat) (h : PH) (st : List ZV) (kk : List ZV → R) : R := lcr bot st (fun i st' => lcr bot st' (fun a r => gdr bot (Nat.beq i.1 0) (
    bif Nat.beq a.1 2 then obr bot (ax_nth sh (zc a)) (fun q =>
      bif Nat.beq kd 103 then gdr bot (Nat.ble 103 q.1) (z_sel bot br i.2 (fun v => kk (v :: r)) q.2.2 0)
      else gdr bot (Nat.beq q.1 kd) (as (0 ≤ i.2 ∧ i.2 < q.2.1) (bif Nat.beq kd 101 then as (R64 (h (zc a) i.2.toNat)) (kk ((1, h (zc a) i.2.toNat) :: r)) else as (R32 (h (zc a) i.2.toNat)) (kk ((0, h (zc a) i.2.toNat) :: r)))))
    else gdr bot (Nat.beq a.1 6) (bif Nat.beq (zc a) 0 then gdr bot (Nat.beq kd 100) (as (0 ≤ i.2 ∧ i.2 < sl) (as (R32 (si i.2.toNat)) (kk ((0, si i.2.toNat) :: r))))
      else gdr bot (Nat.beq kd 102) (as (0 ≤ i.2 ∧ i.2 < (sb (zc a)).length) (kk ((0, z32 ((sb (zc a)).getD i.2.toNat 0)) :: r)))))))
noncomputable def z_ast (kd : Nat) (h : PH) (st : List ZV) (kk : PH → List ZV → R) : R := lcr bot st (fun v st => lcr bot st (fun i st' => lcr bot st' (fun a r => gdr bot (Nat.beq i.1 0 && Nat.beq a.1 2) (obr bot (ax_nth sh (zc a)) (fun q =>
    gdr bot (Nat.beq q.1 kd) (as (0 ≤ i.2 ∧ i.2 < q.2.1) (kk (uph h (zc a) i.2.toNat v.2) r)))))))
noncomputable def z_alen (a : ZV) (kk : ZV → R) : R :=
  bif Nat.beq a.1 2 then obr bot (ax_nth sh (zc a)) (fun q => kk (0, z32 q.2.1))
  else gdr bot (Nat.beq a.1 6) (bif Nat.beq (zc a) 0 then kk (0, z32 sl) else kk (0, z32 (sb (zc a)).length))
/-- switches -/
noncomputable def z_sw (x : Int) (go : Nat → R) (d : Nat) (ks : List Nat) : R := match ks with
  | k :: t :: r => br (x = z32 k) (go t) (z_sw x go d r)
  | _ => go d
noncomputable def z_inv (mt : Nat → Nat → Option MR) (lk : List Nat) (h : PH) (st : List ZV) (go : PH → List ZV → R) : R := lcr bot lk (fun x lk1 =>
    bif Nat.beq x 901 then lcr bot st (fun n st => lcr bot st (fun dp st => lcr bot st (fun d st => lcr bot st (fun sq st => lcr bot st (fun s r => gdr bot (Nat.beq d.1 2 && Nat.beq s.1 2)
      (as (0 ≤ sq.2 ∧ 0 ≤ dp.2 ∧ 0 ≤ n.2) (go (cph h (zc s) (zc d) sq.2.toNat dp.2.toNat n.2.toNat) r)))))))
    else bif Nat.beq x 902 then lcr bot st (fun b st => lcr bot st (fun a r => go h ((0, zmin a.2 b.2) :: r)))
    else bif Nat.beq x 903 then lcr bot st (fun b st => lcr bot st (fun a r => go h ((0, zmax a.2 b.2) :: r)))
    else lcr bot lk1 (fun b _ => obr bot (mt x b) (fun C => obr bot (z_args C.2.2.2.2.2.1 st []) (fun q => cl C h q.1 (fun h' r => go h' (r ++ q.2))))))
noncomputable def z_bin (t : Nat) (f : Int → Int → Int) (st : List ZV) (kk : List ZV → R) : R := lcr bot st (fun b st => lcr bot st (fun a r => gdr bot (Nat.beq a.1 t && Nat.beq b.1 t) (kk ((t, f a.2 b.2) :: r))))
noncomputable def z_dv (t : Nat) (f : Int → Int → Int) (st : List ZV) (kk : List ZV → R) : R := lcr bot st (fun b st => lcr bot st (fun a r => gdr bot (Nat.beq a.1 t && Nat.beq b.1 t) (as (b.2 ≠ 0) (kk ((t, f a.2 b.2) :: r)))))
/-- 26 to 52, 59 to 61 -/
noncomputable def z_b3 (op : Nat) (st : List ZV) (kk : List ZV → R) : R :=
  bif Nat.ble op 34 then z_bin bot 0 (z_ib (op - 26)) st kk
  else bif Nat.beq op 35 then z_dv bot as 0 zdiv st kk
  else bif Nat.beq op 36 then z_dv bot as 0 zrem st kk
  else bif Nat.ble op 41 then z_bin bot 1 (z_lb (op - 37)) st kk
  else bif Nat.beq op 42 then lcr bot st (fun b st => lcr bot st (fun a r => gdr bot (Nat.beq a.1 1 && Nat.beq b.1 0) (kk ((1, zlshl a.2 b.2) :: r))))
  else bif Nat.beq op 43 then lcr bot st (fun b st => lcr bot st (fun a r => gdr bot (Nat.beq a.1 1 && Nat.beq b.1 1) (kk ((0, zcmp a.2 b.2) :: r))))
  else bif Nat.ble op 47 then lcr bot st (fun a r => gdr bot (Nat.beq a.1 0) (kk ((0, z_un (op - 44) a.2) :: r)))
  else bif Nat.beq op 48 then lcr bot st (fun a r => gdr bot (Nat.beq a.1 0) (kk ((1, a.2) :: r)))
  else bif Nat.beq op 49 then lcr bot st (fun a r => gdr bot (Nat.beq a.1 1) (kk ((0, zl2i a.2) :: r)))
  else bif Nat.ble op 52 then lcr bot st (fun a r => bif Nat.beq op 50 then gdr bot (!(Nat.beq a.1 1)) (kk (a :: a :: r))
    else bif Nat.beq op 51 then (bif Nat.beq a.1 1 then kk (a :: a :: r) else lcr bot r (fun b r' => gdr bot (!(Nat.beq b.1 1)) (kk (a :: b :: a :: b :: r'))))
    else gdr bot (!(Nat.beq a.1 1)) (kk r))
  else bif Nat.beq op 59 then lcr bot st (fun a r => gdr bot (Nat.beq a.1 1) (kk r))
  else bif Nat.beq op 60 then z_dv bot as 1 zldiv st kk
  else z_dv bot as 1 zlrem st kk
noncomputable def z_st (mt : Nat → Nat → Option MR) (e : ME) (h : PH) (lv : ZL) (st : List ZV) (nx : PH → ZL → List ZV → R) (jp : Nat → PH → ZL → List ZV → R) : R :=
    bif Nat.ble e.2.1 7 then z_b0 bot e.2.1 e.2.2.2.1 lv st (fun lv' st' => nx h lv' st')
     else bif Nat.ble e.2.1 17 then (bif Nat.beq e.2.1 8 then z_getf bot as sh e.2.2.2.1 h st (fun st' => nx h lv st')
       else bif Nat.beq e.2.1 9 then z_putf bot sh e.2.2.2.1 h st (fun h' st' => nx h' lv st')
       else bif Nat.ble e.2.1 13 then z_ald bot br as sh sb sl si (e.2.1 + 90) h st (fun st' => nx h lv st')
       else gdr bot (Nat.ble e.2.1 16) (z_ast bot as sh (e.2.1 + 86) h st (fun h' st' => nx h' lv st')))
     else bif Nat.ble e.2.1 25 then (bif Nat.ble e.2.1 19 then lcr bot e.2.2.2.1 (fun t lk => lcr bot lk (fun c _ =>
           (bif Nat.beq e.2.1 18 then lcr bot st (fun b st => lcr bot st (fun a r => gdr bot (Nat.beq a.1 0 && Nat.beq b.1 0) (br (zcp c a.2 b.2) (jp t h lv r) (nx h lv r))))
            else lcr bot st (fun a r => gdr bot (Nat.beq a.1 0) (br (zcp c a.2 0) (jp t h lv r) (nx h lv r))))))
       else bif Nat.beq e.2.1 20 then lcr bot e.2.2.2.1 (fun t _ => jp t h lv st)
       else gdr bot (Nat.beq e.2.1 21) (z_inv bot as cl mt e.2.2.2.1 h st (fun h' st' => nx h' lv st')))
     else bif Nat.ble e.2.1 52 then z_b3 bot as e.2.1 st (fun st' => nx h lv st')
     else bif Nat.beq e.2.1 53 then lcr bot st (fun a r => z_alen bot sh sb sl a (fun v => nx h lv (v :: r)))
     else bif Nat.beq e.2.1 56 then lcr bot e.2.2.2.1 (fun x _ => bif Nat.beq x 0 then nx h lv ((0, 1) :: st) else nx h lv (fm :: st))
     else bif Nat.beq e.2.1 57 then lcr bot st (fun v r => gdr bot (Nat.beq v.1 0) (lcr bot e.2.2.2.1 (fun d lk => lcr bot lk (fun lo lk => lcr bot lk (fun hi ks => br (v.2 < z32 lo ∨ z32 hi < v.2) (jp d h lv r) (z_sw br v.2 (fun t => jp t h lv r) d ks))))))
     else bif Nat.beq e.2.1 58 then lcr bot st (fun v r => gdr bot (Nat.beq v.1 0) (lcr bot e.2.2.2.1 (fun d ks => z_sw br v.2 (fun t => jp t h lv r) d ks)))
     else gdr bot (Nat.ble 59 e.2.1 && Nat.ble e.2.1 61) (z_b3 bot as e.2.1 st (fun st' => nx h lv st'))
end ZM
end
section
/-! 25a2.zp -/
/-! PLAIN RUNS, 2: two ways of one step are related where their parts are -/
section ZP
variable {R1 R2 : Type} {Rl : R1 → R2 → Prop} {b1 : R1} {b2 : R2} {br1 : Prop → R1 → R1 → R1} {br2 : Prop → R2 → R2 → R2} {as1 : Prop → R1 → R1} {as2 : Prop → R2 → R2} {cl1 : MR → PH → List ZV → (PH → List ZV → R1) → R1} {cl2 : MR → PH → List ZV → (PH → List ZV → R2) → R2} {sh : SHP} {sb : Nat → List Nat} {sl : Nat} {si : Nat → Int} {fm : ZV}
theorem lcr_par {α : Type} (hb : Rl b1 b2) {l : List α} {k1 : α → List α → R1} {k2 : α → List α → R2} (hk : ∀ x t, Rl (k1 x t) (k2 x t)) : Rl (lcr b1 l k1) (lcr b2 l k2) := by
  cases l with
  | nil => exact hb
  | cons x t => exact hk x t
theorem obr_par {α : Type} (hb : Rl b1 b2) {o : Option α} {k1 : α → R1} {k2 : α → R2} (hk : ∀ x, Rl (k1 x) (k2 x)) : Rl (obr b1 o k1) (obr b2 o k2) := by
  cases o with
  | none => exact hb
  | some x => exact hk x
theorem gdr_par (hb : Rl b1 b2) {b : Bool} {x1 : R1} {x2 : R2} (hk : Rl x1 x2) : Rl (gdr b1 b x1) (gdr b2 b x2) := by
  cases b with
  | false => exact hb
  | true => exact hk
theorem cnd_par {b : Bool} {x1 y1 : R1} {x2 y2 : R2} (hx : Rl x1 x2) (hy : Rl y1 y2) : Rl (bif b then x1 else y1) (bif b then x2 else y2) := by
  cases b with
  | false => exact hy
  | true => exact hx
theorem z_b0_par (hb : Rl b1 b2) {op : Nat} {lk : List Nat} {lv : ZL} {st : List ZV} {k1 : ZL → List ZV → R1} {k2 : ZL → List ZV → R2} (hk : ∀ lv st, Rl (k1 lv st) (k2 lv st)) : Rl (z_b0 b1 op lk lv st k1) (z_b0 b2 op lk lv st k2) := by
  unfold z_b0 z_psh
  refine cnd_par (cnd_par (lcr_par hb (fun _ _ => lcr_par hb (fun _ _ => cnd_par (hk _ _) (cnd_par (hk _ _) (hk _ _))))) (lcr_par hb (fun _ _ => obr_par hb (fun _ => gdr_par hb (hk _ _))))) (cnd_par (lcr_par hb (fun _ _ => lcr_par hb (fun _ _ => gdr_par hb (hk _ _)))) (lcr_par hb (fun _ _ => lcr_par hb (fun _ _ => obr_par hb (fun _ => gdr_par hb (hk _ _))))))
theorem z_getf_par (hb : Rl b1 b2) (has : ∀ c x1 x2, Rl x1 x2 → Rl (as1 c x1) (as2 c x2)) {lk : List Nat} {h : PH} {st : List ZV} {k1 : List ZV → R1} {k2 : List ZV → R2} (hk : ∀ st, Rl (k1 st) (k2 st)) : Rl (z_getf b1 as1 sh lk h st k1) (z_getf b2 as2 sh lk h st k2) := by
  unfold z_getf
  exact lcr_par hb (fun _ _ => lcr_par hb (fun _ _ => lcr_par hb (fun _ _ => cnd_par (obr_par hb (fun _ => gdr_par hb (obr_par hb (fun _ => cnd_par (has _ _ _ (hk _)) (cnd_par (has _ _ _ (hk _)) (gdr_par hb (hk _))))))) (gdr_par hb (cnd_par (hk _) (hk _))))))
theorem z_putf_par (hb : Rl b1 b2) {lk : List Nat} {h : PH} {st : List ZV} {k1 : PH → List ZV → R1} {k2 : PH → List ZV → R2} (hk : ∀ h st, Rl (k1 h st) (k2 h st)) : Rl (z_putf b1 sh lk h st k1) (z_putf b2 sh lk h st k2) := by
  unfold z_putf
  exact lcr_par hb (fun _ _ => lcr_par hb (fun _ _ => lcr_par hb (fun _ _ => lcr_par hb (fun _ _ => lcr_par hb (fun _ _ => gdr_par hb (obr_par hb (fun _ => gdr_par hb (hk _ _))))))))
theorem z_sel_par (hb : Rl b1 b2) (hbr : ∀ c x1 x2 y1 y2, Rl x1 x2 → Rl y1 y2 → Rl (br1 c x1 y1) (br2 c x2 y2)) {i : Int} {k1 : ZV → R1} {k2 : ZV → R2} (hk : ∀ v, Rl (k1 v) (k2 v)) : ∀ (fs : List (Nat × Nat)) (j : Nat), Rl (z_sel b1 br1 i k1 fs j) (z_sel b2 br2 i k2 fs j)
  | [], _ => hb
  | f :: t, j => hbr _ _ _ _ _ (hk _) (z_sel_par hb hbr hk t (j + 1))
theorem z_ald_par (hb : Rl b1 b2) (hbr : ∀ c x1 x2 y1 y2, Rl x1 x2 → Rl y1 y2 → Rl (br1 c x1 y1) (br2 c x2 y2)) (has : ∀ c x1 x2, Rl x1 x2 → Rl (as1 c x1) (as2 c x2)) {kd : Nat} {h : PH} {st : List ZV} {k1 : List ZV → R1} {k2 : List ZV → R2} (hk : ∀ st, Rl (k1 st) (k2 st)) : Rl (z_ald b1 br1 as1 sh sb sl si kd h st k1) (z_ald b2 br2 as2 sh sb sl si kd h st k2) := by
  unfold z_ald
  exact lcr_par hb (fun _ _ => lcr_par hb (fun _ _ => gdr_par hb (cnd_par (obr_par hb (fun _ => cnd_par (gdr_par hb (z_sel_par hb hbr (fun _ => hk _) _ _)) (gdr_par hb (has _ _ _ (cnd_par (has _ _ _ (hk _)) (has _ _ _ (hk _))))))) (gdr_par hb (cnd_par (gdr_par hb (has _ _ _ (has _ _ _ (hk _)))) (gdr_par hb (has _ _ _ (hk _))))))))
theorem z_ast_par (hb : Rl b1 b2) (has : ∀ c x1 x2, Rl x1 x2 → Rl (as1 c x1) (as2 c x2)) {kd : Nat} {h : PH} {st : List ZV} {k1 : PH → List ZV → R1} {k2 : PH → List ZV → R2} (hk : ∀ h st, Rl (k1 h st) (k2 h st)) : Rl (z_ast b1 as1 sh kd h st k1) (z_ast b2 as2 sh kd h st k2) := by
  unfold z_ast
  exact lcr_par hb (fun _ _ => lcr_par hb (fun _ _ => lcr_par hb (fun _ _ => gdr_par hb (obr_par hb (fun _ => gdr_par hb (has _ _ _ (hk _ _)))))))
theorem z_alen_par (hb : Rl b1 b2) {a : ZV} {k1 : ZV → R1} {k2 : ZV → R2} (hk : ∀ v, Rl (k1 v) (k2 v)) : Rl (z_alen b1 sh sb sl a k1) (z_alen b2 sh sb sl a k2) := by
  unfold z_alen
  exact cnd_par (obr_par hb (fun _ => hk _)) (gdr_par hb (cnd_par (hk _) (hk _)))
theorem z_sw_par (hbr : ∀ c x1 x2 y1 y2, Rl x1 x2 → Rl y1 y2 → Rl (br1 c x1 y1) (br2 c x2 y2)) {x : Int} {g1 : Nat → R1} {g2 : Nat → R2} (hg : ∀ t, Rl (g1 t) (g2 t)) {d : Nat} : ∀ (ks : List Nat), Rl (z_sw br1 x g1 d ks) (z_sw br2 x g2 d ks)
  | [] => hg d
  | [_] => hg d
  | k :: t :: r => hbr (x = z32 k) _ _ _ _ (hg t) (z_sw_par hbr hg r)
theorem z_inv_par (hb : Rl b1 b2) (has : ∀ c x1 x2, Rl x1 x2 → Rl (as1 c x1) (as2 c x2)) (hcl : ∀ C h as (k1 : PH → List ZV → R1) (k2 : PH → List ZV → R2), (∀ h' r, Rl (k1 h' r) (k2 h' r)) → Rl (cl1 C h as k1) (cl2 C h as k2)) {mt : Nat → Nat → Option MR} {lk : List Nat} {h : PH} {st : List ZV} {k1 : PH → List ZV → R1} {k2 : PH → List ZV → R2} (hk : ∀ h st, Rl (k1 h st) (k2 h st)) : Rl (z_inv b1 as1 cl1 mt lk h st k1) (z_inv b2 as2 cl2 mt lk h st k2) := by
  unfold z_inv
  exact lcr_par hb (fun _ _ => cnd_par (lcr_par hb (fun _ _ => lcr_par hb (fun _ _ => lcr_par hb (fun _ _ => lcr_par hb (fun _ _ => lcr_par hb (fun _ _ => gdr_par hb (has _ _ _ (hk _ _)))))))) (cnd_par (lcr_par hb (fun _ _ => lcr_par hb (fun _ _ => hk _ _))) (cnd_par (lcr_par hb (fun _ _ => lcr_par hb (fun _ _ => hk _ _))) (lcr_par hb (fun _ _ => obr_par hb (fun _ => obr_par hb (fun _ => hcl _ _ _ _ _ (fun _ _ => hk _ _))))))))
theorem z_bin_par (hb : Rl b1 b2) {t : Nat} {f : Int → Int → Int} {st : List ZV} {k1 : List ZV → R1} {k2 : List ZV → R2} (hk : ∀ st, Rl (k1 st) (k2 st)) : Rl (z_bin b1 t f st k1) (z_bin b2 t f st k2) := by
  unfold z_bin
  exact lcr_par hb (fun _ _ => lcr_par hb (fun _ _ => gdr_par hb (hk _)))
theorem z_dv_par (hb : Rl b1 b2) (has : ∀ c x1 x2, Rl x1 x2 → Rl (as1 c x1) (as2 c x2)) {t : Nat} {f : Int → Int → Int} {st : List ZV} {k1 : List ZV → R1} {k2 : List ZV → R2} (hk : ∀ st, Rl (k1 st) (k2 st)) : Rl (z_dv b1 as1 t f st k1) (z_dv b2 as2 t f st k2) := by
  unfold z_dv
  exact lcr_par hb (fun _ _ => lcr_par hb (fun _ _ => gdr_par hb (has _ _ _ (hk _))))
theorem z_b3_par (hb : Rl b1 b2) (has : ∀ c x1 x2, Rl x1 x2 → Rl (as1 c x1) (as2 c x2)) {op : Nat} {st : List ZV} {k1 : List ZV → R1} {k2 : List ZV → R2} (hk : ∀ st, Rl (k1 st) (k2 st)) : Rl (z_b3 b1 as1 op st k1) (z_b3 b2 as2 op st k2) := by
  unfold z_b3
  exact cnd_par (z_bin_par hb hk) (cnd_par (z_dv_par hb has hk) (cnd_par (z_dv_par hb has hk) (cnd_par (z_bin_par hb hk)
    (cnd_par (lcr_par hb (fun _ _ => lcr_par hb (fun _ _ => gdr_par hb (hk _)))) (cnd_par (lcr_par hb (fun _ _ => lcr_par hb (fun _ _ => gdr_par hb (hk _))))
    (cnd_par (lcr_par hb (fun _ _ => gdr_par hb (hk _))) (cnd_par (lcr_par hb (fun _ _ => gdr_par hb (hk _))) (cnd_par (lcr_par hb (fun _ _ => gdr_par hb (hk _)))
    (cnd_par (lcr_par hb (fun _ _ => cnd_par (gdr_par hb (hk _)) (cnd_par (cnd_par (hk _) (lcr_par hb (fun _ _ => gdr_par hb (hk _)))) (gdr_par hb (hk _)))))
    (cnd_par (lcr_par hb (fun _ _ => gdr_par hb (hk _))) (cnd_par (z_dv_par hb has hk) (z_dv_par hb has hk))))))))))))
/-- places that are known may be fewer on the other side -/
theorem z_st_pal (hb : Rl b1 b2) (hbr : ∀ c x1 x2 y1 y2, Rl x1 x2 → Rl y1 y2 → Rl (br1 c x1 y1) (br2 c x2 y2)) (has : ∀ c x1 x2, Rl x1 x2 → Rl (as1 c x1) (as2 c x2)) (hcl : ∀ C h as (k1 : PH → List ZV → R1) (k2 : PH → List ZV → R2), (∀ h' r, Rl (k1 h' r) (k2 h' r)) → Rl (cl1 C h as k1) (cl2 C h as k2)) {mt : Nat → Nat → Option MR} {e : ME} {h : PH} {l1 l2 : ZL} {st : List ZV} {nx1 : PH → ZL → List ZV → R1} {nx2 : PH → ZL → List ZV → R2} {jp1 : Nat → PH → ZL → List ZV → R1} {jp2 : Nat → PH → ZL → List ZV → R2} (h0 : Rl (z_b0 b1 e.2.1 e.2.2.2.1 l1 st (fun lv' st' => nx1 h lv' st')) (z_b0 b2 e.2.1 e.2.2.2.1 l2 st (fun lv' st' => nx2 h lv' st'))) (hn : ∀ h st, Rl (nx1 h l1 st) (nx2 h l2 st)) (hj : ∀ t h st, Rl (jp1 t h l1 st) (jp2 t h l2 st)) : Rl (z_st b1 br1 as1 cl1 sh sb sl si fm mt e h l1 st nx1 jp1) (z_st b2 br2 as2 cl2 sh sb sl si fm mt e h l2 st nx2 jp2) := by
  unfold z_st
  exact cnd_par h0 (cnd_par (cnd_par (z_getf_par hb has (fun _ => hn _ _)) (cnd_par (z_putf_par hb (fun _ _ => hn _ _)) (cnd_par (z_ald_par hb hbr has (fun _ => hn _ _)) (gdr_par hb (z_ast_par hb has (fun _ _ => hn _ _))))))
    (cnd_par (cnd_par (lcr_par hb (fun _ _ => lcr_par hb (fun _ _ => cnd_par (lcr_par hb (fun _ _ => lcr_par hb (fun _ _ => gdr_par hb (hbr _ _ _ _ _ (hj _ _ _) (hn _ _))))) (lcr_par hb (fun _ _ => gdr_par hb (hbr _ _ _ _ _ (hj _ _ _) (hn _ _))))))) (cnd_par (lcr_par hb (fun _ _ => hj _ _ _)) (gdr_par hb (z_inv_par hb has hcl (fun _ _ => hn _ _)))))
    (cnd_par (z_b3_par hb has (fun _ => hn _ _)) (cnd_par (lcr_par hb (fun _ _ => z_alen_par hb (fun _ => hn _ _))) (cnd_par (lcr_par hb (fun _ _ => cnd_par (hn _ _) (hn _ _)))
    (cnd_par (lcr_par hb (fun _ _ => gdr_par hb (lcr_par hb (fun _ _ => lcr_par hb (fun _ _ => lcr_par hb (fun _ _ => hbr _ _ _ _ _ (hj _ _ _) (z_sw_par hbr (fun _ => hj _ _ _) _))))))) (cnd_par (lcr_par hb (fun _ _ => gdr_par hb (lcr_par hb (fun _ _ => z_sw_par hbr (fun _ => hj _ _ _) _)))) (gdr_par hb (z_b3_par hb has (fun _ => hn _ _))))))))))
theorem z_st_par (hb : Rl b1 b2) (hbr : ∀ c x1 x2 y1 y2, Rl x1 x2 → Rl y1 y2 → Rl (br1 c x1 y1) (br2 c x2 y2)) (has : ∀ c x1 x2, Rl x1 x2 → Rl (as1 c x1) (as2 c x2)) (hcl : ∀ C h as (k1 : PH → List ZV → R1) (k2 : PH → List ZV → R2), (∀ h' r, Rl (k1 h' r) (k2 h' r)) → Rl (cl1 C h as k1) (cl2 C h as k2)) {mt : Nat → Nat → Option MR} {e : ME} {h : PH} {lv : ZL} {st : List ZV} {nx1 : PH → ZL → List ZV → R1} {nx2 : PH → ZL → List ZV → R2} {jp1 : Nat → PH → ZL → List ZV → R1} {jp2 : Nat → PH → ZL → List ZV → R2} (hn : ∀ h lv st, Rl (nx1 h lv st) (nx2 h lv st)) (hj : ∀ t h lv st, Rl (jp1 t h lv st) (jp2 t h lv st)) : Rl (z_st b1 br1 as1 cl1 sh sb sl si fm mt e h lv st nx1 jp1) (z_st b2 br2 as2 cl2 sh sb sl si fm mt e h lv st nx2 jp2) :=
  z_st_pal hb hbr has hcl (z_b0_par hb (fun _ _ => hn _ _ _)) (fun _ _ => hn _ _ _) (fun _ _ _ => hj _ _ _ _)
end ZP
end
section
/-! 25a3.zr -/
/-! PLAIN RUNS, 3: steps, runs, calls -/
/-- what a plain run is told: texts, the script's length and ints, shapes, a value that is not looked into -/
abbrev ZP : Type := (Nat → List Nat) × Nat × (Nat → Int) × SHP × ZV
abbrev CRl : Type := MR → PH → List ZV → PH → List ZV → Prop
def exB (c a b : Prop) : Prop := (c ∧ a) ∨ (¬ c ∧ b)
def exA (c a : Prop) : Prop := c ∧ a
def exC (cr : CRl) (C : MR) (h : PH) (as : List ZV) (k : PH → List ZV → Prop) : Prop := ∃ h' r, cr C h as h' r ∧ k h' r
section ZR
variable (Z : ZP)
/-- one step -/
def zSt (cr : CRl) (M : MR) (s s' : ZS) : Prop := ∃ e ∈ M.2.2.2.2.2.2, e.1 = s.1 ∧ z_st (R := Prop) False exB exA (exC cr) Z.2.2.2.1 Z.1 Z.2.1 Z.2.2.1 Z.2.2.2.2 mth e s.2.1 s.2.2.1 s.2.2.2 (fun h lv st => s' = (s.1 + e.2.2.1, h, lv, st)) (fun t h lv st => s' = (t, h, lv, st))
/-- n steps -/
def Zn (cr : CRl) : Nat → MR → ZS → ZS → Prop
  | 0 => fun _ s s' => s = s'
  | n + 1 => fun M s s' => ∃ s1, zSt Z cr M s s1 ∧ Zn cr n M s1 s'
end ZR
def rokz (ret : Option FieldType) (ins : Instr) (st : List ZV) : Prop := match ins with
  | .ireturn => ∃ x, st = [(0, x)] ∧ R32 x ∧ (ret = some .int ∨ (ret = some .boolean ∧ (x = 0 ∨ x = 1)) ∨ ret = some .byte ∨ ret = some .char)
  | .lreturn => ∃ x, st = [(1, x)] ∧ R64 x ∧ ret = some .long
  | .areturn => ∃ v, st = [v] ∧ ∃ n, ret = some (.object n)
  | .return_ => st = [] ∧ ret = none
  | _ => False
/-- at a return -/
def rtz (M : MR) (pc : Nat) (st : List ZV) : Prop := ∃ ins, decode M.2.1 pc = .ok (ins, 1) ∧ rokz M.2.2.2.1 ins st
section ZR
variable (Z : ZP)
/-- a call, its calls no more than f deep -/
def Zc : Nat → CRl
  | 0 => fun _ _ _ _ _ => False
  | f + 1 => fun C h as h' r => Mgd C ∧ ∃ n pc' lv', Zn Z (Zc f) n C (0, h, z_locs 0 as, []) (pc', h', lv', r) ∧ rtz C pc' r
/-- a call, as deep as it may be -/
def CP (C : MR) (h : PH) (as : List ZV) (h' : PH) (r : List ZV) : Prop := ∃ f, Zc Z f C h as h' r
end ZR
section ZR
variable {Z : ZP}
theorem zSt_mono {c1 c2 : CRl} (hc : ∀ C h as h' r, c1 C h as h' r → c2 C h as h' r) {M : MR} {s s' : ZS} (H : zSt Z c1 M s s') : zSt Z c2 M s s' := by
  obtain ⟨e, he, hpc, hz⟩ := H
  refine ⟨e, he, hpc, ?_⟩
  exact z_st_par (Rl := fun a b : Prop => a → b) (fun h => h) (fun c x1 x2 y1 y2 hx hy h => h.elim (fun q => Or.inl ⟨q.1, hx q.2⟩) (fun q => Or.inr ⟨q.1, hy q.2⟩)) (fun c x1 x2 hx h => ⟨h.1, hx h.2⟩) (fun C h as k1 k2 hk q => by
    obtain ⟨h', r, a, b⟩ := q
    exact ⟨h', r, hc _ _ _ _ _ a, hk _ _ b⟩) (fun _ _ _ h => h) (fun _ _ _ _ h => h) hz
theorem Zn_mono {c1 c2 : CRl} (hc : ∀ C h as h' r, c1 C h as h' r → c2 C h as h' r) {M : MR} : ∀ (n : Nat) {s s' : ZS}, Zn Z c1 n M s s' → Zn Z c2 n M s s'
  | 0, _, _, H => H
  | n + 1, _, _, H => by
    obtain ⟨s1, a, b⟩ := H
    exact ⟨s1, zSt_mono hc a, Zn_mono hc n b⟩
theorem Zc_succ : ∀ (f : Nat) (C : MR) (h : PH) (as : List ZV) (h' : PH) (r : List ZV), Zc Z f C h as h' r → Zc Z (f + 1) C h as h' r
  | 0, _, _, _, _, _, H => H.elim
  | f + 1, C, h, as, h', r, H => by
    obtain ⟨g, n, pc', lv', a, b⟩ := H
    exact ⟨g, n, pc', lv', Zn_mono (Zc_succ f) n a, b⟩
theorem Zc_le {f g : Nat} (hfg : f ≤ g) {C : MR} {h : PH} {as : List ZV} {h' : PH} {r : List ZV} (H : Zc Z f C h as h' r) : Zc Z g C h as h' r := by
  induction hfg with
  | refl => exact H
  | step _ ih => exact Zc_succ _ _ _ _ _ _ ih
theorem Zn_le {f g n : Nat} (hfg : f ≤ g) {M : MR} {s s' : ZS} (H : Zn Z (Zc Z f) n M s s') : Zn Z (Zc Z g) n M s s' := Zn_mono (fun _ _ _ _ _ q => Zc_le hfg q) n H
theorem Zn_add {cr : CRl} {M : MR} : ∀ (n : Nat) {m : Nat} {s s1 s2 : ZS}, Zn Z cr n M s s1 → Zn Z cr m M s1 s2 → Zn Z cr (n + m) M s s2
  | 0, m, s, s1, s2, a, b => by
    have a : s = s1 := a
    subst a
    rw [Nat.zero_add]
    exact b
  | n + 1, m, s, s1, s2, a, b => by
    obtain ⟨s3, c, d⟩ := a
    rw [show n + 1 + m = (n + m) + 1 by omega]
    exact ⟨s3, c, Zn_add n d b⟩
theorem zSt_det {cr : CRl} (hc : ∀ C h as h1 r1 h2 r2, cr C h as h1 r1 → cr C h as h2 r2 → h1 = h2 ∧ r1 = r2) {M : MR} (hM : Mgd M) {s s1 s2 : ZS} (H1 : zSt Z cr M s s1) (H2 : zSt Z cr M s s2) : s1 = s2 := by
  obtain ⟨e, he, hpc, hz⟩ := H1
  obtain ⟨e', he', hpc', hz'⟩ := H2
  have hee := hM.2 e he e' he' (by rw [hpc, hpc'])
  subst hee
  exact z_st_par (Rl := fun a b : Prop => a → b → s1 = s2) (fun h _ => h.elim) (fun c x1 x2 y1 y2 hx hy h h' => h.elim (fun q => h'.elim (fun q' => hx q.2 q'.2) (fun q' => absurd q.1 q'.1)) (fun q => h'.elim (fun q' => absurd q'.1 q.1) (fun q' => hy q.2 q'.2))) (fun c x1 x2 hx h h' => hx h.2 h'.2) (fun C h as k1 k2 hk q q' => by
    obtain ⟨h1, r1, a, b⟩ := q
    obtain ⟨h2, r2, a', b'⟩ := q'
    obtain ⟨rfl, rfl⟩ := hc _ _ _ _ _ _ _ a a'
    exact hk _ _ b b') (fun _ _ _ h h' => h.trans h'.symm) (fun _ _ _ _ h h' => h.trans h'.symm) hz hz'
theorem zSt_rt {cr : CRl} {M : MR} (hM : Mgd M) {s s1 : ZS} (hr : rtz M s.1 s.2.2.2) (H : zSt Z cr M s s1) : False := by
  obtain ⟨e, he, hpc, hz⟩ := H
  obtain ⟨ins, hd, hk⟩ := hr
  have hok := hM.1 e he
  obtain ⟨pc0, op, len, lk, ins0⟩ := e
  unfold eok at hok
  have k1 := bb_and hok
  have k2 := bb_and k1.2
  have hdg : decode M.2.1 pc0 = .ok (ins0, len) := of_decide_eq_true k1.1
  have hop : op = ax_op ins0 := bb_eq k2.1
  have hpc : pc0 = s.1 := hpc
  rw [hpc, hd] at hdg
  cases hdg
  subst hop
  cases ins <;> first | (exact hk.elim) | (exact hz.elim)
theorem Zn_det {cr : CRl} (hc : ∀ C h as h1 r1 h2 r2, cr C h as h1 r1 → cr C h as h2 r2 → h1 = h2 ∧ r1 = r2) {M : MR} (hM : Mgd M) : ∀ (n m : Nat) {s s1 s2 : ZS}, Zn Z cr n M s s1 → Zn Z cr m M s s2 → rtz M s1.1 s1.2.2.2 → rtz M s2.1 s2.2.2.2 → s1 = s2
  | 0, 0, _, _, _, a, b, _, _ => by
    have a := a
    exact Eq.trans (Eq.symm a) b
  | 0, m + 1, s, s1, s2, a, b, r1, r2 => by
    have a : s = s1 := a
    subst a
    obtain ⟨s3, c, -⟩ := b
    exact (zSt_rt hM r1 c).elim
  | n + 1, 0, s, s1, s2, a, b, r1, r2 => by
    have b : s = s2 := b
    subst b
    obtain ⟨s3, c, -⟩ := a
    exact (zSt_rt hM r2 c).elim
  | n + 1, m + 1, s, s1, s2, a, b, r1, r2 => by
    obtain ⟨s3, c, d⟩ := a
    obtain ⟨s4, c', d'⟩ := b
    have e := zSt_det hc hM c c'
    subst e
    exact Zn_det hc hM n m d d' r1 r2
theorem Zc_det : ∀ (f : Nat) (C : MR) (h : PH) (as : List ZV) (h1 : PH) (r1 : List ZV) (h2 : PH) (r2 : List ZV), Zc Z f C h as h1 r1 → Zc Z f C h as h2 r2 → h1 = h2 ∧ r1 = r2
  | 0, _, _, _, _, _, _, _, H, _ => H.elim
  | f + 1, C, h, as, h1, r1, h2, r2, H, H' => by
    obtain ⟨g, n, pc1, lv1, a, b⟩ := H
    obtain ⟨-, m, pc2, lv2, a', b'⟩ := H'
    have e := Zn_det (Zc_det f) g n m a a' b b'
    cases e
    exact ⟨rfl, rfl⟩
theorem CP_det {C : MR} {h : PH} {as : List ZV} {h1 : PH} {r1 : List ZV} {h2 : PH} {r2 : List ZV} (H : CP Z C h as h1 r1) (H' : CP Z C h as h2 r2) : h1 = h2 ∧ r1 = r2 := by
  obtain ⟨f, a⟩ := H
  obtain ⟨g, b⟩ := H'
  exact Zc_det (max f g) C h as h1 r1 h2 r2 (Zc_le (Nat.le_max_left _ _) a) (Zc_le (Nat.le_max_right _ _) b)
end ZR
end
section
/-! 25a4.zq -/
/-! PLAIN RUNS, 4: values of the machine as values of plain runs; a walk's end is a plain run's end -/
theorem z32_eq (n : Nat) : z32 n = (nI n).toInt := by
  unfold z32
  cases hb : Nat.blt n 2147483648 with
  | true =>
    have := bb_lt hb
    rw [nI_toInt_bmod, Int.bmod_def]
    show (n : Int) = _
    omega
  | false =>
    have := bb_nlt hb
    simp only [cond_false]
    cases hc : Nat.blt n 4294967296 with
    | true =>
      have := bb_lt hc
      rw [nI_toInt_bmod, Int.bmod_def]
      show Int.negSucc (4294967295 - n) = _
      rw [Int.negSucc_eq]
      omega
    | false => rfl
theorem z64_eq (n : Nat) : z64 n = (lN n).toInt := by
  unfold z64
  cases hb : Nat.blt n 9223372036854775808 with
  | true =>
    have := bb_lt hb
    rw [lN_toInt_bmod, Int.bmod_def]
    show (n : Int) = _
    omega
  | false =>
    have := bb_nlt hb
    simp only [cond_false]
    cases hc : Nat.blt n 18446744073709551616 with
    | true =>
      have := bb_lt hc
      rw [lN_toInt_bmod, Int.bmod_def]
      show Int.negSucc (18446744073709551615 - n) = _
      rw [Int.negSucc_eq]
      omega
    | false => rfl
/-- an entry of a method's table, and what is decoded there -/
def Dg (M : MR) (pc : Nat) (ins : Instr) (len : Nat) (lk : List Nat) : Prop := decode M.2.1 pc = .ok (ins, len) ∧ ((pc, ax_op ins, len, lk, ins) : ME) ∈ M.2.2.2.2.2.2
/-- old cells and what is not looked into, by numbers of their own, as they are -/
def tv (sp : Nat → Nat) (V : Value) : Value := match V with
  | .retAddr i => .ref (sp i)
  | .float _ => vq sp
  | V => V
def lvt (sp : Nat → Nat) (lv : LVs) : LVs := lv.map (fun q => (q.1, tv sp q.2))
theorem tv_cat (sp : Nat → Nat) (V : Value) : (tv sp V).category = V.category := by
  cases V with
  | float x => exact vq_cat sp
  | _ => rfl
theorem tv_pf (sp ad : Nat → Nat) (g : Nat → Int) (k : Nat) (f : Nat × Nat) : tv sp (pf ad g k f) = pf ad g k f := by
  unfold pf
  split <;> rfl
theorem lvt_mem {sp : Nat → Nat} {lv : LVs} {k : Nat} {V : Value} (h : (k, V) ∈ lv) : (k, tv sp V) ∈ lvt sp lv := List.mem_map.mpr ⟨(k, V), h, rfl⟩
theorem lvt_flt {sp : Nat → Nat} {p : Nat × Value → Bool} (hp : ∀ q, p (q.1, tv sp q.2) = p q) : ∀ (lv : LVs), (lvt sp lv).filter p = lvt sp (lv.filter p)
  | [] => rfl
  | q :: t => by
    show List.filter p ((q.1, tv sp q.2) :: lvt sp t) = lvt sp (List.filter p (q :: t))
    rw [List.filter_cons, List.filter_cons, hp, lvt_flt hp t]
    cases p q <;> rfl
theorem tv_p1 (sp : Nat → Nat) (k : Nat) (q : Nat × Value) : pk1 k (q.1, tv sp q.2) = pk1 k q := by
  unfold pk1
  dsimp only
  rw [tv_cat]
theorem tv_p2 (sp : Nat → Nat) (k : Nat) (q : Nat × Value) : pk2 k (q.1, tv sp q.2) = pk2 k q := by
  unfold pk2
  dsimp only
  rw [tv_cat]
theorem lvt_args (sp : Nat → Nat) : ∀ (as : List Value) (i : Nat), lv_args i (as.map (tv sp)) = lvt sp (lv_args i as)
  | [], _ => rfl
  | v :: r, i => by
    show (i, tv sp v) :: lv_args (if (tv sp v).category = 2 then i + 2 else i + 1) (r.map (tv sp)) = (i, tv sp v) :: lvt sp (lv_args (if v.category = 2 then i + 2 else i + 1) r)
    rw [tv_cat, lvt_args sp r]
theorem tv_sum (sp : Nat → Nat) (l : List Value) : ((l.map (tv sp)).map fun v => v.category) = l.map fun v => v.category := by
  rw [List.map_map]
  exact List.map_congr_left (fun v _ => tv_cat sp v)
/-- what may be taken for a reference -/
def isRf (V : Value) : Prop := (∃ x, V = .ref x) ∨ ∃ i, V = .retAddr i
theorem isRf.tv {V : Value} (h : isRf V) (sp : Nat → Nat) : ∃ x, tv sp V = .ref x := by
  rcases h with ⟨x, rfl⟩ | ⟨i, rfl⟩
  · exact ⟨x, rfl⟩
  · exact ⟨sp i, rfl⟩
/-- the value of a push -/
def pvt (t n : Nat) : Value := match t with
  | 0 => .int (nI n)
  | 1 => .long (lN n)
  | _ => .retAddr n
/-- a value of the machine as one of plain runs -/
noncomputable def cz (ad : Nat → Nat) (V : Value) : ZV := match V with
  | .int x => (0, x.toInt)
  | .long x => (1, x.toInt)
  | .double _ => (1, 0)
  | .ref a => @ite _ (∃ c, ad c = a) (Classical.propDecidable _) (2, Int.ofNat (Classical.epsilon (fun c => ad c = a))) (7, 1)
  | .retAddr i => (6, Int.ofNat i)
  | _ => (7, 0)
def Inj (ad : Nat → Nat) : Prop := ∀ c c', ad c = ad c' → c = c'
theorem cz_i {ad : Nat → Nat} (x : Int32) : cz ad (.int x) = (0, x.toInt) := rfl
theorem cz_l {ad : Nat → Nat} (x : Int64) : cz ad (.long x) = (1, x.toInt) := rfl
theorem cz_s {ad : Nat → Nat} (i : Nat) : cz ad (.retAddr i) = (6, Int.ofNat i) := rfl
theorem cz_c {ad : Nat → Nat} (hi : Inj ad) (c : Nat) : cz ad (.ref (ad c)) = (2, Int.ofNat c) := by
  show @ite _ (∃ c', ad c' = ad c) (Classical.propDecidable _) _ _ = _
  rw [if_pos ⟨c, rfl⟩]
  have e := Classical.epsilon_spec (p := fun c' => ad c' = ad c) ⟨c, rfl⟩
  rw [hi _ _ e]
theorem cz_r {ad : Nat → Nat} {V : Value} (h : isRf V) : ztR (cz ad V).1 = true := by
  rcases h with ⟨a, rfl⟩ | ⟨i, rfl⟩
  · show ztR (@ite ZV (∃ c', ad c' = a) (Classical.propDecidable _) _ _).1 = true
    by_cases h1 : ∃ c', ad c' = a
    · rw [if_pos h1]; rfl
    · rw [if_neg h1]; rfl
  · rfl
theorem cz_t {ad : Nat → Nat} (V : Value) : Nat.beq (cz ad V).1 1 = Nat.beq V.category 2 := by
  cases V with
  | int x => rfl
  | long x => rfl
  | float x => rfl
  | double x => rfl
  | null => rfl
  | ref a =>
    have h := cz_r (ad := ad) (V := .ref a) (Or.inl ⟨a, rfl⟩)
    show Nat.beq (cz ad (.ref a)).1 1 = false
    generalize cz ad (.ref a) = v at h
    obtain ⟨t, z⟩ := v
    show Nat.beq t 1 = false
    have h : (Nat.beq t 2 || (Nat.beq t 6 || Nat.beq t 7)) = true := h
    rcases (Bool.or_eq_true _ _).mp h with q | q
    · rw [bb_eq q]; rfl
    · rcases (Bool.or_eq_true _ _).mp q with q | q
      · rw [bb_eq q]; rfl
      · rw [bb_eq q]; rfl
  | retAddr p => rfl
theorem cz_1 {ad : Nat → Nat} {V : Value} (h : V.category = 1) : Nat.beq (cz ad V).1 1 = false := by rw [cz_t, h]; rfl
theorem cz_2 {ad : Nat → Nat} {V : Value} (h : V.category = 2) : Nat.beq (cz ad V).1 1 = true := by rw [cz_t, h]; rfl
theorem znq {a b : Nat} (h : (!(Nat.beq a b)) = true) : a ≠ b := fun e => by
  rw [e, show Nat.beq b b = true from by rw [Nat.beq_eq]] at h
  cases h
/-- known places among those of a plain run -/
def Zlr (ad : Nat → Nat) (zl : ZL) (lv : LVs) : Prop := ∀ q ∈ lv, zlk zl q.1 = some (cz ad q.2)
theorem zlk_cons {q : Nat × ZV} {t : ZL} {i : Nat} : zlk (q :: t) i = bif Nat.beq q.1 i then some q.2 else zlk t i := rfl
theorem zfl_cons {p : Nat × ZV → Bool} {q : Nat × ZV} {t : ZL} : zfl p (q :: t) = bif p q then q :: zfl p t else zfl p t := rfl
theorem zlk_fl {p : Nat × ZV → Bool} {i : Nat} {v : ZV} (hp : p (i, v) = true) : ∀ {zl : ZL}, zlk zl i = some v → zlk (zfl p zl) i = some v
  | [], h => by cases h
  | q :: t, h => by
    rw [zlk_cons] at h
    rw [zfl_cons]
    cases hb : Nat.beq q.1 i with
    | true =>
      rw [hb] at h
      simp only [cond_true] at h
      have e1 : q.2 = v := Option.some.inj h
      have e2 := bb_eq hb
      have e3 : q = (i, v) := by rw [← e1, ← e2]
      rw [e3, hp]
      simp only [cond_true]
      rw [zlk_cons]
      rw [show Nat.beq (i, v).1 i = true from by rw [Nat.beq_eq]]
      rfl
    | false =>
      rw [hb] at h
      simp only [cond_false] at h
      cases hq : p q with
      | true =>
        simp only [cond_true]
        rw [zlk_cons, hb]
        exact zlk_fl hp h
      | false => exact zlk_fl hp h
theorem zk_p1 {ad : Nat → Nat} {k : Nat} {q : Nat × Value} : zk1 k (q.1, cz ad q.2) = pk1 k q := by
  unfold zk1 pk1
  dsimp only
  rw [cz_t, nbeq, nbeq, nbeq]
theorem zk_p2 {ad : Nat → Nat} {k : Nat} {q : Nat × Value} : zk2 k (q.1, cz ad q.2) = pk2 k q := by
  unfold zk2 pk2
  dsimp only
  rw [cz_t, nbeq, nbeq, nbeq, nbeq]
theorem Zlr.sto1 {ad : Nat → Nat} {zl : ZL} {lv : LVs} (h : Zlr ad zl lv) (k : Nat) (V : Value) : Zlr ad ((k, cz ad V) :: zfl (zk1 k) zl) ((k, V) :: lv.filter (pk1 k)) := fun q hq => by
  rw [zlk_cons]
  rcases List.mem_cons.mp hq with rfl | hq
  · rw [show Nat.beq (k, cz ad V).1 k = true from by rw [Nat.beq_eq]]; rfl
  · obtain ⟨q1, q2⟩ := List.mem_filter.mp hq
    have e : Nat.beq k q.1 = false := by
      rw [← zk_p1 (ad := ad)] at q2
      have w := bb_and q2
      exact bb_nb (fun z => znq w.1 z.symm)
    show (bif Nat.beq k q.1 then _ else _) = _
    rw [e]
    exact zlk_fl (by rw [zk_p1]; exact q2) (h q q1)
theorem Zlr.sto2 {ad : Nat → Nat} {zl : ZL} {lv : LVs} (h : Zlr ad zl lv) (k : Nat) (V : Value) : Zlr ad ((k, cz ad V) :: zfl (zk2 k) zl) ((k, V) :: lv.filter (pk2 k)) := fun q hq => by
  rw [zlk_cons]
  rcases List.mem_cons.mp hq with rfl | hq
  · rw [show Nat.beq (k, cz ad V).1 k = true from by rw [Nat.beq_eq]]; rfl
  · obtain ⟨q1, q2⟩ := List.mem_filter.mp hq
    have e : Nat.beq k q.1 = false := by
      rw [← zk_p2 (ad := ad)] at q2
      have w := bb_and q2
      exact bb_nb (fun z => znq w.1 z.symm)
    show (bif Nat.beq k q.1 then _ else _) = _
    rw [e]
    exact zlk_fl (by rw [zk_p2]; exact q2) (h q q1)
def sl0 (ρ0 : List Nat) : Nat := ρ0.getD 6 0 - 9223372036854775808
def si0 (sp : Nat → Nat) (j : Nat) : Int := (sp (1000 + j) : Int) - 9223372036854775808
def zp0 (sb : Nat → List Nat) (sp : Nat → Nat) (ρ0 : List Nat) (sh : SHP) : ZP := (sb, sl0 ρ0, si0 sp, sh, (7, 0))
/-- a plain run comes to this end -/
def ZQ (sb : Nat → List Nat) (sp : Nat → Nat) (ρ0 : List Nat) (ad : Nat → Nat) (sh : SHP) (M : MR) (pc : Nat) (h : PH) (lv : LVs) (st : List Value) (pc' : Nat) (h' : PH) (lv' : LVs) (st' : List Value) : Prop := Inj ad → ∀ zl, Zlr ad zl lv → ∃ f n zl', Zn (zp0 sb sp ρ0 sh) (Zc (zp0 sb sp ρ0 sh) f) n M (pc, h, zl, st.map (cz ad)) (pc', h', zl', st'.map (cz ad)) ∧ Zlr ad zl' lv'
end
section
/-! 25a5.zx -/
/-! PLAIN RUNS, 5: steps -/
theorem wi32 (x y : Int32) : w32 (x.toInt + y.toInt) = (x + y).toInt := by
  unfold w32
  rw [Int32.ofInt_add, Int32.ofInt_toInt, Int32.ofInt_toInt]
theorem z_ib_ok (op : Nat) (x y : Int32) (ho : op < 9) : z_ib op x.toInt y.toInt = (ax_fop op x y).toInt := by
  match op, ho with
  | 0, _ => exact wi32 x y
  | 1, _ => show w32 (x.toInt - y.toInt) = (x - y).toInt; unfold w32; rw [Int32.ofInt_sub, Int32.ofInt_toInt, Int32.ofInt_toInt]
  | 2, _ => show w32 (x.toInt * y.toInt) = (x * y).toInt; unfold w32; rw [Int32.ofInt_mul, Int32.ofInt_toInt, Int32.ofInt_toInt]
  | 3, _ => show zand x.toInt y.toInt = (x &&& y).toInt; unfold zand; rw [Int32.ofInt_toInt, Int32.ofInt_toInt]
  | 4, _ => show zor x.toInt y.toInt = (x ||| y).toInt; unfold zor; rw [Int32.ofInt_toInt, Int32.ofInt_toInt]
  | 5, _ => show zxor x.toInt y.toInt = (x ^^^ y).toInt; unfold zxor; rw [Int32.ofInt_toInt, Int32.ofInt_toInt]
  | 6, _ => show zshl x.toInt y.toInt = (x <<< (y &&& 31)).toInt; unfold zshl; rw [Int32.ofInt_toInt, Int32.ofInt_toInt]
  | 7, _ => show zshr x.toInt y.toInt = (x >>> (y &&& 31)).toInt; unfold zshr; rw [Int32.ofInt_toInt, Int32.ofInt_toInt]
  | 8, _ => show zush x.toInt y.toInt = (ax_fop 8 x y).toInt; unfold zush; rw [Int32.ofInt_toInt, Int32.ofInt_toInt]
  | n + 9, h => exact absurd h (by omega)
theorem z_lb_ok (op : Nat) (x y : Int64) (ho : op < 5) : z_lb op x.toInt y.toInt = (ax_flo op x y).toInt := by
  match op, ho with
  | 0, _ => show w64 (x.toInt + y.toInt) = (x + y).toInt; unfold w64; rw [Int64.ofInt_add, Int64.ofInt_toInt, Int64.ofInt_toInt]
  | 1, _ => show w64 (x.toInt - y.toInt) = (x - y).toInt; unfold w64; rw [Int64.ofInt_sub, Int64.ofInt_toInt, Int64.ofInt_toInt]
  | 2, _ => show w64 (x.toInt * y.toInt) = (x * y).toInt; unfold w64; rw [Int64.ofInt_mul, Int64.ofInt_toInt, Int64.ofInt_toInt]
  | 3, _ => show zland x.toInt y.toInt = (x &&& y).toInt; unfold zland; rw [Int64.ofInt_toInt, Int64.ofInt_toInt]
  | 4, _ => show zlor x.toInt y.toInt = (x ||| y).toInt; unfold zlor; rw [Int64.ofInt_toInt, Int64.ofInt_toInt]
  | n + 5, h => exact absurd h (by omega)
theorem z_un_ok (op : Nat) (x : Int32) (ho : op < 4) : z_un op x.toInt = (ax_fu op x).toInt := by
  match op, ho with
  | 0, _ => show zi2b x.toInt = x.toInt8.toInt32.toInt; unfold zi2b; rw [Int32.ofInt_toInt]
  | 1, _ => show zi2s x.toInt = x.toInt16.toInt32.toInt; unfold zi2s; rw [Int32.ofInt_toInt]
  | 2, _ => show zi2c x.toInt = (x.toUInt32 % 65536).toInt32.toInt; unfold zi2c; rw [Int32.ofInt_toInt]
  | 3, _ => show w32 (-x.toInt) = (-x).toInt; unfold w32; rw [Int32.ofInt_neg, Int32.ofInt_toInt]
  | n + 4, h => exact absurd h (by omega)
theorem zcp_ok (k : Nat) (x y : Int32) : zcp k x.toInt y.toInt ↔ ax_cp k x y := by
  match k with
  | 0 => exact Int32.toInt_inj
  | 1 => exact not_congr Int32.toInt_inj
  | 2 => exact Int32.lt_iff_toInt_lt.symm
  | 3 => exact Int32.le_iff_toInt_le.symm
  | 4 => exact Int32.lt_iff_toInt_lt.symm
  | n + 5 => exact Int32.le_iff_toInt_le.symm
theorem zcmp_ok (x y : Int64) : zcmp x.toInt y.toInt = (lg_cmp x y).toInt := by
  have z := lcmp_z x y
  have zx := zL_cast x
  have zy := zL_cast y
  unfold zcmp
  rw [z]
  by_cases c1 : x.toInt < y.toInt
  · rw [if_pos c1, if_pos (show zL x < zL y by omega)]; decide
  · rw [if_neg c1, if_neg (show ¬ zL x < zL y by omega)]
    by_cases c2 : y.toInt < x.toInt
    · rw [if_pos c2, if_pos (show zL y < zL x by omega)]; decide
    · rw [if_neg c2, if_neg (show ¬ zL y < zL x by omega)]; decide
section ZX
variable {sb : Nat → List Nat} {sp : Nat → Nat} {ρ0 : List Nat} {ad : Nat → Nat} {sh : SHP}
variable {M : MR} {pc pc1 pc' len : Nat} {ins : Instr} {lk : List Nat} {h h1 h' : PH} {lv lv1 lv' : LVs} {st st1 st' : List Value}
theorem zq_step (K : ZQ sb sp ρ0 ad sh M pc1 h1 lv1 st1 pc' h' lv' st') (hdg : Dg M pc ins len lk) (H : Inj ad → ∀ zl, Zlr ad zl lv → ∃ zl1, Zlr ad zl1 lv1 ∧ ∀ cr, z_st (R := Prop) False exB exA (exC cr) sh sb (sl0 ρ0) (si0 sp) (7, 0) mth (pc, ax_op ins, len, lk, ins) h zl (st.map (cz ad)) (fun hx lx sx => ((pc1, h1, zl1, st1.map (cz ad)) : ZS) = (pc + len, hx, lx, sx)) (fun t hx lx sx => ((pc1, h1, zl1, st1.map (cz ad)) : ZS) = (t, hx, lx, sx))) : ZQ sb sp ρ0 ad sh M pc h lv st pc' h' lv' st' := by
  intro hi zl hz
  obtain ⟨zl1, hz1, HH⟩ := H hi zl hz
  obtain ⟨f, n, zl', a, b⟩ := K hi zl1 hz1
  exact ⟨f, n + 1, zl', ⟨(pc1, h1, zl1, st1.map (cz ad)), ⟨(pc, ax_op ins, len, lk, ins), hdg.2, rfl, HH _⟩, a⟩, b⟩
/-- where places that are known stay as they are, and the next place comes -/
theorem zq_nx (K : ZQ sb sp ρ0 ad sh M (pc + len) h1 lv st1 pc' h' lv' st') (hdg : Dg M pc ins len lk) {op : Nat} (ho : ax_op ins = op) (H : Inj ad → ∀ zl, Zlr ad zl lv → ∀ cr, z_st (R := Prop) False exB exA (exC cr) sh sb (sl0 ρ0) (si0 sp) (7, 0) mth (pc, op, len, lk, ins) h zl (st.map (cz ad)) (fun hx lx sx => hx = h1 ∧ lx = zl ∧ sx = st1.map (cz ad)) (fun _ _ _ _ => False)) : ZQ sb sp ρ0 ad sh M pc h lv st pc' h' lv' st' := by
  refine zq_step K hdg (fun hi zl hz => ⟨zl, hz, fun cr => ?_⟩)
  have G := H hi zl hz cr
  rw [ho]
  exact z_st_par (Rl := fun a b : Prop => a → b) (fun h => h) (fun c x1 x2 y1 y2 hx hy h => h.elim (fun q => Or.inl ⟨q.1, hx q.2⟩) (fun q => Or.inr ⟨q.1, hy q.2⟩)) (fun c x1 x2 hx h => ⟨h.1, hx h.2⟩) (fun C h as k1 k2 hk q => by
    obtain ⟨h', r, a, b⟩ := q
    exact ⟨h', r, a, hk _ _ b⟩) (fun hx lx sx q => by obtain ⟨rfl, rfl, rfl⟩ := q; rfl) (fun _ _ _ _ q => q.elim) G
theorem lok_push {t n : Nat} (hlk : lok mth M pc ins (t :: n :: lk) = true) (ho : ax_op ins = 0) : t = 0 ∨ t = 1 ∨ (t = 6 ∧ n ≤ 4) := by
  cases ins <;> first | (exact absurd ho (Nat.ne_of_beq_eq_false rfl)) | skip
  case bipush i => exact Or.inl (bb_eq (bb_and (a := Nat.beq t 0) hlk).1)
  case iconst i => exact Or.inl (bb_eq (bb_and (a := Nat.beq t 0) hlk).1)
  case lconst i => exact Or.inr (Or.inl (bb_eq (bb_and (a := Nat.beq t 1) hlk).1))
  case sipush i => exact Or.inl (bb_eq (bb_and (a := Nat.beq t 0) hlk).1)
  case ldc idx =>
    match lk, hlk with
    | c1 :: j1 :: _, hlk =>
      have hl : (bif Nat.beq t 0 then wdq c1 j1 (.constant M.1.cls idx (nI n)) else Nat.beq t 6 && ((Nat.beq n 1 && (decide (M.1.cls = RX9) && Nat.beq idx 51)) || (Nat.beq n 3 && (decide (M.1.cls = RX12) && Nat.beq idx 171)))) = true := hlk
      cases ht : Nat.beq t 0 with
      | true => exact Or.inl (bb_eq ht)
      | false =>
        rw [ht] at hl
        have w := bb_and hl
        refine Or.inr (Or.inr ⟨bb_eq w.1, ?_⟩)
        rcases (Bool.or_eq_true _ _).mp w.2 with w2 | w2
        · have := bb_eq (bb_and w2).1; omega
        · have := bb_eq (bb_and w2).1; omega
  case ldc_w idx =>
    match lk, hlk with
    | c1 :: j1 :: _, hlk => exact Or.inl (bb_eq (bb_and (a := Nat.beq t 0) hlk).1)
  case ldc2_w idx =>
    match lk, hlk with
    | c1 :: j1 :: _, hlk => exact Or.inr (Or.inl (bb_eq (bb_and (a := Nat.beq t 1) hlk).1))
theorem zq_push {t n : Nat} (hdg : Dg M pc ins len (t :: n :: lk)) (hlk : lok mth M pc ins (t :: n :: lk) = true) (ho : ax_op ins = 0) (K : ZQ sb sp ρ0 ad sh M (pc + len) h lv (pvt t n :: st) pc' h' lv' st') : ZQ sb sp ρ0 ad sh M pc h lv st pc' h' lv' st' := by
  refine zq_nx K hdg ho (fun hi zl hz cr => ?_)
  rcases lok_push hlk ho with rfl | rfl | ⟨rfl, h4⟩
  · show h = h ∧ zl = zl ∧ (0, z32 n) :: st.map (cz ad) = (0, (nI n).toInt) :: st.map (cz ad)
    rw [z32_eq]
    exact ⟨rfl, rfl, rfl⟩
  · show h = h ∧ zl = zl ∧ (1, z64 n) :: st.map (cz ad) = (1, (lN n).toInt) :: st.map (cz ad)
    rw [z64_eq]
    exact ⟨rfl, rfl, rfl⟩
  · show h = h ∧ zl = zl ∧ (6, Int.ofNat n) :: st.map (cz ad) = (6, Int.ofNat n) :: st.map (cz ad)
    exact ⟨rfl, rfl, rfl⟩
theorem zq_load {k : Nat} {V : Value} (hdg : Dg M pc ins len (k :: lk)) (hV : (k, V) ∈ lv) (ho : (ax_op ins = 1 ∧ ∃ x, V = .int x) ∨ (ax_op ins = 2 ∧ ∃ x, V = .long x) ∨ (ax_op ins = 3 ∧ isRf V)) (K : ZQ sb sp ρ0 ad sh M (pc + len) h lv (V :: st) pc' h' lv' st') : ZQ sb sp ρ0 ad sh M pc h lv st pc' h' lv' st' := by
  rcases ho with ⟨ho, x, rfl⟩ | ⟨ho, x, rfl⟩ | ⟨ho, hrf⟩
  · refine zq_nx K hdg ho (fun hi zl hz cr => ?_)
    show obr False (zlk zl k) (fun v => gdr False (ztI v.1) (h = h ∧ zl = zl ∧ v :: st.map (cz ad) = _))
    rw [hz _ hV]
    exact ⟨rfl, rfl, rfl⟩
  · refine zq_nx K hdg ho (fun hi zl hz cr => ?_)
    show obr False (zlk zl k) (fun v => gdr False (ztL v.1) (h = h ∧ zl = zl ∧ v :: st.map (cz ad) = _))
    rw [hz _ hV]
    exact ⟨rfl, rfl, rfl⟩
  · refine zq_nx K hdg ho (fun hi zl hz cr => ?_)
    show obr False (zlk zl k) (fun v => gdr False (ztR v.1) (h = h ∧ zl = zl ∧ v :: st.map (cz ad) = _))
    rw [hz _ hV]
    show gdr False (ztR (cz ad V).1) _
    rw [cz_r hrf]
    exact ⟨rfl, rfl, rfl⟩
theorem zq_sto1 {k : Nat} {V : Value} (hdg : Dg M pc ins len (k :: lk)) (ho : (ax_op ins = 4 ∧ ∃ x, V = .int x) ∨ (ax_op ins = 6 ∧ isRf V)) (K : ZQ sb sp ρ0 ad sh M (pc + len) h ((k, V) :: lv.filter (pk1 k)) st pc' h' lv' st') : ZQ sb sp ρ0 ad sh M pc h lv (V :: st) pc' h' lv' st' := by
  refine zq_step K hdg (fun hi zl hz => ⟨(k, cz ad V) :: zfl (zk1 k) zl, hz.sto1 k V, fun cr => ?_⟩)
  rcases ho with ⟨ho, x, rfl⟩ | ⟨ho, hrf⟩
  · rw [ho]
    rfl
  · rw [ho]
    show gdr False (ztR (cz ad V).1) _
    rw [cz_r hrf]
    rfl
theorem zq_sto2 {k : Nat} {x : Int64} (hdg : Dg M pc ins len (k :: lk)) (ho : ax_op ins = 5) (K : ZQ sb sp ρ0 ad sh M (pc + len) h ((k, .long x) :: lv.filter (pk2 k)) st pc' h' lv' st') : ZQ sb sp ρ0 ad sh M pc h lv (.long x :: st) pc' h' lv' st' := by
  refine zq_step K hdg (fun hi zl hz => ⟨(k, cz ad (.long x)) :: zfl (zk2 k) zl, hz.sto2 k _, fun cr => ?_⟩)
  rw [ho]
  rfl
theorem zq_iinc {k n : Nat} {x : Int32} (hdg : Dg M pc ins len (k :: n :: lk)) (ho : ax_op ins = 7) (hV : (k, .int x) ∈ lv) (K : ZQ sb sp ρ0 ad sh M (pc + len) h ((k, .int (x + nI n)) :: lv.filter (pk1 k)) st pc' h' lv' st') : ZQ sb sp ρ0 ad sh M pc h lv st pc' h' lv' st' := by
  refine zq_step K hdg (fun hi zl hz => ⟨(k, cz ad (.int (x + nI n))) :: zfl (zk1 k) zl, hz.sto1 k _, fun cr => ?_⟩)
  rw [ho]
  show obr False (zlk zl k) (fun v => gdr False (Nat.beq v.1 0) (_ = (pc + len, h, (k, (0, w32 (v.2 + z32 n))) :: zfl (zk1 k) zl, st.map (cz ad))))
  rw [hz _ hV]
  show ((pc + len, h, (k, (0, (x + nI n).toInt)) :: zfl (zk1 k) zl, st.map (cz ad)) : ZS) = (pc + len, h, (k, (0, w32 (x.toInt + z32 n))) :: zfl (zk1 k) zl, st.map (cz ad))
  rw [z32_eq, wi32]
theorem zq_ib {op : Nat} {x y : Int32} (hdg : Dg M pc ins len lk) (ho : ax_op ins = op + 26) (ho2 : op < 9) (K : ZQ sb sp ρ0 ad sh M (pc + len) h lv (.int (ax_fop op x y) :: st) pc' h' lv' st') : ZQ sb sp ρ0 ad sh M pc h lv (.int y :: .int x :: st) pc' h' lv' st' := by
  have e := z_ib_ok op x y ho2
  rcases (show op = 0 ∨ op = 1 ∨ op = 2 ∨ op = 3 ∨ op = 4 ∨ op = 5 ∨ op = 6 ∨ op = 7 ∨ op = 8 by omega) with rfl | rfl | rfl | rfl | rfl | rfl | rfl | rfl | rfl <;> (refine zq_nx K hdg ho (fun hi zl hz cr => ?_); exact And.intro rfl (And.intro rfl (congrArg (fun z => ((0, z) : ZV) :: st.map (cz ad)) e)))
theorem zq_id {op : Nat} {x y : Int32} (hdg : Dg M pc ins len lk) (ho : ax_op ins = op + 35) (ho2 : op < 2) (hy : ¬ y = 0) (K : ZQ sb sp ρ0 ad sh M (pc + len) h lv (.int (if op = 0 then x / y else x - x / y * y) :: st) pc' h' lv' st') : ZQ sb sp ρ0 ad sh M pc h lv (.int y :: .int x :: st) pc' h' lv' st' := by
  have hy2 : y.toInt ≠ 0 := fun e => hy (Int32.toInt_inj.mp (by rw [e]; rfl))
  rcases (show op = 0 ∨ op = 1 by omega) with rfl | rfl
  · have e : zdiv x.toInt y.toInt = (x / y).toInt := by unfold zdiv; rw [Int32.ofInt_toInt, Int32.ofInt_toInt]
    refine zq_nx K hdg ho (fun hi zl hz cr => ?_)
    exact And.intro hy2 (And.intro rfl (And.intro rfl (congrArg (fun z => ((0, z) : ZV) :: st.map (cz ad)) e)))
  · have e : zrem x.toInt y.toInt = (x - x / y * y).toInt := by unfold zrem; rw [Int32.ofInt_toInt, Int32.ofInt_toInt]
    refine zq_nx K hdg ho (fun hi zl hz cr => ?_)
    exact And.intro hy2 (And.intro rfl (And.intro rfl (congrArg (fun z => ((0, z) : ZV) :: st.map (cz ad)) e)))
theorem zq_lb {op : Nat} {x y : Int64} (hdg : Dg M pc ins len lk) (ho : ax_op ins = op + 37) (ho2 : op < 5) (K : ZQ sb sp ρ0 ad sh M (pc + len) h lv (.long (ax_flo op x y) :: st) pc' h' lv' st') : ZQ sb sp ρ0 ad sh M pc h lv (.long y :: .long x :: st) pc' h' lv' st' := by
  have e := z_lb_ok op x y ho2
  rcases (show op = 0 ∨ op = 1 ∨ op = 2 ∨ op = 3 ∨ op = 4 by omega) with rfl | rfl | rfl | rfl | rfl <;> (refine zq_nx K hdg ho (fun hi zl hz cr => ?_); exact And.intro rfl (And.intro rfl (congrArg (fun z => ((1, z) : ZV) :: st.map (cz ad)) e)))
theorem zq_ld {op : Nat} {x y : Int64} (hdg : Dg M pc ins 1 lk) (ho : ax_op ins = op + 60) (ho2 : op < 2) (hy : ¬ y = 0) (K : ZQ sb sp ρ0 ad sh M (pc + 1) h lv (.long (if op = 0 then x / y else x - x / y * y) :: st) pc' h' lv' st') : ZQ sb sp ρ0 ad sh M pc h lv (.long y :: .long x :: st) pc' h' lv' st' := by
  have hy2 : y.toInt ≠ 0 := fun e => hy (Int64.toInt_inj.mp (by rw [e]; rfl))
  rcases (show op = 0 ∨ op = 1 by omega) with rfl | rfl
  · have e : zldiv x.toInt y.toInt = (x / y).toInt := by unfold zldiv; rw [Int64.ofInt_toInt, Int64.ofInt_toInt]
    refine zq_nx K hdg ho (fun hi zl hz cr => ?_)
    exact And.intro hy2 (And.intro rfl (And.intro rfl (congrArg (fun z => ((1, z) : ZV) :: st.map (cz ad)) e)))
  · have e : zlrem x.toInt y.toInt = (x - x / y * y).toInt := by unfold zlrem; rw [Int64.ofInt_toInt, Int64.ofInt_toInt]
    refine zq_nx K hdg ho (fun hi zl hz cr => ?_)
    exact And.intro hy2 (And.intro rfl (And.intro rfl (congrArg (fun z => ((1, z) : ZV) :: st.map (cz ad)) e)))
theorem zq_lshl {x : Int64} {y : Int32} (hdg : Dg M pc ins len lk) (ho : ax_op ins = 42) (K : ZQ sb sp ρ0 ad sh M (pc + len) h lv (.long (x <<< (y.toInt64 &&& 63)) :: st) pc' h' lv' st') : ZQ sb sp ρ0 ad sh M pc h lv (.int y :: .long x :: st) pc' h' lv' st' := by
  have e : zlshl x.toInt y.toInt = (x <<< (y.toInt64 &&& 63)).toInt := by unfold zlshl; rw [Int64.ofInt_toInt, Int32.ofInt_toInt]
  refine zq_nx K hdg ho (fun hi zl hz cr => ?_)
  exact And.intro rfl (And.intro rfl (congrArg (fun z => ((1, z) : ZV) :: st.map (cz ad)) e))
theorem zq_lcmp {x y : Int64} (hdg : Dg M pc ins len lk) (ho : ax_op ins = 43) (K : ZQ sb sp ρ0 ad sh M (pc + len) h lv (.int (lg_cmp x y) :: st) pc' h' lv' st') : ZQ sb sp ρ0 ad sh M pc h lv (.long y :: .long x :: st) pc' h' lv' st' := by
  refine zq_nx K hdg ho (fun hi zl hz cr => ?_)
  exact And.intro rfl (And.intro rfl (congrArg (fun z => ((0, z) : ZV) :: st.map (cz ad)) (zcmp_ok x y)))
theorem zq_un {op : Nat} {x : Int32} (hdg : Dg M pc ins len lk) (ho : ax_op ins = op + 44) (ho2 : op < 4) (K : ZQ sb sp ρ0 ad sh M (pc + len) h lv (.int (ax_fu op x) :: st) pc' h' lv' st') : ZQ sb sp ρ0 ad sh M pc h lv (.int x :: st) pc' h' lv' st' := by
  have e := z_un_ok op x ho2
  rcases (show op = 0 ∨ op = 1 ∨ op = 2 ∨ op = 3 by omega) with rfl | rfl | rfl | rfl <;> (refine zq_nx K hdg ho (fun hi zl hz cr => ?_); exact And.intro rfl (And.intro rfl (congrArg (fun z => ((0, z) : ZV) :: st.map (cz ad)) e)))
theorem zq_i2l {x : Int32} (hdg : Dg M pc ins len lk) (ho : ax_op ins = 48) (K : ZQ sb sp ρ0 ad sh M (pc + len) h lv (.long x.toInt64 :: st) pc' h' lv' st') : ZQ sb sp ρ0 ad sh M pc h lv (.int x :: st) pc' h' lv' st' := by
  refine zq_nx K hdg ho (fun hi zl hz cr => ?_)
  exact And.intro rfl (And.intro rfl (congrArg (fun z => ((1, z) : ZV) :: st.map (cz ad)) (Int32.toInt_toInt64 x).symm))
theorem zq_l2i {x : Int64} (hdg : Dg M pc ins len lk) (ho : ax_op ins = 49) (K : ZQ sb sp ρ0 ad sh M (pc + len) h lv (.int x.toInt32 :: st) pc' h' lv' st') : ZQ sb sp ρ0 ad sh M pc h lv (.long x :: st) pc' h' lv' st' := by
  have e : zl2i x.toInt = x.toInt32.toInt := by unfold zl2i; rw [Int64.ofInt_toInt]
  refine zq_nx K hdg ho (fun hi zl hz cr => ?_)
  exact And.intro rfl (And.intro rfl (congrArg (fun z => ((0, z) : ZV) :: st.map (cz ad)) e))
theorem gdr_t {p : Prop} {b : Bool} (hb : b = true) (hp : p) : gdr False b p := by rw [hb]; exact hp
theorem zq_dup {V : Value} (hdg : Dg M pc ins len lk) (ho : ax_op ins = 50) (hc : V.category = 1) (K : ZQ sb sp ρ0 ad sh M (pc + len) h lv (V :: V :: st) pc' h' lv' st') : ZQ sb sp ρ0 ad sh M pc h lv (V :: st) pc' h' lv' st' := by
  refine zq_nx K hdg ho (fun hi zl hz cr => ?_)
  show gdr False (!(Nat.beq (cz ad V).1 1)) _
  exact gdr_t (by rw [cz_1 hc]; rfl) ⟨rfl, rfl, rfl⟩
theorem zq_dup2a {V : Value} (hdg : Dg M pc ins len lk) (ho : ax_op ins = 51) (hc : V.category = 2) (K : ZQ sb sp ρ0 ad sh M (pc + len) h lv (V :: V :: st) pc' h' lv' st') : ZQ sb sp ρ0 ad sh M pc h lv (V :: st) pc' h' lv' st' := by
  refine zq_nx K hdg ho (fun hi zl hz cr => ?_)
  show (bif Nat.beq (cz ad V).1 1 then _ else _)
  rw [cz_2 hc]
  exact ⟨rfl, rfl, rfl⟩
theorem zq_dup2b {V U : Value} (hdg : Dg M pc ins len lk) (ho : ax_op ins = 51) (hc : V.category = 1) (hc2 : U.category = 1) (K : ZQ sb sp ρ0 ad sh M (pc + len) h lv (V :: U :: V :: U :: st) pc' h' lv' st') : ZQ sb sp ρ0 ad sh M pc h lv (V :: U :: st) pc' h' lv' st' := by
  refine zq_nx K hdg ho (fun hi zl hz cr => ?_)
  show (bif Nat.beq (cz ad V).1 1 then _ else _)
  rw [cz_1 hc]
  show gdr False (!(Nat.beq (cz ad U).1 1)) _
  exact gdr_t (by rw [cz_1 hc2]; rfl) ⟨rfl, rfl, rfl⟩
theorem zq_pop {V : Value} (hdg : Dg M pc ins len lk) (ho : ax_op ins = 52) (hc : V.category = 1) (K : ZQ sb sp ρ0 ad sh M (pc + len) h lv st pc' h' lv' st') : ZQ sb sp ρ0 ad sh M pc h lv (V :: st) pc' h' lv' st' := by
  refine zq_nx K hdg ho (fun hi zl hz cr => ?_)
  show gdr False (!(Nat.beq (cz ad V).1 1)) _
  exact gdr_t (by rw [cz_1 hc]; rfl) ⟨rfl, rfl, rfl⟩
theorem zq_pop2 {V : Value} (hdg : Dg M pc ins 1 lk) (ho : ax_op ins = 59) (hc : V.category = 2) (K : ZQ sb sp ρ0 ad sh M (pc + 1) h lv st pc' h' lv' st') : ZQ sb sp ρ0 ad sh M pc h lv (V :: st) pc' h' lv' st' := by
  refine zq_nx K hdg ho (fun hi zl hz cr => ?_)
  show gdr False (Nat.beq (cz ad V).1 1) _
  exact gdr_t (cz_2 hc) ⟨rfl, rfl, rfl⟩
theorem zq_icmpT {t k : Nat} {x y : Int32} (hdg : Dg M pc ins len (t :: k :: lk)) (ho : ax_op ins = 18) (c : ax_cp k x y) (K : ZQ sb sp ρ0 ad sh M t h lv st pc' h' lv' st') : ZQ sb sp ρ0 ad sh M pc h lv (.int y :: .int x :: st) pc' h' lv' st' := by
  refine zq_step K hdg (fun hi zl hz => ⟨zl, hz, fun cr => ?_⟩)
  rw [ho]
  exact Or.inl (And.intro ((zcp_ok k x y).mpr c) rfl)
theorem zq_icmpF {t k : Nat} {x y : Int32} (hdg : Dg M pc ins len (t :: k :: lk)) (ho : ax_op ins = 18) (c : ¬ ax_cp k x y) (K : ZQ sb sp ρ0 ad sh M (pc + len) h lv st pc' h' lv' st') : ZQ sb sp ρ0 ad sh M pc h lv (.int y :: .int x :: st) pc' h' lv' st' := by
  refine zq_step K hdg (fun hi zl hz => ⟨zl, hz, fun cr => ?_⟩)
  rw [ho]
  exact Or.inr (And.intro (fun z => c ((zcp_ok k x y).mp z)) rfl)
theorem zq_ifcT {t k : Nat} {x : Int32} (hdg : Dg M pc ins len (t :: k :: lk)) (ho : ax_op ins = 19) (c : ax_cp k x 0) (K : ZQ sb sp ρ0 ad sh M t h lv st pc' h' lv' st') : ZQ sb sp ρ0 ad sh M pc h lv (.int x :: st) pc' h' lv' st' := by
  refine zq_step K hdg (fun hi zl hz => ⟨zl, hz, fun cr => ?_⟩)
  rw [ho]
  exact Or.inl (And.intro ((zcp_ok k x 0).mpr c) rfl)
theorem zq_ifcF {t k : Nat} {x : Int32} (hdg : Dg M pc ins len (t :: k :: lk)) (ho : ax_op ins = 19) (c : ¬ ax_cp k x 0) (K : ZQ sb sp ρ0 ad sh M (pc + len) h lv st pc' h' lv' st') : ZQ sb sp ρ0 ad sh M pc h lv (.int x :: st) pc' h' lv' st' := by
  refine zq_step K hdg (fun hi zl hz => ⟨zl, hz, fun cr => ?_⟩)
  rw [ho]
  exact Or.inr (And.intro (fun z => c ((zcp_ok k x 0).mp z)) rfl)
theorem zq_goto {t : Nat} (hdg : Dg M pc ins len (t :: lk)) (ho : ax_op ins = 20) (K : ZQ sb sp ρ0 ad sh M t h lv st pc' h' lv' st') : ZQ sb sp ρ0 ad sh M pc h lv st pc' h' lv' st' := by
  refine zq_step K hdg (fun hi zl hz => ⟨zl, hz, fun cr => ?_⟩)
  rw [ho]
  rfl
end ZX
end
