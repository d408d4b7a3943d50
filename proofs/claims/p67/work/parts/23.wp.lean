/-! THE MACHINE BY STEPS, 1: plain states. The cells are those behind the constructors: their shape stays, their numbers change. -/
abbrev PH : Type := Nat → Nat → Int
abbrev SHP : Type := List (Nat × Nat × List (Nat × Nat))
def uph (h : PH) (c k : Nat) (v : Int) : PH := fun c' k' => if c' = c ∧ k' = k then v else h c' k'
theorem uph_in (h : PH) (c k : Nat) (v : Int) : uph h c k v c k = v := if_pos ⟨rfl, rfl⟩
theorem uph_ne (h : PH) {c k c' k' : Nat} (v : Int) (q : ¬ (c' = c ∧ k' = k)) : uph h c k v c' k' = h c' k' := if_neg q
def pf (ad : Nat → Nat) (g : Nat → Int) (k : Nat) (f : Nat × Nat) : Value := match f.1 with
  | 0 => .int (Int32.ofInt (g k))
  | 1 => .long (Int64.ofInt (g k))
  | _ => .ref (ad f.2)
def mkE (dA : Nat → ClassId) (ad : Nat → Nat) (rf : Nat → Nat → Option Nat) (g : Nat → Int) (c : Nat) (q : Nat × Nat × List (Nat × Nat)) : va_E :=
  if q.1 < 100 then .inr (q.1, q.2.2.mapIdx (fun k f => pf ad g k f))
  else if q.1 = 101 then .inl (dA 101, q.2.1, .inr (.inl (fun j => Int64.ofInt (g j))))
  else if 103 ≤ q.1 then .inl (dA q.1, q.2.1, .inr (.inr (.inr (.inr (rf c)))))
  else .inl (dA q.1, q.2.1, .inl (fun j => Int32.ofInt (g j)))
def mkW (dA : Nat → ClassId) (ad : Nat → Nat) (rf : Nat → Nat → Option Nat) (sh : SHP) (h : PH) : va_W := sh.mapIdx (fun c q => (ad c, mkE dA ad rf (h c) c q))
theorem mkW_get {dA : Nat → ClassId} {ad : Nat → Nat} {rf : Nat → Nat → Option Nat} {sh : SHP} {h : PH} {c : Nat} {q : Nat × Nat × List (Nat × Nat)} (hc : sh[c]? = some q) : (mkW dA ad rf sh h)[c]? = some (ad c, mkE dA ad rf (h c) c q) := by
  unfold mkW
  rw [List.getElem?_mapIdx, hc]
  rfl
theorem mkW_set {dA : Nat → ClassId} {ad : Nat → Nat} {rf : Nat → Nat → Option Nat} {sh : SHP} {h h' : PH} {c : Nat} {q : Nat × Nat × List (Nat × Nat)} {E : va_E} (hc : sh[c]? = some q) (hE : E = mkE dA ad rf (h' c) c q) (hn : ∀ c', c' ≠ c → h' c' = h c') : (mkW dA ad rf sh h).set c (ad c, E) = mkW dA ad rf sh h' := by
  apply List.ext_getElem?
  intro i
  have hl : c < (mkW dA ad rf sh h).length := by
    have := (List.getElem?_eq_some_iff.mp hc).1
    unfold mkW
    rw [List.length_mapIdx]
    exact this
  by_cases hi : i = c
  · subst hi
    rw [List.getElem?_set_self hl, mkW_get hc, hE]
  · rw [List.getElem?_set_ne (fun z => hi z.symm)]
    unfold mkW
    rw [List.getElem?_mapIdx, List.getElem?_mapIdx]
    cases sh[i]? with
    | none => rfl
    | some r => rw [Option.map_some, Option.map_some, hn i hi]
theorem mkE_o {dA : Nat → ClassId} {ad : Nat → Nat} {rf : Nat → Nat → Option Nat} {g : Nat → Int} {c ci n : Nat} {fs : List (Nat × Nat)} (h : ci < 100) : mkE dA ad rf g c (ci, n, fs) = .inr (ci, fs.mapIdx (fun k f => pf ad g k f)) := if_pos h
theorem mkE_i {dA : Nat → ClassId} {ad : Nat → Nat} {rf : Nat → Nat → Option Nat} {g : Nat → Int} {c kd n : Nat} {fs : List (Nat × Nat)} (h : kd = 100 ∨ kd = 102) : mkE dA ad rf g c (kd, n, fs) = .inl (dA kd, n, .inl (fun j => Int32.ofInt (g j))) := by
  unfold mkE
  rw [if_neg (by show ¬ kd < 100; omega), if_neg (by show ¬ kd = 101; omega), if_neg (by show ¬ 103 ≤ kd; omega)]
theorem mkE_l {dA : Nat → ClassId} {ad : Nat → Nat} {rf : Nat → Nat → Option Nat} {g : Nat → Int} {c n : Nat} {fs : List (Nat × Nat)} : mkE dA ad rf g c (101, n, fs) = .inl (dA 101, n, .inr (.inl (fun j => Int64.ofInt (g j)))) := by
  unfold mkE
  rw [if_neg (by show ¬ (101 < 100); omega), if_pos rfl]
theorem mkE_r {dA : Nat → ClassId} {ad : Nat → Nat} {rf : Nat → Nat → Option Nat} {g : Nat → Int} {c kd n : Nat} {fs : List (Nat × Nat)} (h : 103 ≤ kd) : mkE dA ad rf g c (kd, n, fs) = .inl (dA kd, n, .inr (.inr (.inr (.inr (rf c))))) := by
  unfold mkE
  rw [if_neg (by show ¬ kd < 100; omega), if_neg (by show ¬ kd = 101; omega), if_pos h]
abbrev LVs : Type := List (Nat × Value)
abbrev PO : Type := Nat → PH → LVs → List Value → Prop
section WPS
variable (sb : Nat → List Nat) (dC : Nat → ClassId) (dI : Nat → Nat → Nat) (dA : Nat → ClassId) (sp : Nat → Nat) (H0 : Heap) (l : Launch) (ρ0 : List Nat) (ad : Nat → Nat) (rf : Nat → Nat → Option Nat) (sh : SHP)
def Gl (p : Program) (e : Env) (R : Room) (s : State) (m : MethodId) (args : Array Value) (below : List Frame) (meth : Method) (c : Code) (Q : State → Prop) (nc ns nL pc : Nat) (h : PH) (lv : LVs) (st : List Value) : Prop :=
  ∀ (H : Heap) (locs : List Loc) (ls : Array Slot), va_P (dC, dI) vwCl (mkW dA ad rf sh h) H → va_D (aA H0) (mkW dA ad rf sh h) → va_S (aA H0) H0 H locs → lv_has ls nL lv → W p l e R s m args below meth c H locs nc ns Q (F0 m pc ls st)
def Wp0 (M : MR) (pc : Nat) (h : PH) (lv : LVs) (st : List Value) (P : PO) : Prop :=
  ∀ (p : Program) (e : Env) (R : Room) (s : State) (m : MethodId) (args : Array Value) (below : List Frame) (meth : Method) (c : Code) (Q : State → Prop) (nc ns : Nat), CX sb dC dI dA sp H0 ρ0 M p R s m args meth c → nc ≤ M.2.2.2.2.1.cells ∧ ns ≤ M.2.2.2.2.1.slots →
    (∀ pc' h' lv' st', P pc' h' lv' st' → Gl dC dI dA H0 l ad rf sh p e R s m args below meth c Q nc ns M.2.2.1 pc' h' lv' st') → Gl dC dI dA H0 l ad rf sh p e R s m args below meth c Q nc ns M.2.2.1 pc h lv st
end WPS
section WPT
variable {sb : Nat → List Nat} {mt : Nat → Nat → Option MR} {dC : Nat → ClassId} {dI : Nat → Nat → Nat} {dA : Nat → ClassId} {sp : Nat → Nat} {H0 : Heap} {l : Launch} {ρ0 : List Nat} {ad : Nat → Nat} {rf : Nat → Nat → Option Nat} {sh : SHP}
variable {M : MR} {pc len : Nat} {ins : Instr} {lk : List Nat} {h : PH} {lv : LVs} {st : List Value} {P P' : PO}
theorem w0_rf (hP : P pc h lv st) : Wp0 sb dC dI dA sp H0 l ρ0 ad rf sh M pc h lv st P := by
  intro p e R s m args below meth c Q nc ns hX hN hG
  exact hG _ _ _ _ hP
theorem w0_bd (K : Wp0 sb dC dI dA sp H0 l ρ0 ad rf sh M pc h lv st P') (KK : ∀ pc' h' lv' st', P' pc' h' lv' st' → Wp0 sb dC dI dA sp H0 l ρ0 ad rf sh M pc' h' lv' st' P) : Wp0 sb dC dI dA sp H0 l ρ0 ad rf sh M pc h lv st P := by
  intro p e R s m args below meth c Q nc ns hX hN hG
  exact K p e R s m args below meth c Q nc ns hX hN (fun pc' h' lv' st' z => KK pc' h' lv' st' z p e R s m args below meth c Q nc ns hX hN hG)
/-- the number of a push -/
def pv (sp : Nat → Nat) (t n : Nat) : Value := match t with
  | 0 => .int (nI n)
  | 1 => .long (lN n)
  | _ => .ref (sp n)
theorem w0_push {t n : Nat} (hdg : decode M.2.1 pc = .ok (ins, len)) (hlen : len = ax_len ins) (hlk : lok mt M pc ins (t :: n :: lk) = true) (ho : ax_op ins = 0) (K : Wp0 sb dC dI dA sp H0 l ρ0 ad rf sh M (pc + len) h lv (pv sp t n :: st) P) : Wp0 sb dC dI dA sp H0 l ρ0 ad rf sh M pc h lv st P := by
  intro p e R s m args below meth c Q nc ns hX hN hG H locs ls z1 z2 z3 z4
  have KK := K p e R s m args below meth c Q nc ns hX hN hG H locs ls z1 z2 z3 z4
  obtain ⟨hx, hb, hml, hown, hts, hK, hlocks, hrt, hin, hRoom, hO⟩ := id hX
  cases ins <;> first | (exact absurd ho (Nat.ne_of_beq_eq_false rfl)) | skip
  case bipush i =>
    subst hlen
    have w := bb_and (a := Nat.beq t 0) hlk
    obtain rfl := bb_eq w.1
    exact lv_bipush hx hb hdg (of_decide_eq_true w.2) KK
  case iconst i =>
    subst hlen
    have w := bb_and (a := Nat.beq t 0) hlk
    obtain rfl := bb_eq w.1
    exact lv_iconst hx hb hdg (of_decide_eq_true w.2) KK
  case lconst i =>
    subst hlen
    have w := bb_and (a := Nat.beq t 1) hlk
    obtain rfl := bb_eq w.1
    exact lv_lconst hx hb hdg (of_decide_eq_true w.2) KK
  case sipush i =>
    subst hlen
    have w := bb_and (a := Nat.beq t 0) hlk
    obtain rfl := bb_eq w.1
    exact lv_sipush hx hb hdg (of_decide_eq_true w.2) KK
  case ldc idx =>
    subst hlen
    match lk, hlk with
    | c1 :: j1 :: _, hlk =>
      have hl : (bif Nat.beq t 0 then wdq c1 j1 (.constant M.1.cls idx (nI n)) else Nat.beq t 6 && ((Nat.beq n 1 && (decide (M.1.cls = RX9) && Nat.beq idx 51)) || (Nat.beq n 3 && (decide (M.1.cls = RX12) && Nat.beq idx 171)))) = true := hlk
      cases ht : Nat.beq t 0 with
      | true =>
        rw [ht] at hl
        obtain rfl := bb_eq ht
        exact lv_ldc hx hb hown (hts _ (wdq_in hl)) hdg KK
      | false =>
        rw [ht] at hl
        have w := bb_and hl
        obtain rfl := bb_eq w.1
        rcases (Bool.or_eq_true _ _).mp w.2 with w2 | w2
        · have w3 := bb_and w2
          have w4 := bb_and w3.2
          obtain rfl := bb_eq w3.1
          obtain rfl := bb_eq w4.2
          have hc : M.1.cls = RX9 := of_decide_eq_true w4.1
          exact va_ldcS hx hb (by rw [← hc]; exact hown) hO.2.2.2.1 hdg KK
        · have w3 := bb_and w2
          have w4 := bb_and w3.2
          obtain rfl := bb_eq w3.1
          obtain rfl := bb_eq w4.2
          have hc : M.1.cls = RX12 := of_decide_eq_true w4.1
          exact va_ldcS hx hb (by rw [← hc]; exact hown) hO.2.2.2.2.1 hdg KK
  case ldc_w idx =>
    subst hlen
    match lk, hlk with
    | c1 :: j1 :: _, hlk =>
      have w := bb_and (a := Nat.beq t 0) hlk
      obtain rfl := bb_eq w.1
      exact lv_ldcw hx hb hown (hts _ (wdq_in w.2)) hdg KK
  case ldc2_w idx =>
    subst hlen
    match lk, hlk with
    | c1 :: j1 :: _, hlk =>
      have w := bb_and (a := Nat.beq t 1) hlk
      obtain rfl := bb_eq w.1
      exact lv_ldc2 hx hb hown (hts _ (wdq_in w.2)) hdg KK
theorem w0_load {k : Nat} {V : Value} (hdg : decode M.2.1 pc = .ok (ins, len)) (hlen : len = ax_len ins) (hlk : lok mt M pc ins (k :: lk) = true) (hV : (k, V) ∈ lv) (ho : (ax_op ins = 1 ∧ ∃ x, V = .int x) ∨ (ax_op ins = 2 ∧ ∃ x, V = .long x) ∨ (ax_op ins = 3 ∧ ∃ x, V = .ref x)) (K : Wp0 sb dC dI dA sp H0 l ρ0 ad rf sh M (pc + len) h lv (V :: st) P) : Wp0 sb dC dI dA sp H0 l ρ0 ad rf sh M pc h lv st P := by
  intro p e R s m args below meth c Q nc ns hX hN hG H locs ls z1 z2 z3 z4
  have KK := K p e R s m args below meth c Q nc ns hX hN hG H locs ls z1 z2 z3 z4
  obtain ⟨hx, hb, hml, hown, hts, hK, hlocks, hrt, hin, hRoom, hO⟩ := id hX
  have hls : ls[k]? = some (.val V) := z4.2.2 (k, V) hV
  rcases ho with ⟨ho, x, rfl⟩ | ⟨ho, x, rfl⟩ | ⟨ho, x, rfl⟩
  · cases ins <;> first | (exact absurd ho (Nat.ne_of_beq_eq_false rfl)) | skip
    case iload i =>
      subst hlen
      obtain rfl := bb_eq (a := i) (b := k) hlk
      exact lv_iload hx hb hdg hls KK
    case iload_n i =>
      subst hlen
      exact lv_iload_n hx hb hdg (bb_eq (a := (i : Nat)) (b := k) hlk) hls KK
  · cases ins <;> first | (exact absurd ho (Nat.ne_of_beq_eq_false rfl)) | skip
    case lload i =>
      subst hlen
      obtain rfl := bb_eq (a := i) (b := k) hlk
      exact lv_lload hx hb hdg hls KK
    case lload_n i =>
      subst hlen
      exact lv_lload_n hx hb hdg (bb_eq (a := (i : Nat)) (b := k) hlk) hls KK
  · cases ins <;> first | (exact absurd ho (Nat.ne_of_beq_eq_false rfl)) | skip
    case aload i =>
      subst hlen
      obtain rfl := bb_eq (a := i) (b := k) hlk
      exact lv_aload hx hb hdg hls KK
    case aload_n i =>
      subst hlen
      exact lv_aload_n hx hb hdg (bb_eq (a := (i : Nat)) (b := k) hlk) hls KK
def pk1 (i : Nat) : Nat × Value → Bool := fun q => !(q.1 == i) && !(q.1 + 1 == i && q.2.category == 2)
def pk2 (i : Nat) : Nat × Value → Bool := fun q => !(q.1 == i) && (!(q.1 == i + 1) && !(q.1 + 1 == i && q.2.category == 2))
theorem w0_sto1 {k : Nat} {V : Value} (hdg : decode M.2.1 pc = .ok (ins, len)) (hlen : len = ax_len ins) (hlk : lok mt M pc ins (k :: lk) = true) (ho : (ax_op ins = 4 ∧ ∃ x, V = .int x) ∨ (ax_op ins = 6 ∧ ∃ x, V = .ref x)) (K : Wp0 sb dC dI dA sp H0 l ρ0 ad rf sh M (pc + len) h ((k, V) :: lv.filter (pk1 k)) st P) : Wp0 sb dC dI dA sp H0 l ρ0 ad rf sh M pc h lv (V :: st) P := by
  intro p e R s m args below meth c Q nc ns hX hN hG H locs ls z1 z2 z3 z4
  have KK := fun ls' z4' => K p e R s m args below meth c Q nc ns hX hN hG H locs ls' z1 z2 z3 z4'
  obtain ⟨hx, hb, hml, hown, hts, hK, hlocks, hrt, hin, hRoom, hO⟩ := id hX
  rcases ho with ⟨ho, x, rfl⟩ | ⟨ho, x, rfl⟩
  · cases ins <;> first | (exact absurd ho (Nat.ne_of_beq_eq_false rfl)) | skip
    case istore i =>
      subst hlen
      have w := bb_and (a := Nat.beq i k) hlk
      obtain rfl := bb_eq w.1
      exact lv_istore hx hb hdg z4 (bb_lt w.2) rfl KK
    case istore_n i =>
      subst hlen
      have w := bb_and (a := Nat.beq (i : Nat) k) hlk
      exact lv_istore_n hx hb hdg (bb_eq w.1) z4 (bb_lt w.2) rfl KK
  · cases ins <;> first | (exact absurd ho (Nat.ne_of_beq_eq_false rfl)) | skip
    case astore i =>
      subst hlen
      have w := bb_and (a := Nat.beq i k) hlk
      obtain rfl := bb_eq w.1
      exact lv_astore hx hb hdg z4 (bb_lt w.2) rfl KK
    case astore_n i =>
      subst hlen
      have w := bb_and (a := Nat.beq (i : Nat) k) hlk
      exact lv_astore_n hx hb hdg (bb_eq w.1) z4 (bb_lt w.2) rfl KK
theorem w0_sto2 {k : Nat} {x : Int64} (hdg : decode M.2.1 pc = .ok (ins, len)) (hlen : len = ax_len ins) (hlk : lok mt M pc ins (k :: lk) = true) (ho : ax_op ins = 5) (K : Wp0 sb dC dI dA sp H0 l ρ0 ad rf sh M (pc + len) h ((k, .long x) :: lv.filter (pk2 k)) st P) : Wp0 sb dC dI dA sp H0 l ρ0 ad rf sh M pc h lv (.long x :: st) P := by
  intro p e R s m args below meth c Q nc ns hX hN hG H locs ls z1 z2 z3 z4
  have KK := fun ls' z4' => K p e R s m args below meth c Q nc ns hX hN hG H locs ls' z1 z2 z3 z4'
  obtain ⟨hx, hb, hml, hown, hts, hK, hlocks, hrt, hin, hRoom, hO⟩ := id hX
  cases ins <;> first | (exact absurd ho (Nat.ne_of_beq_eq_false rfl)) | skip
  case lstore i =>
    subst hlen
    have w := bb_and (a := Nat.beq i k) hlk
    obtain rfl := bb_eq w.1
    exact lv_lstore hx hb hdg z4 (bb_lt w.2) rfl KK
  case lstore_n i =>
    subst hlen
    have w := bb_and (a := Nat.beq (i : Nat) k) hlk
    exact lv_lstore_n hx hb hdg (bb_eq w.1) z4 (bb_lt w.2) rfl KK
theorem w0_iinc {k n : Nat} {x : Int32} (hdg : decode M.2.1 pc = .ok (ins, len)) (hlen : len = ax_len ins) (hlk : lok mt M pc ins (k :: n :: lk) = true) (ho : ax_op ins = 7) (hV : (k, .int x) ∈ lv) (K : Wp0 sb dC dI dA sp H0 l ρ0 ad rf sh M (pc + len) h ((k, .int (x + nI n)) :: lv.filter (pk1 k)) st P) : Wp0 sb dC dI dA sp H0 l ρ0 ad rf sh M pc h lv st P := by
  intro p e R s m args below meth c Q nc ns hX hN hG H locs ls z1 z2 z3 z4
  have KK := fun ls' z4' => K p e R s m args below meth c Q nc ns hX hN hG H locs ls' z1 z2 z3 z4'
  obtain ⟨hx, hb, hml, hown, hts, hK, hlocks, hrt, hin, hRoom, hO⟩ := id hX
  obtain ⟨k0, hk0⟩ := List.getElem?_of_mem hV
  cases ins <;> first | (exact absurd ho (Nat.ne_of_beq_eq_false rfl)) | skip
  case iinc i n' =>
    subst hlen
    have w := bb_and (a := Nat.beq i k) hlk
    have w2 := bb_and w.2
    obtain rfl := bb_eq w.1
    have hn : Int32.ofInt n' = nI n := of_decide_eq_true w2.1
    exact lv_iinc hx hb hdg z4 hk0 (by rw [hn]) (bb_lt w2.2) rfl KK
theorem w0_ib {op : Nat} {x y : Int32} (hdg : decode M.2.1 pc = .ok (ins, len)) (hlen : len = ax_len ins) (ho : ax_op ins = op + 26) (ho2 : op < 9) (K : Wp0 sb dC dI dA sp H0 l ρ0 ad rf sh M (pc + len) h lv (.int (ax_fop op x y) :: st) P) : Wp0 sb dC dI dA sp H0 l ρ0 ad rf sh M pc h lv (.int y :: .int x :: st) P := by
  intro p e R s m args below meth c Q nc ns hX hN hG H locs ls z1 z2 z3 z4
  have KK := K p e R s m args below meth c Q nc ns hX hN hG H locs ls z1 z2 z3 z4
  obtain ⟨hx, hb, -⟩ := id hX
  match op, ho2 with
  | 0, _ => cases ins <;> first | (exact absurd ho (Nat.ne_of_beq_eq_false rfl)) | (subst hlen; exact lv_iadd hx hb hdg KK)
  | 1, _ => cases ins <;> first | (exact absurd ho (Nat.ne_of_beq_eq_false rfl)) | (subst hlen; exact lv_isub hx hb hdg KK)
  | 2, _ => cases ins <;> first | (exact absurd ho (Nat.ne_of_beq_eq_false rfl)) | (subst hlen; exact lv_imul hx hb hdg KK)
  | 3, _ => cases ins <;> first | (exact absurd ho (Nat.ne_of_beq_eq_false rfl)) | (subst hlen; exact lv_iand hx hb hdg KK)
  | 4, _ => cases ins <;> first | (exact absurd ho (Nat.ne_of_beq_eq_false rfl)) | (subst hlen; exact lv_ior hx hb hdg KK)
  | 5, _ => cases ins <;> first | (exact absurd ho (Nat.ne_of_beq_eq_false rfl)) | (subst hlen; exact lv_ixor hx hb hdg KK)
  | 6, _ => cases ins <;> first | (exact absurd ho (Nat.ne_of_beq_eq_false rfl)) | (subst hlen; exact lv_ishl hx hb hdg KK)
  | 7, _ => cases ins <;> first | (exact absurd ho (Nat.ne_of_beq_eq_false rfl)) | (subst hlen; exact lv_ishr hx hb hdg KK)
  | 8, _ => cases ins <;> first | (exact absurd ho (Nat.ne_of_beq_eq_false rfl)) | (subst hlen; exact lv_iushr hx hb hdg rfl KK)
  | n + 9, hn => exact absurd hn (by omega)
theorem w0_id {op : Nat} {x y : Int32} (hdg : decode M.2.1 pc = .ok (ins, len)) (hlen : len = ax_len ins) (ho : ax_op ins = op + 35) (ho2 : op < 2) (hy : ¬ y = 0) (K : Wp0 sb dC dI dA sp H0 l ρ0 ad rf sh M (pc + len) h lv (.int (if op = 0 then x / y else x - x / y * y) :: st) P) : Wp0 sb dC dI dA sp H0 l ρ0 ad rf sh M pc h lv (.int y :: .int x :: st) P := by
  intro p e R s m args below meth c Q nc ns hX hN hG H locs ls z1 z2 z3 z4
  have KK := K p e R s m args below meth c Q nc ns hX hN hG H locs ls z1 z2 z3 z4
  obtain ⟨hx, hb, -⟩ := id hX
  match op, ho2 with
  | 0, _ => cases ins <;> first | (exact absurd ho (Nat.ne_of_beq_eq_false rfl)) | (subst hlen; exact lv_idiv hx hb hdg hy KK)
  | 1, _ => cases ins <;> first | (exact absurd ho (Nat.ne_of_beq_eq_false rfl)) | (subst hlen; exact lv_irem hx hb hdg hy KK)
  | n + 2, hn => exact absurd hn (by omega)
theorem w0_lb {op : Nat} {x y : Int64} (hdg : decode M.2.1 pc = .ok (ins, len)) (hlen : len = ax_len ins) (ho : ax_op ins = op + 37) (ho2 : op < 5) (K : Wp0 sb dC dI dA sp H0 l ρ0 ad rf sh M (pc + len) h lv (.long (ax_flo op x y) :: st) P) : Wp0 sb dC dI dA sp H0 l ρ0 ad rf sh M pc h lv (.long y :: .long x :: st) P := by
  intro p e R s m args below meth c Q nc ns hX hN hG H locs ls z1 z2 z3 z4
  have KK := K p e R s m args below meth c Q nc ns hX hN hG H locs ls z1 z2 z3 z4
  obtain ⟨hx, hb, -⟩ := id hX
  match op, ho2 with
  | 0, _ => cases ins <;> first | (exact absurd ho (Nat.ne_of_beq_eq_false rfl)) | (subst hlen; exact lv_ladd hx hb hdg KK)
  | 1, _ => cases ins <;> first | (exact absurd ho (Nat.ne_of_beq_eq_false rfl)) | (subst hlen; exact lv_lsub hx hb hdg KK)
  | 2, _ => cases ins <;> first | (exact absurd ho (Nat.ne_of_beq_eq_false rfl)) | (subst hlen; exact lv_lmul hx hb hdg KK)
  | 3, _ => cases ins <;> first | (exact absurd ho (Nat.ne_of_beq_eq_false rfl)) | (subst hlen; exact lv_land hx hb hdg KK)
  | 4, _ => cases ins <;> first | (exact absurd ho (Nat.ne_of_beq_eq_false rfl)) | (subst hlen; exact lv_lor hx hb hdg KK)
  | n + 5, hn => exact absurd hn (by omega)
theorem w0_ld {op : Nat} {x y : Int64} (hdg : decode M.2.1 pc = .ok (ins, 1)) (ho : ax_op ins = op + 60) (ho2 : op < 2) (hy : ¬ y = 0) (K : Wp0 sb dC dI dA sp H0 l ρ0 ad rf sh M (pc + 1) h lv (.long (if op = 0 then x / y else x - x / y * y) :: st) P) : Wp0 sb dC dI dA sp H0 l ρ0 ad rf sh M pc h lv (.long y :: .long x :: st) P := by
  intro p e R s m args below meth c Q nc ns hX hN hG H locs ls z1 z2 z3 z4
  have KK := K p e R s m args below meth c Q nc ns hX hN hG H locs ls z1 z2 z3 z4
  obtain ⟨hx, hb, -⟩ := id hX
  match op, ho2 with
  | 0, _ => cases ins <;> first | (exact absurd ho (Nat.ne_of_beq_eq_false rfl)) | exact lv_ldiv hx hb hdg hy KK
  | 1, _ => cases ins <;> first | (exact absurd ho (Nat.ne_of_beq_eq_false rfl)) | exact lv_lrem hx hb hdg hy KK
  | n + 2, hn => exact absurd hn (by omega)
theorem w0_lshl {x : Int64} {y : Int32} (hdg : decode M.2.1 pc = .ok (ins, len)) (hlen : len = ax_len ins) (ho : ax_op ins = 42) (K : Wp0 sb dC dI dA sp H0 l ρ0 ad rf sh M (pc + len) h lv (.long (x <<< (y.toInt64 &&& 63)) :: st) P) : Wp0 sb dC dI dA sp H0 l ρ0 ad rf sh M pc h lv (.int y :: .long x :: st) P := by
  intro p e R s m args below meth c Q nc ns hX hN hG H locs ls z1 z2 z3 z4
  have KK := K p e R s m args below meth c Q nc ns hX hN hG H locs ls z1 z2 z3 z4
  obtain ⟨hx, hb, -⟩ := id hX
  cases ins <;> first | (exact absurd ho (Nat.ne_of_beq_eq_false rfl)) | (subst hlen; exact lv_lshl hx hb hdg rfl KK)
theorem w0_lcmp {x y : Int64} (hdg : decode M.2.1 pc = .ok (ins, len)) (hlen : len = ax_len ins) (ho : ax_op ins = 43) (K : Wp0 sb dC dI dA sp H0 l ρ0 ad rf sh M (pc + len) h lv (.int (lg_cmp x y) :: st) P) : Wp0 sb dC dI dA sp H0 l ρ0 ad rf sh M pc h lv (.long y :: .long x :: st) P := by
  intro p e R s m args below meth c Q nc ns hX hN hG H locs ls z1 z2 z3 z4
  have KK := K p e R s m args below meth c Q nc ns hX hN hG H locs ls z1 z2 z3 z4
  obtain ⟨hx, hb, -⟩ := id hX
  cases ins <;> first | (exact absurd ho (Nat.ne_of_beq_eq_false rfl)) | (subst hlen; exact W.lcmp hx hb hdg KK)
theorem w0_un {op : Nat} {x : Int32} (hdg : decode M.2.1 pc = .ok (ins, len)) (hlen : len = ax_len ins) (ho : ax_op ins = op + 44) (ho2 : op < 4) (K : Wp0 sb dC dI dA sp H0 l ρ0 ad rf sh M (pc + len) h lv (.int (ax_fu op x) :: st) P) : Wp0 sb dC dI dA sp H0 l ρ0 ad rf sh M pc h lv (.int x :: st) P := by
  intro p e R s m args below meth c Q nc ns hX hN hG H locs ls z1 z2 z3 z4
  have KK := K p e R s m args below meth c Q nc ns hX hN hG H locs ls z1 z2 z3 z4
  obtain ⟨hx, hb, -⟩ := id hX
  match op, ho2 with
  | 0, _ => cases ins <;> first | (exact absurd ho (Nat.ne_of_beq_eq_false rfl)) | (subst hlen; exact lv_i2b hx hb hdg rfl KK)
  | 1, _ => cases ins <;> first | (exact absurd ho (Nat.ne_of_beq_eq_false rfl)) | (subst hlen; exact lv_i2s hx hb hdg rfl KK)
  | 2, _ => cases ins <;> first | (exact absurd ho (Nat.ne_of_beq_eq_false rfl)) | (subst hlen; exact lv_i2c hx hb hdg rfl KK)
  | 3, _ => cases ins <;> first | (exact absurd ho (Nat.ne_of_beq_eq_false rfl)) | (subst hlen; exact lv_ineg hx hb hdg KK)
  | n + 4, hn => exact absurd hn (by omega)
theorem w0_i2l {x : Int32} (hdg : decode M.2.1 pc = .ok (ins, len)) (hlen : len = ax_len ins) (ho : ax_op ins = 48) (K : Wp0 sb dC dI dA sp H0 l ρ0 ad rf sh M (pc + len) h lv (.long x.toInt64 :: st) P) : Wp0 sb dC dI dA sp H0 l ρ0 ad rf sh M pc h lv (.int x :: st) P := by
  intro p e R s m args below meth c Q nc ns hX hN hG H locs ls z1 z2 z3 z4
  have KK := K p e R s m args below meth c Q nc ns hX hN hG H locs ls z1 z2 z3 z4
  obtain ⟨hx, hb, -⟩ := id hX
  cases ins <;> first | (exact absurd ho (Nat.ne_of_beq_eq_false rfl)) | (subst hlen; exact lv_i2l hx hb hdg rfl KK)
theorem w0_l2i {x : Int64} (hdg : decode M.2.1 pc = .ok (ins, len)) (hlen : len = ax_len ins) (ho : ax_op ins = 49) (K : Wp0 sb dC dI dA sp H0 l ρ0 ad rf sh M (pc + len) h lv (.int x.toInt32 :: st) P) : Wp0 sb dC dI dA sp H0 l ρ0 ad rf sh M pc h lv (.long x :: st) P := by
  intro p e R s m args below meth c Q nc ns hX hN hG H locs ls z1 z2 z3 z4
  have KK := K p e R s m args below meth c Q nc ns hX hN hG H locs ls z1 z2 z3 z4
  obtain ⟨hx, hb, -⟩ := id hX
  cases ins <;> first | (exact absurd ho (Nat.ne_of_beq_eq_false rfl)) | (subst hlen; exact lv_l2i hx hb hdg rfl KK)
theorem w0_dup {V : Value} (hdg : decode M.2.1 pc = .ok (ins, len)) (hlen : len = ax_len ins) (ho : ax_op ins = 50) (hc : V.category = 1) (K : Wp0 sb dC dI dA sp H0 l ρ0 ad rf sh M (pc + len) h lv (V :: V :: st) P) : Wp0 sb dC dI dA sp H0 l ρ0 ad rf sh M pc h lv (V :: st) P := by
  intro p e R s m args below meth c Q nc ns hX hN hG H locs ls z1 z2 z3 z4
  have KK := K p e R s m args below meth c Q nc ns hX hN hG H locs ls z1 z2 z3 z4
  obtain ⟨hx, hb, -⟩ := id hX
  cases ins <;> first | (exact absurd ho (Nat.ne_of_beq_eq_false rfl)) | (subst hlen; exact lv_dup hx hb hdg hc KK)
theorem w0_dup2a {V : Value} (hdg : decode M.2.1 pc = .ok (ins, len)) (hlen : len = ax_len ins) (ho : ax_op ins = 51) (hc : V.category = 2) (K : Wp0 sb dC dI dA sp H0 l ρ0 ad rf sh M (pc + len) h lv (V :: V :: st) P) : Wp0 sb dC dI dA sp H0 l ρ0 ad rf sh M pc h lv (V :: st) P := by
  intro p e R s m args below meth c Q nc ns hX hN hG H locs ls z1 z2 z3 z4
  have KK := K p e R s m args below meth c Q nc ns hX hN hG H locs ls z1 z2 z3 z4
  obtain ⟨hx, hb, -⟩ := id hX
  cases ins <;> first | (exact absurd ho (Nat.ne_of_beq_eq_false rfl)) | (subst hlen; exact lv_dup2_2 hx hb hdg hc KK)
theorem w0_dup2b {V U : Value} (hdg : decode M.2.1 pc = .ok (ins, len)) (hlen : len = ax_len ins) (ho : ax_op ins = 51) (hc : V.category = 1) (hc2 : U.category = 1) (K : Wp0 sb dC dI dA sp H0 l ρ0 ad rf sh M (pc + len) h lv (V :: U :: V :: U :: st) P) : Wp0 sb dC dI dA sp H0 l ρ0 ad rf sh M pc h lv (V :: U :: st) P := by
  intro p e R s m args below meth c Q nc ns hX hN hG H locs ls z1 z2 z3 z4
  have KK := K p e R s m args below meth c Q nc ns hX hN hG H locs ls z1 z2 z3 z4
  obtain ⟨hx, hb, -⟩ := id hX
  cases ins <;> first | (exact absurd ho (Nat.ne_of_beq_eq_false rfl)) | (subst hlen; exact lv_dup2_11 hx hb hdg hc hc2 KK)
theorem w0_pop {V : Value} (hdg : decode M.2.1 pc = .ok (ins, len)) (hlen : len = ax_len ins) (ho : ax_op ins = 52) (hc : V.category = 1) (K : Wp0 sb dC dI dA sp H0 l ρ0 ad rf sh M (pc + len) h lv st P) : Wp0 sb dC dI dA sp H0 l ρ0 ad rf sh M pc h lv (V :: st) P := by
  intro p e R s m args below meth c Q nc ns hX hN hG H locs ls z1 z2 z3 z4
  have KK := K p e R s m args below meth c Q nc ns hX hN hG H locs ls z1 z2 z3 z4
  obtain ⟨hx, hb, -⟩ := id hX
  cases ins <;> first | (exact absurd ho (Nat.ne_of_beq_eq_false rfl)) | (subst hlen; exact lv_pop hx hb hdg hc KK)
theorem w0_pop2 {V : Value} (hdg : decode M.2.1 pc = .ok (ins, 1)) (ho : ax_op ins = 59) (hc : V.category = 2) (K : Wp0 sb dC dI dA sp H0 l ρ0 ad rf sh M (pc + 1) h lv st P) : Wp0 sb dC dI dA sp H0 l ρ0 ad rf sh M pc h lv (V :: st) P := by
  intro p e R s m args below meth c Q nc ns hX hN hG H locs ls z1 z2 z3 z4
  have KK := K p e R s m args below meth c Q nc ns hX hN hG H locs ls z1 z2 z3 z4
  obtain ⟨hx, hb, -⟩ := id hX
  cases ins <;> first | (exact absurd ho (Nat.ne_of_beq_eq_false rfl)) | exact lv_pop2_2 hx hb hdg hc KK
theorem w0_icmp {t k : Nat} {x y : Int32} (hdg : decode M.2.1 pc = .ok (ins, len)) (hlen : len = ax_len ins) (hlk : lok mt M pc ins (t :: k :: lk) = true) (ho : ax_op ins = 18) (KT : ax_cp k x y → Wp0 sb dC dI dA sp H0 l ρ0 ad rf sh M t h lv st P) (KF : ¬ ax_cp k x y → Wp0 sb dC dI dA sp H0 l ρ0 ad rf sh M (pc + len) h lv st P) : Wp0 sb dC dI dA sp H0 l ρ0 ad rf sh M pc h lv (.int y :: .int x :: st) P := by
  intro p e R s m args below meth c Q nc ns hX hN hG H locs ls z1 z2 z3 z4
  have K1 := fun z => KT z p e R s m args below meth c Q nc ns hX hN hG H locs ls z1 z2 z3 z4
  have K2 := fun z => KF z p e R s m args below meth c Q nc ns hX hN hG H locs ls z1 z2 z3 z4
  obtain ⟨hx, hb, -⟩ := id hX
  cases ins <;> first | (exact absurd ho (Nat.ne_of_beq_eq_false rfl)) | skip
  case if_icmp cc off =>
    subst hlen
    have w := bb_and (a := decide ((pc : Int) + off = (t : Int))) hlk
    have ht : (pc : Int) + off = (t : Int) := of_decide_eq_true w.1
    have hk : k = ax_cc cc := bb_eq w.2
    subst hk
    cases cc
    · exact lv_icmp_eq hx hb hdg ht K1 K2
    · exact lv_icmp_ne hx hb hdg ht K1 (fun q => K2 (fun z => z q))
    · exact lv_icmp_lt hx hb hdg ht K1 K2
    · exact lv_icmp_ge hx hb hdg ht K1 K2
    · exact lv_icmp_gt hx hb hdg ht K1 K2
    · exact lv_icmp_le hx hb hdg ht K1 K2
theorem w0_ifc {t k : Nat} {x : Int32} (hdg : decode M.2.1 pc = .ok (ins, len)) (hlen : len = ax_len ins) (hlk : lok mt M pc ins (t :: k :: lk) = true) (ho : ax_op ins = 19) (KT : ax_cp k x 0 → Wp0 sb dC dI dA sp H0 l ρ0 ad rf sh M t h lv st P) (KF : ¬ ax_cp k x 0 → Wp0 sb dC dI dA sp H0 l ρ0 ad rf sh M (pc + len) h lv st P) : Wp0 sb dC dI dA sp H0 l ρ0 ad rf sh M pc h lv (.int x :: st) P := by
  intro p e R s m args below meth c Q nc ns hX hN hG H locs ls z1 z2 z3 z4
  have K1 := fun z => KT z p e R s m args below meth c Q nc ns hX hN hG H locs ls z1 z2 z3 z4
  have K2 := fun z => KF z p e R s m args below meth c Q nc ns hX hN hG H locs ls z1 z2 z3 z4
  obtain ⟨hx, hb, -⟩ := id hX
  cases ins <;> first | (exact absurd ho (Nat.ne_of_beq_eq_false rfl)) | skip
  case ifCond cc off =>
    subst hlen
    have w := bb_and (a := decide ((pc : Int) + off = (t : Int))) hlk
    have ht : (pc : Int) + off = (t : Int) := of_decide_eq_true w.1
    have hk : k = ax_cc cc := bb_eq w.2
    subst hk
    cases cc
    · exact lv_if_eq hx hb hdg ht K1 K2
    · exact lv_if_ne hx hb hdg ht K1 (fun q => K2 (fun z => z q))
    · exact lv_if_lt hx hb hdg ht K1 K2
    · exact lv_if_ge hx hb hdg ht K1 K2
    · exact lv_if_gt hx hb hdg ht K1 K2
    · exact lv_if_le hx hb hdg ht K1 K2
theorem w0_goto {t : Nat} (hdg : decode M.2.1 pc = .ok (ins, len)) (hlen : len = ax_len ins) (hlk : lok mt M pc ins (t :: lk) = true) (ho : ax_op ins = 20) (K : Wp0 sb dC dI dA sp H0 l ρ0 ad rf sh M t h lv st P) : Wp0 sb dC dI dA sp H0 l ρ0 ad rf sh M pc h lv st P := by
  intro p e R s m args below meth c Q nc ns hX hN hG H locs ls z1 z2 z3 z4
  have KK := K p e R s m args below meth c Q nc ns hX hN hG H locs ls z1 z2 z3 z4
  obtain ⟨hx, hb, -⟩ := id hX
  cases ins <;> first | (exact absurd ho (Nat.ne_of_beq_eq_false rfl)) | skip
  case goto off =>
    subst hlen
    exact lv_goto hx hb hdg (of_decide_eq_true hlk) KK
end WPT
