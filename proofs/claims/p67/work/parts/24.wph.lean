/-! THE MACHINE BY STEPS, 2: the heap, switches, calls -/
section WPT
variable {sb : Nat → List Nat} {mt : Nat → Nat → Option MR} {dC : Nat → ClassId} {dI : Nat → Nat → Nat} {dA : Nat → ClassId} {sp : Nat → Nat} {H0 : Heap} {l : Launch} {ρ0 : List Nat} {ad : Nat → Nat} {rf : Nat → Nat → Option Nat} {sh : SHP}
variable {M : MR} {pc len : Nat} {ins : Instr} {lk : List Nat} {h : PH} {lv : LVs} {st : List Value} {P P' : PO}
theorem w0_getf {ci k c0 n : Nat} {fs : List (Nat × Nat)} {f : Nat × Nat} (hdg : decode M.2.1 pc = .ok (ins, len)) (hlen : len = ax_len ins) (hlk : lok mt M pc ins (ci :: k :: lk) = true) (ho : ax_op ins = 8) (hsh : sh[c0]? = some (ci, n, fs)) (hci : ci < 100) (hf : fs[k]? = some f) (K : Wp0 sb dC dI dA sp H0 l ρ0 ad rf sh M (pc + len) h lv (pf ad (h c0) k f :: st) P) : Wp0 sb dC dI dA sp H0 l ρ0 ad rf sh M pc h lv (.ref (ad c0) :: st) P := by
  intro p e R s m args below meth c Q nc ns hX hN hG H locs ls z1 z2 z3 z4
  have KK := K p e R s m args below meth c Q nc ns hX hN hG H locs ls z1 z2 z3 z4
  obtain ⟨hx, hb, hml, hown, hts, hK, hlocks, hrt, hin, hRoom, hO⟩ := id hX
  cases ins <;> first | (exact absurd ho (Nat.ne_of_beq_eq_false rfl)) | skip
  case getfield idx =>
    subst hlen
    match lk, hlk with
    | c1 :: j1 :: _, hlk =>
      have hl : (bif Nat.beq ci 200 then (bif Nat.beq k 0 then wdq c1 j1 (.fieldLink M.1.cls idx sSTR "value" "[B") else wdq c1 j1 (.fieldLink M.1.cls idx sSTR "coder" "B")) else (match vwCl[ci]? with
        | some q => Nat.blt k q.2.2 && wdq c1 j1 (.fieldLink M.1.cls idx (q.2.1 k).1 (q.2.1 k).2.1 (q.2.1 k).2.2.1)
        | none => false)) = true := hlk
      rw [show Nat.beq ci 200 = false from bb_nb (by omega)] at hl
      have hl2 : (match vwCl[ci]? with | some q => Nat.blt k q.2.2 && wdq c1 j1 (.fieldLink M.1.cls idx (q.2.1 k).1 (q.2.1 k).2.1 (q.2.1 k).2.2.1) | none => false) = true := hl
      cases hq : vwCl[ci]? with
      | none => rw [hq] at hl2; cases hl2
      | some q =>
        rw [hq] at hl2
        have u := bb_and (a := Nat.blt k q.2.2) hl2
        have hvw := vw_ok ci q hq
        have hw := mkW_get (dA := dA) (ad := ad) (rf := rf) (h := h) hsh
        rw [mkE_o hci] at hw
        exact va_get (D := (dC, dI)) (ci := ci) (v := pf ad (h c0) k f) (C := q.1) (T := q.2.1) (N := q.2.2) hx hb hts hvw.1 hown hK z1 c0 hw hq k (bb_lt u.1) (hts _ (wdq_in u.2)) (fun _ h9 => h9) (by rw [List.getElem?_mapIdx, hf]; rfl) hdg KK
/-- of an old String -/
theorem w0_getS {k x : Nat} (hdg : decode M.2.1 pc = .ok (ins, len)) (hlen : len = ax_len ins) (hlk : lok mt M pc ins (200 :: k :: lk) = true) (ho : ax_op ins = 8) (hxs : x = 1 ∨ x = 3) (K : Wp0 sb dC dI dA sp H0 l ρ0 ad rf sh M (pc + len) h lv ((if k = 0 then .ref (sp (x + 1)) else .int 0) :: st) P) : Wp0 sb dC dI dA sp H0 l ρ0 ad rf sh M pc h lv (.ref (sp x) :: st) P := by
  intro p e R s m args below meth c Q nc ns hX hN hG H locs ls z1 z2 z3 z4
  have KK := K p e R s m args below meth c Q nc ns hX hN hG H locs ls z1 z2 z3 z4
  obtain ⟨hx, hb, hml, hown, hts, hK, hlocks, hrt, hin, hRoom, hO⟩ := id hX
  cases ins <;> first | (exact absurd ho (Nat.ne_of_beq_eq_false rfl)) | skip
  case getfield idx =>
    subst hlen
    match lk, hlk with
    | c1 :: j1 :: _, hlk =>
      have hl : (bif Nat.beq k 0 then wdq c1 j1 (.fieldLink M.1.cls idx sSTR "value" "[B") else wdq c1 j1 (.fieldLink M.1.cls idx sSTR "coder" "B")) = true := hlk
      have hso : SO sp sb H0 x s := by
        rcases hxs with rfl | rfl
        · exact hO.2.1
        · exact hO.2.2.1
      have hkp : ∀ a : Nat, a < H0.size → ¬ (aA H0) a → H[a]? = H0[a]? := fun a h1 h2 => z3.2.1 a h1 h2
      cases hk : Nat.beq k 0 with
      | true =>
        rw [hk] at hl
        rw [if_pos (bb_eq hk)] at KK
        obtain ⟨cf, k9, fi, f, cell, y1, y2, y3, y4, y5, y6⟩ := hso.2.2.1.kept hkp
        exact W.getf hx hb hown (hts _ (wdq_in hl)) y1 y2 y3 y4 (v := .ref (sp (x + 1))) y5 rfl rfl hdg KK
      | false =>
        rw [hk] at hl
        rw [if_neg (bb_ne hk)] at KK
        obtain ⟨cf, k9, fi, f, cell, y1, y2, y3, y4, y5, y6⟩ := hso.2.1.kept hkp
        exact W.getf hx hb hown (hts _ (wdq_in hl)) y1 y2 y3 y4 (v := .int 0) y5 rfl rfl hdg KK
theorem set_mapIdx {ad : Nat → Nat} {g g' : Nat → Int} {fs : List (Nat × Nat)} {k : Nat} {f : Nat × Nat} {V : Value} (hf : fs[k]? = some f) (hV : V = pf ad g' k f) (hg : ∀ j, j ≠ k → g' j = g j) : (fs.mapIdx (fun k f => pf ad g k f)).set k V = fs.mapIdx (fun k f => pf ad g' k f) := by
  apply List.ext_getElem?
  intro i
  have hl : k < (fs.mapIdx (fun k f => pf ad g k f)).length := by rw [List.length_mapIdx]; exact (List.getElem?_eq_some_iff.mp hf).1
  by_cases hi : i = k
  · subst hi
    rw [List.getElem?_set_self hl, List.getElem?_mapIdx, hf, hV]
    rfl
  · rw [List.getElem?_set_ne (fun z => hi z.symm), List.getElem?_mapIdx, List.getElem?_mapIdx]
    cases fs[i]? with
    | none => rfl
    | some r => rw [Option.map_some, Option.map_some]; unfold pf; rw [hg i hi]
/-- what may be put into a field by its type code: the value, its number -/
def fok (tc : Nat) (V : Value) (x : Int) : Prop := match tc with
  | 0 => ∃ y : Int32, V = .int y ∧ y.toInt = x
  | 1 => ∃ y : Int32, V = .int y ∧ y.toInt = x ∧ (x = 0 ∨ x = 1)
  | 2 => ∃ y : Int64, V = .long y ∧ y.toInt = x
  | _ => False
theorem w0_putf {ci k tc c0 n : Nat} {x : Int} {V : Value} {fs : List (Nat × Nat)} {f : Nat × Nat} (hdg : decode M.2.1 pc = .ok (ins, len)) (hlen : len = ax_len ins) (hlk : lok mt M pc ins (ci :: k :: tc :: lk) = true) (ho : ax_op ins = 9) (hsh : sh[c0]? = some (ci, n, fs)) (hci : ci < 100) (hf : fs[k]? = some f) (hft : (f.1 = 0 ∧ (tc = 0 ∨ tc = 1)) ∨ (f.1 = 1 ∧ tc = 2)) (hV : fok tc V x) (hni : M.1.name ≠ "<init>") (K : Wp0 sb dC dI dA sp H0 l ρ0 ad rf sh M (pc + len) (uph h c0 k x) lv st P) : Wp0 sb dC dI dA sp H0 l ρ0 ad rf sh M pc h lv (V :: .ref (ad c0) :: st) P := by
  intro p e R s m args below meth c Q nc ns hX hN hG H locs ls z1 z2 z3 z4
  have KK := fun H1 locs1 y1 y2 y3 => K p e R s m args below meth c Q nc ns hX hN hG H1 locs1 ls y1 y2 y3 z4
  obtain ⟨hx, hb, hml, hown, hts, hK, hlocks, hrt, hin, hRoom, hO⟩ := id hX
  cases ins <;> first | (exact absurd ho (Nat.ne_of_beq_eq_false rfl)) | skip
  case putfield idx =>
    subst hlen
    match lk, hlk with
    | c1 :: j1 :: _, hlk =>
      have hl : (match vwCl[ci]? with
        | some q => Nat.blt k q.2.2 && (wdq c1 j1 (.fieldLink M.1.cls idx (q.2.1 k).1 (q.2.1 k).2.1 (q.2.1 k).2.2.1) && (Nat.beq (ax_ty (q.2.1 k).2.2.1) tc && (!(q.2.1 k).2.2.2 || (decide (M.1.name = "<init>") && decide ((q.2.1 k).1 = M.1.cls)))))
        | none => false) = true := hlk
      cases hq : vwCl[ci]? with
      | none => rw [hq] at hl; cases hl
      | some q =>
        rw [hq] at hl
        have e1 := bb_and (a := Nat.blt k q.2.2) hl
        have e2 := bb_and e1.2
        have e3 := bb_and e2.2
        have e4 := bb_eq e3.1
        obtain ⟨hvw, ⟨ty0, hty⟩, hnm, -⟩ := vw_ok ci q hq
        have hfi : (q.2.1 k).2.2.2 = false := by
          cases hfq : (q.2.1 k).2.2.2 with
          | false => rfl
          | true =>
            rw [hfq] at e3
            exact absurd (of_decide_eq_true (bb_and (a := decide (M.1.name = "<init>")) e3.2).1) hni
        have TY : ∃ ty, parseFieldDescriptor (q.2.1 k).2.2.1 = some ty ∧ narrow ty V = V ∧ fits ty V = true := by
          unfold ax_ty at e4
          cases hp : parseFieldDescriptor (q.2.1 k).2.2.1 with
          | none => rw [hp] at e4; subst e4; exact hV.elim
          | some ty =>
            rw [hp] at e4
            refine ⟨ty, rfl, ?_⟩
            cases ty <;> (dsimp only at e4; subst e4) <;> first | exact hV.elim | skip
            case int => obtain ⟨y, rfl, -⟩ := hV; exact ⟨rfl, rfl⟩
            case long => obtain ⟨y, rfl, -⟩ := hV; exact ⟨rfl, rfl⟩
            case boolean =>
              obtain ⟨y, rfl, hy, hy2⟩ := hV
              have : y = 0 ∨ y = 1 := by
                rcases hy2 with z | z
                · exact Or.inl (Int32.toInt_inj.mp (by rw [hy, z]; rfl))
                · exact Or.inr (Int32.toInt_inj.mp (by rw [hy, z]; rfl))
              rcases this with rfl | rfl <;> exact ⟨by decide +kernel, by decide +kernel⟩
        obtain ⟨ty, t1, t2, t3⟩ := TY
        have hw := mkW_get (dA := dA) (ad := ad) (rf := rf) (h := h) hsh
        rw [mkE_o hci] at hw
        have hVp : V = pf ad (uph h c0 k x c0) k f := by
          unfold pf
          rw [uph_in]
          rcases hft with ⟨f1, g | g⟩ | ⟨f1, g⟩
          · subst g; rw [f1]; obtain ⟨y, rfl, rfl⟩ := hV; exact congrArg Value.int (Int32.ofInt_toInt _).symm
          · subst g; rw [f1]; obtain ⟨y, rfl, rfl, -⟩ := hV; exact congrArg Value.int (Int32.ofInt_toInt _).symm
          · subst g; rw [f1]; obtain ⟨y, rfl, rfl⟩ := hV; exact congrArg Value.long (Int64.ofInt_toInt _).symm
        have hset : (mkW dA ad rf sh h).set c0 (ad c0, .inr (ci, (fs.mapIdx (fun k f => pf ad (h c0) k f)).set k V)) = mkW dA ad rf sh (uph h c0 k x) := mkW_set hsh (by rw [mkE_o hci, set_mapIdx hf hVp (fun j hj => uph_ne h x (fun z => hj z.2))]) (fun c' hc' => funext (fun j => uph_ne h x (fun z => hc' z.1)))
        refine va_put (D := (dC, dI)) (ci := ci) (v := V) (ty := ty) (C := q.1) (T := q.2.1) (N := q.2.2) hx hb hts hvw ty0 hty hnm hown hK z1 z2 z3 c0 hw hq k (bb_lt e1.1) (hts _ (wdq_in e2.1)) (fun _ h9 => h9) hfi t1 t2 t3 (by rw [List.length_mapIdx]; exact (List.getElem?_eq_some_iff.mp hf).1) hdg ?_
        rw [hset]
        exact KK
theorem vp_i {i : Int32} {n : Nat} (h1 : 0 ≤ i.toInt) (h2 : i.toInt < n) : vp_in i n := fun q => by
  rcases q with q | q
  · rw [Int32.lt_iff_toInt_lt] at q
    have : (0 : Int32).toInt = 0 := rfl
    omega
  · have : i.toNatClampNeg = i.toInt.toNat := rfl
    omega
theorem w0_iald {c0 n : Nat} {fs : List (Nat × Nat)} {i : Int32} (hdg : decode M.2.1 pc = .ok (.iaload, 1)) (hsh : sh[c0]? = some (100, n, fs)) (h1 : 0 ≤ i.toInt) (h2 : i.toInt < n) (K : Wp0 sb dC dI dA sp H0 l ρ0 ad rf sh M (pc + 1) h lv (.int (Int32.ofInt (h c0 i.toInt.toNat)) :: st) P) : Wp0 sb dC dI dA sp H0 l ρ0 ad rf sh M pc h lv (.int i :: .ref (ad c0) :: st) P := by
  intro p e R s m args below meth c Q nc ns hX hN hG H locs ls z1 z2 z3 z4
  have KK := K p e R s m args below meth c Q nc ns hX hN hG H locs ls z1 z2 z3 z4
  obtain ⟨hx, hb, hml, hown, hts, hK, hlocks, hrt, hin, hRoom, hO⟩ := id hX
  have hw := mkW_get (dA := dA) (ad := ad) (rf := rf) (h := h) hsh
  rw [mkE_i (Or.inl rfl)] at hw
  exact va_iald hx hb hK z1 c0 0 hw rfl (vp_i h1 h2) hdg KK
theorem w0_bald {c0 n : Nat} {fs : List (Nat × Nat)} {i : Int32} (hdg : decode M.2.1 pc = .ok (.baload, 1)) (hsh : sh[c0]? = some (102, n, fs)) (h1 : 0 ≤ i.toInt) (h2 : i.toInt < n) (K : Wp0 sb dC dI dA sp H0 l ρ0 ad rf sh M (pc + 1) h lv (.int (Int32.ofInt (h c0 i.toInt.toNat)) :: st) P) : Wp0 sb dC dI dA sp H0 l ρ0 ad rf sh M pc h lv (.int i :: .ref (ad c0) :: st) P := by
  intro p e R s m args below meth c Q nc ns hX hN hG H locs ls z1 z2 z3 z4
  have KK := K p e R s m args below meth c Q nc ns hX hN hG H locs ls z1 z2 z3 z4
  obtain ⟨hx, hb, hml, hown, hts, hK, hlocks, hrt, hin, hRoom, hO⟩ := id hX
  have hw := mkW_get (dA := dA) (ad := ad) (rf := rf) (h := h) hsh
  rw [mkE_i (Or.inr rfl)] at hw
  exact va_bald hx hb hK z1 c0 2 hw rfl (vp_i h1 h2) hdg KK
theorem w0_lald {c0 n : Nat} {fs : List (Nat × Nat)} {i : Int32} (hdg : decode M.2.1 pc = .ok (.laload, 1)) (hsh : sh[c0]? = some (101, n, fs)) (h1 : 0 ≤ i.toInt) (h2 : i.toInt < n) (K : Wp0 sb dC dI dA sp H0 l ρ0 ad rf sh M (pc + 1) h lv (.long (Int64.ofInt (h c0 i.toInt.toNat)) :: st) P) : Wp0 sb dC dI dA sp H0 l ρ0 ad rf sh M pc h lv (.int i :: .ref (ad c0) :: st) P := by
  intro p e R s m args below meth c Q nc ns hX hN hG H locs ls z1 z2 z3 z4
  have KK := K p e R s m args below meth c Q nc ns hX hN hG H locs ls z1 z2 z3 z4
  obtain ⟨hx, hb, hml, hown, hts, hK, hlocks, hrt, hin, hRoom, hO⟩ := id hX
  have hw := mkW_get (dA := dA) (ad := ad) (rf := rf) (h := h) hsh
  rw [mkE_l] at hw
  exact va_lald hx hb hK z1 c0 1 hw rfl (vp_i h1 h2) hdg KK
theorem w0_aald {c0 n kd a : Nat} {fs : List (Nat × Nat)} {i : Int32} (hdg : decode M.2.1 pc = .ok (.aaload, 1)) (hsh : sh[c0]? = some (kd, n, fs)) (hk1 : 103 ≤ kd) (hk2 : kd ≤ 105) (h1 : 0 ≤ i.toInt) (h2 : i.toInt < n) (hr : rf c0 i.toInt.toNat = some a) (K : Wp0 sb dC dI dA sp H0 l ρ0 ad rf sh M (pc + 1) h lv (.ref a :: st) P) : Wp0 sb dC dI dA sp H0 l ρ0 ad rf sh M pc h lv (.int i :: .ref (ad c0) :: st) P := by
  intro p e R s m args below meth c Q nc ns hX hN hG H locs ls z1 z2 z3 z4
  have KK := K p e R s m args below meth c Q nc ns hX hN hG H locs ls z1 z2 z3 z4
  obtain ⟨hx, hb, hml, hown, hts, hK, hlocks, hrt, hin, hRoom, hO⟩ := id hX
  have hw := mkW_get (dA := dA) (ad := ad) (rf := rf) (h := h) hsh
  rw [mkE_r hk1] at hw
  have hv : va_rf (rf c0 i.toNatClampNeg) = .ref a := by rw [show i.toNatClampNeg = i.toInt.toNat from rfl, hr]; rfl
  rcases (show kd = 103 ∨ kd = 104 ∨ kd = 105 by omega) with rfl | rfl | rfl
  · exact va_aldq hx hb hK z1 c0 3 hw rfl (vp_i h1 h2) hdg (by rw [hv]; exact KK)
  · exact va_aldq hx hb hK z1 c0 4 hw rfl (vp_i h1 h2) hdg (by rw [hv]; exact KK)
  · exact va_aldq hx hb hK z1 c0 5 hw rfl (vp_i h1 h2) hdg (by rw [hv]; exact KK)
theorem w0_iast {c0 n : Nat} {fs : List (Nat × Nat)} {i x : Int32} (hdg : decode M.2.1 pc = .ok (.iastore, 1)) (hsh : sh[c0]? = some (100, n, fs)) (h1 : 0 ≤ i.toInt) (h2 : i.toInt < n) (K : Wp0 sb dC dI dA sp H0 l ρ0 ad rf sh M (pc + 1) (uph h c0 i.toInt.toNat x.toInt) lv st P) : Wp0 sb dC dI dA sp H0 l ρ0 ad rf sh M pc h lv (.int x :: .int i :: .ref (ad c0) :: st) P := by
  intro p e R s m args below meth c Q nc ns hX hN hG H locs ls z1 z2 z3 z4
  have KK := fun H1 locs1 y1 y2 y3 => K p e R s m args below meth c Q nc ns hX hN hG H1 locs1 ls y1 y2 y3 z4
  obtain ⟨hx, hb, hml, hown, hts, hK, hlocks, hrt, hin, hRoom, hO⟩ := id hX
  have hw := mkW_get (dA := dA) (ad := ad) (rf := rf) (h := h) hsh
  rw [mkE_i (Or.inl rfl)] at hw
  have hset : (mkW dA ad rf sh h).set c0 (ad c0, .inl (dA 100, n, .inl (upd (fun j => Int32.ofInt (h c0 j)) i.toNatClampNeg x))) = mkW dA ad rf sh (uph h c0 i.toInt.toNat x.toInt) := mkW_set hsh (by
    rw [mkE_i (Or.inl rfl)]
    congr 3
    congr 1
    funext j
    unfold upd
    by_cases hj : j = i.toNatClampNeg
    · rw [if_pos hj, hj, show i.toNatClampNeg = i.toInt.toNat from rfl, uph_in, Int32.ofInt_toInt]
    · rw [if_neg hj]; exact congrArg _ (uph_ne h (c' := c0) (k' := j) x.toInt (fun z => hj z.2)).symm) (fun c' hc' => funext (fun j => uph_ne h _ (fun z => hc' z.1)))
  refine va_iast hx hb hK z1 z2 z3 c0 0 hw rfl (vp_i h1 h2) hdg ?_
  rw [hset]
  exact KK
theorem nar_b {x : Int32} (h1 : -128 ≤ x.toInt) (h2 : x.toInt ≤ 127) : vp_nar .byte x = x := by
  show x.toInt8.toInt32 = x
  apply Int32.toInt_inj.mp
  rw [Int8.toInt_toInt32, Int32.toInt_toInt8, Int.bmod_def]
  omega
theorem w0_bast {c0 n : Nat} {fs : List (Nat × Nat)} {i x : Int32} (hdg : decode M.2.1 pc = .ok (.bastore, 1)) (hsh : sh[c0]? = some (102, n, fs)) (h1 : 0 ≤ i.toInt) (h2 : i.toInt < n) (h3 : -128 ≤ x.toInt) (h4 : x.toInt ≤ 127) (K : Wp0 sb dC dI dA sp H0 l ρ0 ad rf sh M (pc + 1) (uph h c0 i.toInt.toNat x.toInt) lv st P) : Wp0 sb dC dI dA sp H0 l ρ0 ad rf sh M pc h lv (.int x :: .int i :: .ref (ad c0) :: st) P := by
  intro p e R s m args below meth c Q nc ns hX hN hG H locs ls z1 z2 z3 z4
  have KK := fun H1 locs1 y1 y2 y3 => K p e R s m args below meth c Q nc ns hX hN hG H1 locs1 ls y1 y2 y3 z4
  obtain ⟨hx, hb, hml, hown, hts, hK, hlocks, hrt, hin, hRoom, hO⟩ := id hX
  have hw := mkW_get (dA := dA) (ad := ad) (rf := rf) (h := h) hsh
  rw [mkE_i (Or.inr rfl)] at hw
  have hset : (mkW dA ad rf sh h).set c0 (ad c0, .inl (dA 102, n, .inl (upd (fun j => Int32.ofInt (h c0 j)) i.toNatClampNeg (vp_nar .byte x)))) = mkW dA ad rf sh (uph h c0 i.toInt.toNat x.toInt) := mkW_set hsh (by
    rw [mkE_i (Or.inr rfl), nar_b h3 h4]
    congr 3
    congr 1
    funext j
    unfold upd
    by_cases hj : j = i.toNatClampNeg
    · rw [if_pos hj, hj, show i.toNatClampNeg = i.toInt.toNat from rfl, uph_in, Int32.ofInt_toInt]
    · rw [if_neg hj]; exact congrArg _ (uph_ne h (c' := c0) (k' := j) x.toInt (fun z => hj z.2)).symm) (fun c' hc' => funext (fun j => uph_ne h _ (fun z => hc' z.1)))
  refine va_bast hx hb hK z1 z2 z3 c0 2 hw rfl (vp_i h1 h2) hdg ?_
  rw [hset]
  exact KK
theorem w0_last {c0 n : Nat} {fs : List (Nat × Nat)} {i : Int32} {x : Int64} (hdg : decode M.2.1 pc = .ok (.lastore, 1)) (hsh : sh[c0]? = some (101, n, fs)) (h1 : 0 ≤ i.toInt) (h2 : i.toInt < n) (K : Wp0 sb dC dI dA sp H0 l ρ0 ad rf sh M (pc + 1) (uph h c0 i.toInt.toNat x.toInt) lv st P) : Wp0 sb dC dI dA sp H0 l ρ0 ad rf sh M pc h lv (.long x :: .int i :: .ref (ad c0) :: st) P := by
  intro p e R s m args below meth c Q nc ns hX hN hG H locs ls z1 z2 z3 z4
  have KK := fun H1 locs1 y1 y2 y3 => K p e R s m args below meth c Q nc ns hX hN hG H1 locs1 ls y1 y2 y3 z4
  obtain ⟨hx, hb, hml, hown, hts, hK, hlocks, hrt, hin, hRoom, hO⟩ := id hX
  have hw := mkW_get (dA := dA) (ad := ad) (rf := rf) (h := h) hsh
  rw [mkE_l] at hw
  have hset : (mkW dA ad rf sh h).set c0 (ad c0, .inl (dA 101, n, .inr (.inl (vp_updL (fun j => Int64.ofInt (h c0 j)) i.toNatClampNeg x)))) = mkW dA ad rf sh (uph h c0 i.toInt.toNat x.toInt) := mkW_set hsh (by
    rw [mkE_l]
    congr 5
    funext j
    unfold vp_updL
    by_cases hj : j = i.toNatClampNeg
    · rw [if_pos hj, hj, show i.toNatClampNeg = i.toInt.toNat from rfl, uph_in, Int64.ofInt_toInt]
    · rw [if_neg hj]; exact congrArg _ (uph_ne h (c' := c0) (k' := j) x.toInt (fun z => hj z.2)).symm) (fun c' hc' => funext (fun j => uph_ne h _ (fun z => hc' z.1)))
  refine va_last hx hb hK z1 z2 z3 c0 1 hw rfl (vp_i h1 h2) hdg ?_
  rw [hset]
  exact KK
theorem w0_alen {c0 n kd : Nat} {fs : List (Nat × Nat)} (hdg : decode M.2.1 pc = .ok (.arraylength, 1)) (hsh : sh[c0]? = some (kd, n, fs)) (hk1 : 100 ≤ kd) (hk2 : kd ≤ 105) (K : Wp0 sb dC dI dA sp H0 l ρ0 ad rf sh M (pc + 1) h lv (.int (nI n) :: st) P) : Wp0 sb dC dI dA sp H0 l ρ0 ad rf sh M pc h lv (.ref (ad c0) :: st) P := by
  intro p e R s m args below meth c Q nc ns hX hN hG H locs ls z1 z2 z3 z4
  have KK := K p e R s m args below meth c Q nc ns hX hN hG H locs ls z1 z2 z3 z4
  obtain ⟨hx, hb, hml, hown, hts, hK, hlocks, hrt, hin, hRoom, hO⟩ := id hX
  have hw := mkW_get (dA := dA) (ad := ad) (rf := rf) (h := h) hsh
  rcases (show kd = 100 ∨ kd = 101 ∨ kd = 102 ∨ kd = 103 ∨ kd = 104 ∨ kd = 105 by omega) with rfl | rfl | rfl | rfl | rfl | rfl
  · rw [mkE_i (Or.inl rfl)] at hw; exact va_alen hx hb hK z1 c0 0 hw rfl rfl hdg KK
  · rw [mkE_l] at hw; exact va_alen hx hb hK z1 c0 1 hw rfl rfl hdg KK
  · rw [mkE_i (Or.inr rfl)] at hw; exact va_alen hx hb hK z1 c0 2 hw rfl rfl hdg KK
  · rw [mkE_r (by omega)] at hw; exact va_alen hx hb hK z1 c0 3 hw rfl rfl hdg KK
  · rw [mkE_r (by omega)] at hw; exact va_alen hx hb hK z1 c0 4 hw rfl rfl hdg KK
  · rw [mkE_r (by omega)] at hw; exact va_alen hx hb hK z1 c0 5 hw rfl rfl hdg KK
/-- the law's script: its length, its ints -/
theorem w0_slen {L : Nat} (hdg : decode M.2.1 pc = .ok (.arraylength, 1)) (hL : ρ0[6]? = some (L + 9223372036854775808)) (K : Wp0 sb dC dI dA sp H0 l ρ0 ad rf sh M (pc + 1) h lv (.int (nI L) :: st) P) : Wp0 sb dC dI dA sp H0 l ρ0 ad rf sh M pc h lv (.ref (sp 0) :: st) P := by
  intro p e R s m args below meth c Q nc ns hX hN hG H locs ls z1 z2 z3 z4
  have KK := K p e R s m args below meth c Q nc ns hX hN hG H locs ls z1 z2 z3 z4
  obtain ⟨hx, hb, hml, hown, hts, hK, hlocks, hrt, hin, hRoom, hO⟩ := id hX
  obtain ⟨⟨L', xs, x1, x2, x3, x4, x5, x6⟩, -⟩ := hO
  have e : L' = L := by rw [hL] at x4; have := Option.some.inj x4; omega
  subst e
  exact va_slen hx hb x1 x2 (Nat.not_le.mpr x2) z3 hdg KK
theorem w0_sld {L : Nat} {i : Int32} (hdg : decode M.2.1 pc = .ok (.iaload, 1)) (hL : ρ0[6]? = some (L + 9223372036854775808)) (h1 : 0 ≤ i.toInt) (h2 : i.toInt < L) (K : Wp0 sb dC dI dA sp H0 l ρ0 ad rf sh M (pc + 1) h lv (.int (Int32.ofInt ((sp (1000 + i.toInt.toNat) : Int) - 9223372036854775808)) :: st) P) : Wp0 sb dC dI dA sp H0 l ρ0 ad rf sh M pc h lv (.int i :: .ref (sp 0) :: st) P := by
  intro p e R s m args below meth c Q nc ns hX hN hG H locs ls z1 z2 z3 z4
  have KK := K p e R s m args below meth c Q nc ns hX hN hG H locs ls z1 z2 z3 z4
  obtain ⟨hx, hb, hml, hown, hts, hK, hlocks, hrt, hin, hRoom, hO⟩ := id hX
  obtain ⟨⟨L', xs, x1, x2, x3, x4, x5, x6⟩, -⟩ := hO
  have e : L' = L := by rw [hL] at x4; have := Option.some.inj x4; omega
  subst e
  have hv : Int32.ofInt ((sp (1000 + i.toInt.toNat) : Int) - 9223372036854775808) = xs i.toNatClampNeg := by
    rw [x6 _ (by omega), zI_cast, show i.toNatClampNeg = i.toInt.toNat from rfl, Int.add_sub_cancel, Int32.ofInt_toInt]
  rw [hv] at KK
  exact va_sld hx hb x1 x2 (Nat.not_le.mpr x2) z3 (vp_i h1 h2) hdg KK
/-- the bytes of an old String -/
theorem so_of {s : State} (hO : OX sp sb H0 ρ0 s) {x : Nat} (hx : x = 2 ∨ x = 4) : ∃ y, x = y + 1 ∧ SO sp sb H0 y s := by
  rcases hx with rfl | rfl
  · exact ⟨1, rfl, hO.2.1⟩
  · exact ⟨3, rfl, hO.2.2.1⟩
theorem w0_tlen {x : Nat} (hdg : decode M.2.1 pc = .ok (.arraylength, 1)) (hx2 : x = 2 ∨ x = 4) (K : Wp0 sb dC dI dA sp H0 l ρ0 ad rf sh M (pc + 1) h lv (.int (nI (sb x).length) :: st) P) : Wp0 sb dC dI dA sp H0 l ρ0 ad rf sh M pc h lv (.ref (sp x) :: st) P := by
  intro p e R s m args below meth c Q nc ns hX hN hG H locs ls z1 z2 z3 z4
  have KK := K p e R s m args below meth c Q nc ns hX hN hG H locs ls z1 z2 z3 z4
  obtain ⟨hx, hb, hml, hown, hts, hK, hlocks, hrt, hin, hRoom, hO⟩ := id hX
  obtain ⟨y, ey, hso⟩ := so_of hO hx2
  have hT := hso.2.2.2.kept (fun a h1 h2 => z3.2.1 a h1 h2)
  rw [← ey] at hT
  obtain ⟨cell, y1, y2, y3, y4, y5, y6, y7⟩ := hT
  exact W.alen (n := nI (sb x).length) hx hb y1 y2 y5 rfl rfl hdg KK
theorem w0_tld {x n : Nat} {i : Int32} (hdg : decode M.2.1 pc = .ok (.baload, 1)) (hx2 : x = 2 ∨ x = 4) (h1 : 0 ≤ i.toInt) (hn : (sb x)[i.toInt.toNat]? = some n) (K : Wp0 sb dC dI dA sp H0 l ρ0 ad rf sh M (pc + 1) h lv (.int (nI n) :: st) P) : Wp0 sb dC dI dA sp H0 l ρ0 ad rf sh M pc h lv (.int i :: .ref (sp x) :: st) P := by
  intro p e R s m args below meth c Q nc ns hX hN hG H locs ls z1 z2 z3 z4
  have KK := K p e R s m args below meth c Q nc ns hX hN hG H locs ls z1 z2 z3 z4
  obtain ⟨hx, hb, hml, hown, hts, hK, hlocks, hrt, hin, hRoom, hO⟩ := id hX
  obtain ⟨y, ey, hso⟩ := so_of hO hx2
  have hT := hso.2.2.2.kept (fun a h1 h2 => z3.2.1 a h1 h2)
  rw [← ey] at hT
  obtain ⟨cell, y1, y2, y3, y4, y5, y6, y7⟩ := hT
  have hlt : i.toInt.toNat < (sb x).length := (List.getElem?_eq_some_iff.mp hn).1
  have hcl : i.toNatClampNeg = i.toInt.toNat := rfl
  exact W.bald (v := .int (nI n)) hx hb y1 y2 y3 (fun q => q.elim (fun q => by rw [Int32.lt_iff_toInt_lt] at q; have : (0 : Int32).toInt = 0 := rfl; omega) (fun q => by rw [hcl] at q; omega)) (by rw [hcl, y6 _ hlt]; show some (Value.int (nI ((sb x).getD i.toInt.toNat 0))) = _; rw [List.getD_eq_getElem?_getD, hn]; rfl) rfl rfl hdg KK
theorem w0_gets {x : Nat} (hdg : decode M.2.1 pc = .ok (ins, len)) (hlen : len = ax_len ins) (hlk : lok mt M pc ins (x :: lk) = true) (ho : ax_op ins = 56) (K1 : x = 0 → Wp0 sb dC dI dA sp H0 l ρ0 ad rf sh M (pc + len) h lv (.int 1 :: st) P) (K2 : x ≠ 0 → Wp0 sb dC dI dA sp H0 l ρ0 ad rf sh M (pc + len) h lv (vq sp :: st) P) : Wp0 sb dC dI dA sp H0 l ρ0 ad rf sh M pc h lv st P := by
  intro p e R s m args below meth c Q nc ns hX hN hG H locs ls z1 z2 z3 z4
  have KK1 := fun z => K1 z p e R s m args below meth c Q nc ns hX hN hG H locs ls z1 z2 z3 z4
  have KK2 := fun z => K2 z p e R s m args below meth c Q nc ns hX hN hG H locs ls z1 z2 z3 z4
  obtain ⟨hx, hb, hml, hown, hts, hK, hlocks, hrt, hin, hRoom, hO⟩ := id hX
  cases ins <;> first | (exact absurd ho (Nat.ne_of_beq_eq_false rfl)) | skip
  case getstatic idx =>
    subst hlen
    match lk, hlk with
    | c1 :: j1 :: _, hlk =>
      have hl : (bif Nat.beq x 0 then wdq c1 j1 (.fieldLink M.1.cls idx sSTR "COMPACT_STRINGS" "Z") else wdq c1 j1 (.fieldLink M.1.cls idx sPRE "SIOOBE_FORMATTER" "Ljava/util/function/BiFunction;")) = true := hlk
      have hkp : ∀ a : Nat, a < H0.size → ¬ (aA H0) a → H[a]? = H0[a]? := fun a h1 h2 => z3.2.1 a h1 h2
      have GS : ∀ (C n d : String) (v : Value), va_Z C n d v (aA H0) s H0 → (Cond.fieldLink M.1.cls idx C n d).before args s = true → W p l e R s m args below meth c H locs nc ns Q (F0 m (pc + 3) ls (v :: st)) → W p l e R s m args below meth c H locs nc ns Q (F0 m pc ls st) := fun C n d v hZ hli KK => by
        obtain ⟨cf, kf, fi, f, a, cell, h1, h2, h3, h4, h5, h6, h7, h8⟩ := hZ.kept hkp
        exact W.gets hx hb hown hli h1 h2 h3 h4 h5 (fun e => by rw [e] at h6; cases h6) h7 rfl hdg KK
      cases hx0 : Nat.beq x 0 with
      | true =>
        rw [hx0] at hl
        exact GS _ _ _ _ hO.2.2.2.2.2.1 (hts _ (wdq_in hl)) (KK1 (bb_eq hx0))
      | false =>
        rw [hx0] at hl
        exact GS _ _ _ _ hO.2.2.2.2.2.2.1 (hts _ (wdq_in hl)) (KK2 (bb_ne hx0))
theorem w0_table {d lo hi : Nat} {ks : List Nat} {x : Int32} (hdg : decode M.2.1 pc = .ok (ins, len)) (hlk : lok mt M pc ins (d :: lo :: hi :: ks) = true) (ho : ax_op ins = 57) (KD : x.toInt < (nI lo).toInt ∨ (nI hi).toInt < x.toInt → Wp0 sb dC dI dA sp H0 l ρ0 ad rf sh M d h lv st P) (KK : ∀ k t, ax_pr k t ks → x = nI k → Wp0 sb dC dI dA sp H0 l ρ0 ad rf sh M t h lv st P) : Wp0 sb dC dI dA sp H0 l ρ0 ad rf sh M pc h lv (.int x :: st) P := by
  intro p e R s m args below meth c Q nc ns hX hN hG H locs ls z1 z2 z3 z4
  have K1 := fun z => KD z p e R s m args below meth c Q nc ns hX hN hG H locs ls z1 z2 z3 z4
  have K2 := fun k t z y => KK k t z y p e R s m args below meth c Q nc ns hX hN hG H locs ls z1 z2 z3 z4
  obtain ⟨hx, hb, -⟩ := id hX
  cases ins <;> first | (exact absurd ho (Nat.ne_of_beq_eq_false rfl)) | skip
  case tableswitch d0 lo0 hi0 offs =>
    have hl : (decide ((pc : Int) + d0 = (d : Int)) && (decide ((nI lo).toInt = lo0) && (decide ((nI hi).toInt = hi0) && (Nat.blt lo 4294967296 && (Nat.blt hi 4294967296 && (ax_sk (fun k t => Nat.blt k 4294967296 && match offs[((nI k).toInt - lo0).toNat]? with
        | some o => decide ((pc : Int) + o = (t : Int)) && (decide (lo0 ≤ (nI k).toInt) && decide ((nI k).toInt ≤ hi0))
        | none => false) ks && (List.range (hi0 - lo0 + 1).toNat).all (fun i => ax_key ((lo0 + i).toNat) ks && decide (0 ≤ lo0)))))))) = true := hlk
    have u1 := bb_and hl
    have u2 := bb_and u1.2
    have u3 := bb_and u2.2
    have u4 := bb_and u3.2
    have u5 := bb_and u4.2
    have u6 := bb_and u5.2
    have hd : (pc : Int) + d0 = (d : Int) := of_decide_eq_true u1.1
    have hlo : (nI lo).toInt = lo0 := of_decide_eq_true u2.1
    have hhi : (nI hi).toInt = hi0 := of_decide_eq_true u3.1
    by_cases c1 : x.toInt < lo0 ∨ hi0 < x.toInt
    · exact lv_tableOut hx hb hdg c1 hd (K1 (by rw [hlo, hhi]; exact c1))
    · have hr := i32_rng x
      have z := List.all_eq_true.mp u6.2 (x.toInt - lo0).toNat (List.mem_range.mpr (by omega))
      have z2 := bb_and (a := ax_key ((lo0 + ((x.toInt - lo0).toNat : Nat)).toNat) ks) z
      have z3 : 0 ≤ lo0 := of_decide_eq_true z2.2
      obtain ⟨t, hp⟩ := ax_key_pr ks z2.1
      have hxk : x = nI (lo0 + ((x.toInt - lo0).toNat : Nat)).toNat := by
        apply Int32.toInt_inj.mp
        rw [nI_toInt (by omega)]
        omega
      have y := ax_sk_pr ks u6.1 hp
      have y2 := (bb_and (a := Nat.blt _ 4294967296) y).2
      rw [← hxk] at y2
      cases ho2 : offs[(x.toInt - lo0).toNat]? with
      | none => rw [ho2] at y2; cases y2
      | some off =>
        rw [ho2] at y2
        have y3 := bb_and (a := decide ((pc : Int) + off = (t : Int))) y2
        exact lv_tableIn hx hb hdg (by omega) (by omega) ho2 (of_decide_eq_true y3.1) (K2 _ t hp hxk)
theorem w0_look {d : Nat} {ks : List Nat} {x : Int32} (hdg : decode M.2.1 pc = .ok (ins, len)) (hlk : lok mt M pc ins (d :: ks) = true) (ho : ax_op ins = 58) (KD : (∀ k t, ax_pr k t ks → x ≠ nI k) → Wp0 sb dC dI dA sp H0 l ρ0 ad rf sh M d h lv st P) (KK : ∀ k t, ax_pr k t ks → x = nI k → Wp0 sb dC dI dA sp H0 l ρ0 ad rf sh M t h lv st P) : Wp0 sb dC dI dA sp H0 l ρ0 ad rf sh M pc h lv (.int x :: st) P := by
  intro p e R s m args below meth c Q nc ns hX hN hG H locs ls z1 z2 z3 z4
  have K1 := fun z => KD z p e R s m args below meth c Q nc ns hX hN hG H locs ls z1 z2 z3 z4
  have K2 := fun k t z y => KK k t z y p e R s m args below meth c Q nc ns hX hN hG H locs ls z1 z2 z3 z4
  obtain ⟨hx, hb, -⟩ := id hX
  cases ins <;> first | (exact absurd ho (Nat.ne_of_beq_eq_false rfl)) | skip
  case lookupswitch d0 ps =>
    have hl : (decide ((pc : Int) + d0 = (d : Int)) && ((ps.toList.zip (ps.toList.drop 1)).all (fun (a, next) => a.1 < next.1) && (ax_sk (fun k t => Nat.blt k 4294967296 && decide ((pc : Int) + Op.lookupswitch.offset ps.toList d0 (nI k).toInt = (t : Int))) ks && ps.toList.all (fun p => decide (0 ≤ p.1 ∧ p.1 < 2147483648) && ax_key p.1.toNat ks)))) = true := hlk
    have u1 := bb_and hl
    have u2 := bb_and u1.2
    have u3 := bb_and u2.2
    have hd : (pc : Int) + d0 = (d : Int) := of_decide_eq_true u1.1
    by_cases c1 : ∃ k t, ax_pr k t ks ∧ x = nI k
    · obtain ⟨k, t, hp, hxk⟩ := c1
      have y := ax_sk_pr ks u3.1 hp
      have y2 := of_decide_eq_true (bb_and (a := Nat.blt k 4294967296) y).2
      rw [← hxk] at y2
      exact lv_lookup hx hb hdg u2.1 rfl y2 (K2 k t hp hxk)
    · have c2 : ∀ k t, ax_pr k t ks → x ≠ nI k := fun k t hp hxk => c1 ⟨k, t, hp, hxk⟩
      have ho2 : Op.lookupswitch.offset ps.toList d0 x.toInt = d0 := off_none _ (fun q hq hqx => by
        have y := List.all_eq_true.mp u3.2 q hq
        have y2 := bb_and (a := decide (0 ≤ q.1 ∧ q.1 < 2147483648)) y
        have y3 := of_decide_eq_true y2.1
        obtain ⟨t, hp⟩ := ax_key_pr ks y2.2
        refine c2 _ t hp ?_
        apply Int32.toInt_inj.mp
        rw [nI_toInt (by omega)]
        omega)
      exact lv_lookup hx hb hdg u2.1 rfl (by rw [ho2]; exact hd) (K1 c2)
end WPT
