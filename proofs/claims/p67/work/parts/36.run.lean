/-! THE MACHINE BY FORMS, 2: its steps -/
abbrev CT : Type := (Nat × Nat) × (Nat × Nat × Nat) × List (Nat × Nat) × List (Nat × Nat)
abbrev O2 : Type := Nat × Nat × AT
abbrev R2 : Type := Option (List O2)
abbrev GO2 : Type := MR → CT → Nat → List ME → NS → MM → L2 → List V2 → R2
abbrev TU : Type := Nat → Nat → List (Nat × Nat) × List (Nat × Nat)
abbrev UL : Type := List ((Nat × Nat × Nat) × UN)
noncomputable def um (tb : TB) (U : UN) (N : NS) (m : MM) (lv : L2) (st : List V2) : Option (NS × MM × List LF) := bds tb false U.1 N m lv st [] (fun N' m' mu => ax_fc U.2.1.1.length (fun n => gd (sub tb N' m' lv st mu n U.2.1 && sb_rg N' U.2.1.1 mu) (some (N', m', mu))))
noncomputable def uf (tb : TB) (a b pc : Nat) (N : NS) (m : MM) (lv : L2) (st : List V2) (l : UL) : Option (UN × NS × MM × List LF) := List.rec (motive := fun _ => Option (UN × NS × MM × List LF)) none (fun e _ ih => bif Nat.beq e.1.1 a && (Nat.beq e.1.2.1 b && Nat.beq e.1.2.2 pc) then (match um tb e.2 N m lv st with
  | some q => some (e.2, q)
  | none => ih) else ih) l
noncomputable def x_os (tb : TB) (N : NS) (m : MM) (mu : List LF) (W : List WE) (go : Nat → Nat → NS → MM → L2 → List V2 → R2) (l : List ON) : R2 := List.rec (motive := fun _ => R2) (some []) (fun o _ ih => two2 (ap tb N m mu W o.2.2.2 (go o.1 o.2.1)) ih) l
noncomputable def at2 (l : List (Nat × Nat)) (k : Nat) : Option Nat := List.rec (motive := fun _ => Option Nat) none (fun q _ ih => bif Nat.beq q.1 k then some q.2 else ih) l
noncomputable def al2 (l : List R2) : R2 := List.rec (motive := fun _ => R2) (some []) (fun x _ ih => two2 x ih) l
/-- an unknown, number by number -/
noncomputable def spl (N : NS) (x : Nat) (go : NS → R2) : R2 := i_fc (s_at N.1 x).1 (fun lo => i_fc (s_at N.1 x).2 (fun hi => gd (i_le (hi - lo) 300 && i_le lo hi) (al2 ((List.range (hi - lo + 1).toNat).map (fun d => i_fc (lo + Int.ofNat d) (fun v => ax_set N.1 x (v, v) (fun σ => go (σ, N.2.1, N.2.2))))))))
noncomputable def i32 (n : Nat) : Int := bif Nat.blt n 2147483648 then Int.ofNat n else Int.negSucc (4294967295 - n)
noncomputable def i64 (n : Nat) : Int := bif Nat.blt n 9223372036854775808 then Int.ofNat n else Int.negSucc (18446744073709551615 - n)
noncomputable def x_psh (lk : List Nat) (kk : V2 → R2) : R2 := lc lk (fun t lk => lc lk (fun n _ =>
    bif Nat.beq t 0 then gd (Nat.blt n 4294967296) (i_fc (i32 n) (fun z => kk (0, (z, []))))
    else bif Nat.beq t 1 then gd (Nat.blt n 18446744073709551616) (i_fc (i64 n) (fun z => kk (1, (z, [])))) else gd (Nat.beq t 6) (kk (6, (Int.ofNat n, [])))))
noncomputable def x_ld (tg : Nat → Bool) (N : NS) (lv : L2) (lk : List Nat) (kk : V2 → R2) : R2 := lc lk (fun i _ => ob (lk2 lv i) (fun v => gd (tg v.1) (bif Nat.ble v.1 1 then lf_nv N.1 v.2 (fun f => kk (v.1, f)) else kk v)))
def tgI (t : Nat) : Bool := Nat.beq t 0
def tgL (t : Nat) : Bool := Nat.beq t 1
def tgR (t : Nat) : Bool := Nat.beq t 2 || Nat.beq t 6
def vk1 (i : Nat) : Nat × V2 → Bool := fun q => !(Nat.beq q.1 i) && !(Nat.beq (q.1 + 1) i && Nat.beq q.2.1 1)
def vk2 (i : Nat) : Nat × V2 → Bool := fun q => !(Nat.beq q.1 i) && (!(Nat.beq q.1 (i + 1)) && !(Nat.beq (q.1 + 1) i && Nat.beq q.2.1 1))
/-- a cell's number -/
def cel (v : V2) : Nat := v.2.1.toNat
noncomputable def x_getf (tb : TB) (lk : List Nat) (N : NS) (m : MM) (st : List V2) (kk : NS → MM → List V2 → R2) : R2 := lc lk (fun ci lk => lc lk (fun k _ => lc st (fun a r =>
    bif Nat.beq a.1 2 then ob (ax_nth tb.1 (cel a)) (fun q => gd (Nat.beq q.1 ci && Nat.blt ci 100) (ob (ax_nth q.2.2 k) (fun f => bif Nat.ble f.1 1 then ld tb N m (cel a) (Int.ofNat k, []) (fun N' m' v => gd (bif Nat.beq f.1 0 then in32 N' v else in64 N' v) (kk N' m' ((f.1, v) :: r))) else gd (Nat.beq f.1 2) (kk N m ((2, (Int.ofNat f.2, [])) :: r)))))
    else gd (Nat.beq a.1 6 && (Nat.beq ci 200 && (Nat.beq (cel a) 1 || Nat.beq (cel a) 3))) (bif Nat.beq k 0 then kk N m ((6, (Int.ofNat (cel a + 1), [])) :: r) else kk N m ((0, (0, [])) :: r)))))
noncomputable def x_putf (tb : TB) (lk : List Nat) (N : NS) (m : MM) (st : List V2) (kk : MM → List V2 → R2) : R2 := lc lk (fun ci lk => lc lk (fun k lk => lc lk (fun tc _ => lc st (fun v st => lc st (fun a r => gd (Nat.beq a.1 2) (ob (ax_nth tb.1 (cel a)) (fun q => gd (Nat.beq q.1 ci && (Nat.blt ci 100 && !(Nat.beq (cel a) tb.2.2.2.2))) (ob (ax_nth q.2.2 k) (fun f =>
    gd ((Nat.beq f.1 0 && (Nat.beq v.1 0 && (Nat.beq tc 0 || (Nat.beq tc 1 && (pv1 N v.2 && lf_sc (-1) v.2 1 (pv1 N)))))) || (Nat.beq f.1 1 && (Nat.beq v.1 1 && Nat.beq tc 2))) (stq tb N m (cel a) (Int.ofNat k, []) v.2 (fun m' => kk m' r)))))))))))
/-- behind a load of a row's place -/
noncomputable def x_rf (tb : TB) (N : NS) (m : MM) (c : Nat) (kk : NS → R2) : R2 := bif isnil m.2.1 then kk N else bif gcell c tb.2.2.1 then rfn tb N m (some []) kk else kk N
noncomputable def x_bnd (N : NS) (I : LF) (n : Nat) : Bool := pv2 N I && lf_sc (-1) I (Int.ofNat n - 1) (pv2 N)
/-- array loads: kinds 100 int, 101 long, 102 byte, 103 references -/
noncomputable def x_ald (tb : TB) (sb : Nat → List Nat) (kd : Nat) (N : NS) (m : MM) (st : List V2) (kk : NS → MM → List V2 → R2) (re : NS → R2) : R2 := lc st (fun i st' => lc st' (fun a r => gd (Nat.beq i.1 0) (lf_nv N.1 i.2 (fun I =>
    bif Nat.beq a.1 2 then ob (ax_nth tb.1 (cel a)) (fun q =>
      bif Nat.beq kd 103 then gd (Nat.ble 103 q.1 && Nat.ble q.1 105) (bif cst I then gd (i_nn I.1 && Nat.blt I.1.toNat q.2.1) (ob (ax_nth q.2.2 I.1.toNat) (fun f => kk N m ((2, (Int.ofNat f.2, [])) :: r))) else lc I.2 (fun t _ => spl N t.1 re))
      else gd (Nat.beq q.1 kd && x_bnd N I q.2.1) (ld tb N m (cel a) I (fun N' m' v => gd (bif Nat.beq kd 101 then in64 N' v else in32 N' v) (x_rf tb N' m' (cel a) (fun N2 => kk N2 m' ((bif Nat.beq kd 101 then 1 else 0, v) :: r))))))
    else gd (Nat.beq a.1 6) (bif Nat.beq (cel a) 0 then gd (Nat.beq kd 100 && pv1 N I) (ld tb N m 999 (0, []) (fun N' m' L => gd (lf_add (-1) I (L.1 - 1, L.2) (pv1 N')) (ld tb N' m' 998 I (fun N2 m2 v => gd (in32 N2 v) (kk N2 m2 ((0, v) :: r))))))
      else gd (Nat.beq kd 102 && ((Nat.beq (cel a) 2 || Nat.beq (cel a) 4) && (cst I && i_nn I.1))) (ob (ax_nth (sb (cel a)) I.1.toNat) (fun n => gd (Nat.blt n 2147483648) (kk N m ((0, (Int.ofNat n, [])) :: r)))))))))
noncomputable def x_ast (tb : TB) (kd : Nat) (N : NS) (m : MM) (st : List V2) (kk : MM → List V2 → R2) : R2 := lc st (fun v st => lc st (fun i st' => lc st' (fun a r => gd (Nat.beq i.1 0 && (Nat.beq a.1 2 && Nat.beq v.1 (bif Nat.beq kd 101 then 1 else 0))) (lf_nv N.1 i.2 (fun I => lf_nv N.1 v.2 (fun w => ob (ax_nth tb.1 (cel a)) (fun q =>
    gd (Nat.beq q.1 kd && (x_bnd N I q.2.1 && ((!(Nat.beq (cel a) tb.2.2.2.2) || Nat.ble q.2.1 80) && (!(Nat.beq kd 102) || (pv1 N (w.1 + 128, w.2) && lf_sc (-1) w 127 (pv1 N)))))) (stq tb N m (cel a) I w (fun m' => kk m' r)))))))))
noncomputable def x_alen (tb : TB) (sb : Nat → List Nat) (N : NS) (m : MM) (a : V2) (kk : NS → MM → V2 → R2) : R2 :=
  bif Nat.beq a.1 2 then ob (ax_nth tb.1 (cel a)) (fun q => gd (Nat.ble 100 q.1 && (Nat.ble q.1 105 && Nat.blt q.2.1 2147483648)) (kk N m (0, (Int.ofNat q.2.1, []))))
  else gd (Nat.beq a.1 6) (bif Nat.beq (cel a) 0 then ld tb N m 999 (0, []) (fun N' m' L => kk N' m' (0, L)) else gd ((Nat.beq (cel a) 2 || Nat.beq (cel a) 4) && Nat.blt (sb (cel a)).length 2147483648) (kk N m (0, (Int.ofNat (sb (cel a)).length, []))))
/-- switches -/
noncomputable def x_sw (N0 : NS) (v : LF) (go : Nat → NS → R2) (d : Nat) (ks : List Nat) : NS → R2 := match ks with
  | k :: t :: r => fun N => bif Nat.blt k 4294967296 then br_eq N v (i32 k, []) (go t) (x_sw N0 v go d r) else none
  | _ => go d
def v_args (n : Nat) (st acc : List V2) : Option (List V2 × List V2) := match n with
  | 0 => some (acc, st)
  | k + 1 => match st with
    | v :: r => v_args k r (v :: acc)
    | [] => none
def v_locs (i : Nat) (l : List V2) : L2 := match l with
  | [] => []
  | v :: r => (i, v) :: v_locs (bif Nat.beq v.1 1 then i + 2 else i + 1) r
def v_wt (l : List V2) : Nat := match l with
  | [] => 0
  | v :: r => (bif Nat.beq v.1 1 then 2 else 1) + v_wt r
noncomputable def v_rcv (tb : TB) (ci : Nat) (as : List V2) : Bool := match as with
  | a :: _ => bif Nat.beq a.1 2 then (match ax_nth tb.1 (cel a) with
      | some q => Nat.beq q.1 ci && Nat.blt ci 100
      | none => false) else Nat.beq a.1 6 && (Nat.beq ci 200 && (Nat.beq (cel a) 1 || Nat.beq (cel a) 3))
  | [] => false
/-- what may be given back -/
noncomputable def v_rok (N : NS) (ret : Option FieldType) (op : Nat) (st : List V2) : Bool := match op with
  | 22 => (match st with
    | [v] => Nat.beq v.1 0 && (match ret with
      | some .int => true
      | some .boolean => pv1 N v.2 && lf_sc (-1) v.2 1 (pv1 N)
      | some .byte => pv1 N v.2 && lf_sc (-1) v.2 1 (pv1 N)
      | some .char => pv1 N v.2 && lf_sc (-1) v.2 65535 (pv1 N)
      | _ => false)
    | _ => false)
  | 23 => (match st with
    | [v] => Nat.beq v.1 1 && (match ret with
      | some .long => true
      | _ => false)
    | _ => false)
  | 24 => (match st with
    | [v] => Nat.beq v.1 2 && (match ret with
      | some (.object _) => true
      | _ => false)
    | _ => false)
  | 25 => (match st with
    | [] => (match ret with
      | none => true
      | _ => false)
    | _ => false)
  | _ => false
def ct0 (tu : TU) (a b : Nat) : CT := ((a, b), (99999, 0, 99999), tu a b)
/-- the key of a call that is remembered -/
noncomputable def x_pk (tu : TU) (a b : Nat) (N : NS) (as : List V2) : Option (Nat × LF) := ob (at2 (tu a b).2 99998) (fun kd => gd (Nat.blt a 100 && Nat.blt b 1000) (match as with
  | r :: s :: t => gd (Nat.beq r.1 2 && Nat.beq (cel r) 169) (bif Nat.beq kd 1 then gd (isnil t && (Nat.beq s.1 6 && i_nn s.2.1)) (some (100000 + (a * 1000 + b), (s.2.1, [])))
      else lc t (fun n u => gd (Nat.beq kd 2 && (isnil u && (Nat.beq s.1 0 && (cst s.2 && (i_nn s.2.1 && (Nat.beq n.1 0 && (pv1 N n.2 && lf_sc (-1) n.2 4095 (pv1 N)))))))) (lf_nv N.1 n.2 (fun f => i_fc (f.1 + 4096 * s.2.1) (fun z => some (200000 + (a * 1000 + b), (z, f.2)))))))
  | _ => none))
noncomputable def x_call (tb : TB) (tu : TU) (ul : UL) (mt : Nat → Nat → Option MR) (ih : GO2) (M : MR) (lk : List Nat) (N : NS) (m : MM) (st : List V2) (go : NS → MM → List V2 → R2) : R2 := lc lk (fun a lk => lc lk (fun b lk => lc lk (fun kc lk => lc lk (fun ci _ => ob (mt a b) (fun C => ob (v_args C.2.2.2.2.2.1 st []) (fun q =>
    gd (Nat.blt C.2.2.2.2.1.frames M.2.2.2.2.1.frames && (Nat.ble (8 + (C.2.2.1 + 11) + C.2.2.2.2.1.locals) M.2.2.2.2.1.locals && (Nat.ble (v_wt q.2) 8 && (Nat.beq C.2.2.2.2.1.cells 0 && (Nat.beq C.2.2.2.2.1.slots 0 && (Nat.ble (v_wt q.1) C.2.2.1 && (decide (C.1.name ≠ "<init>") && (Nat.beq kc 2 || (Nat.beq kc 0 && v_rcv tb ci q.1)))))))))
      (match x_pk tu a b N q.1 with
        | none => (match uf tb a b 0 N m (v_locs 0 q.1) [] ul with
          | some u => x_os tb u.2.1 u.2.2.1 u.2.2.2 u.1.2.2.2.1 (fun k _ N2 m2 _ st2 => gd (Nat.beq k 0) (go N2 m2 (st2 ++ q.2))) u.1.2.2.1
          | none => ob (ih C (ct0 tu a b) 0 C.2.2.2.2.2.2 N m (v_locs 0 q.1) []) (fun outs => al2 (outs.map (fun o => gd (Nat.beq o.1 0) (go o.2.2.1 o.2.2.2.1 (o.2.2.2.2.2 ++ q.2))))))
        | some key => (match ca_fd key.1 key.2 m.2.2.2.2.2 with
          | some v => lf_nv N.1 v (fun v' => go N m ((0, v') :: q.2))
          | none => (match uf tb a b 0 N m (v_locs 0 q.1) [] ul with
            | some u => gd (isnil u.1.2.2.2.1) (x_os tb u.2.1 u.2.2.1 u.2.2.2 u.1.2.2.2.1 (fun k _ N2 m2 _ st2 => gd (Nat.beq k 0) (lc st2 (fun v r => gd (isnil r && Nat.beq v.1 0) (go N2 (m2.1, m2.2.1, m2.2.2.1, m2.2.2.2.1, m2.2.2.2.2.1, (key.1, key.2, v.2) :: m2.2.2.2.2.2) (v :: q.2))))) u.1.2.2.1)
            | none => none)))))))))
noncomputable def x_inv (tb : TB) (tu : TU) (ul : UL) (mt : Nat → Nat → Option MR) (ih : GO2) (M : MR) (lk : List Nat) (N : NS) (m : MM) (st : List V2) (go : NS → MM → List V2 → R2) : R2 := lc lk (fun x _ =>
    bif Nat.beq x 900 then none
    else bif Nat.beq x 901 then lc st (fun n st => lc st (fun dp st => lc st (fun d st => lc st (fun sq st => lc st (fun s r =>
      gd (Nat.beq n.1 0 && (Nat.beq dp.1 0 && (Nat.beq d.1 2 && (Nat.beq sq.1 0 && (Nat.beq s.1 2 && (Nat.ble 1 M.2.2.2.2.1.frames && (Nat.ble (v_wt r + 18) M.2.2.2.2.1.locals))))))) (ob (ax_nth tb.1 (cel s)) (fun q0 => ob (ax_nth tb.1 (cel d)) (fun q1 => gd (Nat.beq q0.1 q1.1 && (Nat.beq q0.1 100 || Nat.beq q0.1 101)) (cpq tb N m (cel s) (cel d) sq.2 dp.2 n.2 (fun m' => go N m' r))))))))))
    else bif Nat.beq x 902 then lc st (fun b st => lc st (fun a r => gd (Nat.beq a.1 0 && (Nat.beq b.1 0 && (Nat.ble 1 M.2.2.2.2.1.frames && Nat.ble (v_wt r + 13) M.2.2.2.2.1.locals))) (n_min N a.2 b.2 (fun N' v => go N' m ((0, v) :: r)))))
    else bif Nat.beq x 903 then lc lk (fun _ l1 => lc l1 (fun y _ => match mt 903 y with
      | some _ => none
      | none => lc st (fun b st => lc st (fun a r => gd (Nat.beq a.1 0 && (Nat.beq b.1 0 && (Nat.ble 1 M.2.2.2.2.1.frames && Nat.ble (v_wt r + 13) M.2.2.2.2.1.locals))) (n_max N a.2 b.2 (fun N' v => go N' m ((0, v) :: r)))))))
    else x_call tb tu ul mt ih M lk N m st go)
noncomputable def x_bin (t : Nat) (f : NS → LF → LF → (NS → LF → R2) → R2) (N : NS) (st : List V2) (kk : NS → List V2 → R2) : R2 := lc st (fun b st => lc st (fun a r => gd (Nat.beq a.1 t && Nat.beq b.1 t) (f N a.2 b.2 (fun N' v => kk N' ((t, v) :: r)))))
/-- 0 to 7 -/
noncomputable def x_b0 (op : Nat) (lk : List Nat) (N : NS) (lv : L2) (st : List V2) (kk : NS → L2 → List V2 → R2) : R2 :=
  bif Nat.ble op 3 then (bif Nat.beq op 0 then x_psh lk (fun v => kk N lv (v :: st)) else x_ld (bif Nat.beq op 1 then tgI else bif Nat.beq op 2 then tgL else tgR) N lv lk (fun v => kk N lv (v :: st)))
  else bif Nat.ble op 6 then lc lk (fun i _ => lc st (fun v r => gd (bif Nat.beq op 4 then tgI v.1 else bif Nat.beq op 5 then tgL v.1 else tgR v.1) (kk N ((i, v) :: flt (bif Nat.beq op 5 then vk2 i else vk1 i) lv) r)))
  else lc lk (fun i lk => lc lk (fun n _ => ob (lk2 lv i) (fun v => gd (Nat.beq v.1 0 && Nat.blt n 4294967296) (lf_nv N.1 v.2 (fun f => n_ib 0 N f (i32 n, []) (fun N' w => kk N' ((i, (0, w)) :: flt (vk1 i) lv) st))))))
/-- 26 to 52, 59 to 61 -/
noncomputable def x_b3 (op : Nat) (N : NS) (st : List V2) (kk : NS → List V2 → R2) : R2 :=
  bif Nat.ble op 34 then (bif Nat.beq op 29 then x_bin 0 n_a255 N st kk else x_bin 0 (n_ib (op - 26)) N st kk)
  else bif Nat.ble op 36 then x_bin 0 (fun N a b k => n_dr (op - 35) N a b k (n_f32 N)) N st kk
  else bif Nat.ble op 41 then x_bin 1 (n_lb (op - 37)) N st kk
  else bif Nat.beq op 42 then lc st (fun b st => lc st (fun a r => gd (Nat.beq a.1 1 && Nat.beq b.1 0) (n_f64 N (fun N' v => kk N' ((1, v) :: r)))))
  else bif Nat.beq op 43 then lc st (fun b st => lc st (fun a r => gd (Nat.beq a.1 1 && Nat.beq b.1 1) (br_lt N a.2 b.2 (fun N' => kk N' ((0, (-1, [])) :: r)) (fun N1 => br_lt N1 b.2 a.2 (fun N' => kk N' ((0, (1, [])) :: r)) (fun N' => kk N' ((0, (0, [])) :: r))))))
  else bif Nat.ble op 47 then lc st (fun a r => gd (Nat.beq a.1 0) (n_un (op - 44) N a.2 (fun N' v => kk N' ((0, v) :: r))))
  else bif Nat.beq op 48 then lc st (fun a r => gd (Nat.beq a.1 0) (kk N ((1, a.2) :: r)))
  else bif Nat.beq op 49 then lc st (fun a r => gd (Nat.beq a.1 1) (n_l2i N a.2 (fun N' v => kk N' ((0, v) :: r))))
  else bif Nat.ble op 52 then lc st (fun a r => bif Nat.beq op 50 then gd (!(Nat.beq a.1 1)) (kk N (a :: a :: r))
    else bif Nat.beq op 51 then (bif Nat.beq a.1 1 then kk N (a :: a :: r) else lc r (fun b r' => gd (!(Nat.beq b.1 1)) (kk N (a :: b :: a :: b :: r'))))
    else gd (!(Nat.beq a.1 1)) (kk N r))
  else bif Nat.beq op 59 then lc st (fun a r => gd (Nat.beq a.1 1) (kk N r))
  else x_bin 1 (fun N a b k => n_dr (op - 60) N a b k (n_f64 N)) N st kk
noncomputable def x_st (tb : TB) (tu : TU) (ul : UL) (sb : Nat → List Nat) (mt : Nat → Nat → Option MR) (ih : GO2) : GO2 := fun M ct pc cd N m lv st => lc cd (fun e tl => gd (Nat.beq e.1 pc)
    (bif Nat.ble e.2.1 7 then x_b0 e.2.1 e.2.2.2.1 N lv st (fun N' lv' st' => ih M ct (e.1 + e.2.2.1) tl N' m lv' st')
     else bif Nat.ble e.2.1 17 then (bif Nat.beq e.2.1 8 then x_getf tb e.2.2.2.1 N m st (fun N' m' st' => ih M ct (e.1 + e.2.2.1) tl N' m' lv st')
       else bif Nat.beq e.2.1 9 then x_putf tb e.2.2.2.1 N m st (fun m' st' => ih M ct (e.1 + e.2.2.1) tl N m' lv st')
       else bif Nat.ble e.2.1 13 then x_ald tb sb (e.2.1 + 90) N m st (fun N' m' st' => ih M ct (e.1 + e.2.2.1) tl N' m' lv st') (fun N' => ih M ct e.1 cd N' m lv st)
       else gd (Nat.ble e.2.1 16) (x_ast tb (e.2.1 + 86) N m st (fun m' st' => ih M ct (e.1 + e.2.2.1) tl N m' lv st')))
     else bif Nat.ble e.2.1 25 then (bif Nat.ble e.2.1 19 then lc e.2.2.2.1 (fun t lk => lc lk (fun c _ => gd (Nat.blt c 6)
           (bif Nat.beq e.2.1 18 then lc st (fun b st => lc st (fun a r => gd (Nat.beq a.1 0 && Nat.beq b.1 0) (bc_c c N a.2 b.2 (fun N' => ih M ct t (ax_jmp M.2.2.2.2.2.2 t) N' m lv r) (fun N' => ih M ct (e.1 + e.2.2.1) tl N' m lv r))))
            else lc st (fun a r => gd (Nat.beq a.1 0) (bc_c c N a.2 (0, []) (fun N' => ih M ct t (ax_jmp M.2.2.2.2.2.2 t) N' m lv r) (fun N' => ih M ct (e.1 + e.2.2.1) tl N' m lv r))))))
       else bif Nat.beq e.2.1 20 then lc e.2.2.2.1 (fun t _ => ih M ct t (ax_jmp M.2.2.2.2.2.2 t) N m lv st)
       else bif Nat.beq e.2.1 21 then x_inv tb tu ul mt ih M e.2.2.2.1 N m st (fun N' m' st' => ih M ct (e.1 + e.2.2.1) tl N' m' lv st')
       else gd (v_rok N M.2.2.2.1 e.2.1 st && Nat.beq e.2.2.1 1) (some [(0, e.1, N, m, lv, st)]))
     else bif Nat.ble e.2.1 52 then x_b3 e.2.1 N st (fun N' st' => ih M ct (e.1 + e.2.2.1) tl N' m lv st')
     else bif Nat.beq e.2.1 53 then lc st (fun a r => x_alen tb sb N m a (fun N' m' v => ih M ct (e.1 + e.2.2.1) tl N' m' lv (v :: r)))
     else bif Nat.beq e.2.1 56 then lc e.2.2.2.1 (fun x _ => bif Nat.beq x 0 then ih M ct (e.1 + e.2.2.1) tl N m lv ((0, (1, [])) :: st) else ih M ct (e.1 + e.2.2.1) tl N m lv ((7, (0, [])) :: st))
     else bif Nat.beq e.2.1 57 then lc st (fun v r => gd (Nat.beq v.1 0) (lc e.2.2.2.1 (fun d lk => lc lk (fun lo lk => lc lk (fun hi ks => gd (Nat.blt lo 4294967296 && Nat.blt hi 4294967296)
           (br_lt N v.2 (i32 lo, []) (fun N' => ih M ct d (ax_jmp M.2.2.2.2.2.2 d) N' m lv r) (fun N1 => br_lt N1 (i32 hi, []) v.2 (fun N' => ih M ct d (ax_jmp M.2.2.2.2.2.2 d) N' m lv r) (x_sw N v.2 (fun t N' => rfn tb N' m (some []) (fun N2 => ih M ct t (ax_jmp M.2.2.2.2.2.2 t) N2 m lv r)) d ks))))))))
     else bif Nat.beq e.2.1 58 then lc st (fun v r => gd (Nat.beq v.1 0) (lc e.2.2.2.1 (fun d ks => x_sw N v.2 (fun t N' => rfn tb N' m (some []) (fun N2 => ih M ct t (ax_jmp M.2.2.2.2.2.2 t) N2 m lv r)) d ks N)))
     else gd (Nat.ble 59 e.2.1 && (Nat.ble e.2.1 61 && Nat.beq e.2.2.1 1)) (x_b3 e.2.1 N st (fun N' st' => ih M ct (e.1 + e.2.2.1) tl N' m lv st'))))
noncomputable def x_sp (tb : TB) (tu : TU) (ul : UL) (sb : Nat → List Nat) (mt : Nat → Nat → Option MR) (ih : GO2) : GO2 := fun M ct pc cd N m lv st => match at2 ct.2.2.2 pc with
  | none => x_st tb tu ul sb mt ih M ct pc cd N m lv st
  | some i => (match lk2 lv i with
    | none => none
    | some v => gd (Nat.ble v.1 1) (lf_nv N.1 v.2 (fun f => bif cst f then x_st tb tu ul sb mt ih M ct pc cd N m lv st else lc f.2 (fun t _ => spl N t.1 (fun N' => x_st tb tu ul sb mt ih M ct pc cd N' m lv st)))))
noncomputable def hc_k (N : NS) (lv : L2) (u : Nat) : Bool := match u with
  | 0 => false
  | k + 1 => (match lk2 lv k with
    | none => false
    | some v => lf_nv N.1 v.2 (fun f => cst f))
noncomputable def x_bd (tb : TB) (tu : TU) (ul : UL) (sb : Nat → List Nat) (mt : Nat → Nat → Option MR) (ih : GO2) : GO2 := fun M ct pc cd N m lv st =>
  bif Nat.beq pc ct.2.1.1 || (Nat.blt pc ct.2.1.2.1 || Nat.blt ct.2.1.2.2 pc) then some [(1, pc, N, m, lv, st)]
  else (match at2 ct.2.2.1 pc with
    | none => x_sp tb tu ul sb mt ih M ct pc cd N m lv st
    | some u => bif hc_k N lv u then x_sp tb tu ul sb mt ih M ct pc cd N m lv st
      else (match uf tb ct.1.1 ct.1.2 (pc + 100000) N m lv st ul with
        | none => x_sp tb tu ul sb mt ih M ct pc cd N m lv st
        | some q => x_os tb q.2.1 q.2.2.1 q.2.2.2 q.1.2.2.2.1 (fun k pc' N2 m2 lv2 st2 => bif Nat.beq k 0 then some [(0, pc', N2, m2, lv2, st2)] else ih M ct pc' (ax_jmp M.2.2.2.2.2.2 pc') N2 m2 lv2 st2) q.1.2.2.1))
noncomputable def x_run (tb : TB) (tu : TU) (ul : UL) (sb : Nat → List Nat) (mt : Nat → Nat → Option MR) (n : Nat) : GO2 := Nat.rec (motive := fun _ => GO2) (fun _ _ _ _ _ _ _ _ => none) (fun _ ih => x_bd tb tu ul sb mt ih) n
