/-! steps on the heap: rows of 16 cells -/
noncomputable def ax_hn (h : AH) (k : Nat) : Option AC := ob (ax_nth h.2 (k / 16)) (fun r => ax_nth r (k % 16))
noncomputable def ax_hs {β : Type} (h : AH) (k : Nat) (c : AC) (kk : AH → Option β) : Option β := ob (ax_nth h.2 (k / 16)) (fun r => ax_set r (k % 16) c (fun r' => ax_set h.2 (k / 16) r' (fun t => kk (h.1, t))))
noncomputable def ax_ha {β : Type} (h : AH) (c : AC) (kk : AH → Option β) : Option β :=
  bif Nat.beq (h.1 % 16) 0 then gd (Nat.beq h.2.length (h.1 / 16)) (ax_fc (h.1 + 1) (fun n => kk (n, h.2 ++ [[c]])))
  else ob (ax_nth h.2 (h.1 / 16)) (fun r => gd (Nat.beq r.length (h.1 % 16)) (ax_set h.2 (h.1 / 16) (r ++ [c]) (fun t => ax_fc (h.1 + 1) (fun n => kk (n, t)))))
/-- the field k of a cell of kind ci; of an old String (kind 200) its bytes (0) and its coder (1) -/
noncomputable def ax_getf {β : Type} (lk : List Nat) (h : AH) (st : List AV) (kk : List AV → Option β) : Option β := lc lk (fun ci lk => lc lk (fun k _ => lc st (fun a r =>
    bif Nat.beq a.1 2 then ob (ax_hn h a.2) (fun c => gd (Nat.beq c.1 ci && Nat.blt ci 100) (ob (ax_el c.2.2 k) (fun v => kk (v :: r))))
    else gd (Nat.beq a.1 6 && (Nat.beq ci 200 && (Nat.beq a.2 1 || Nat.beq a.2 3))) (bif Nat.beq k 0 then kk ((6, a.2 + 1) :: r) else kk ((0, 0) :: r)))))
/-- may v be put into a field of type code tc (0 int, 1 boolean, 2 long, 3 a reference) -/
def ax_fit (tc : Nat) (v : AV) : Bool := match tc with
  | 0 => ax_tI v
  | 1 => Nat.beq v.1 0 && Nat.ble v.2 1
  | 2 => ax_tL v
  | 3 => Nat.beq v.1 2
  | _ => false
noncomputable def ax_putf {β : Type} (lk : List Nat) (h : AH) (st : List AV) (kk : AH → List AV → Option β) : Option β := lc lk (fun ci lk => lc lk (fun k lk => lc lk (fun tc _ => lc st (fun v st => lc st (fun a r =>
    gd (Nat.beq a.1 2 && ax_fit tc v) (ob (ax_hn h a.2) (fun c => gd (Nat.beq c.1 ci && (Nat.blt ci 100 && Nat.blt k c.2.1)) (ax_st c.2.2 k v (fun cs => ax_hs h a.2 (c.1, c.2.1, cs) (fun h' => kk h' r))))))))))
/-- array loads; 103 stands for the three kinds of arrays of references -/
def ax_kd (kd ck : Nat) : Bool := bif Nat.beq kd 103 then Nat.ble 103 ck && Nat.ble ck 105 else Nat.beq ck kd
noncomputable def ax_ald {β : Type} (kd : Nat) (h : AH) (i a : AV) (r : List AV) (kk : List AV → Option β) : Option β :=
  ob (ax_hn h a.2) (fun c => gd (ax_kd kd c.1 && (Nat.blt i.2 c.2.1 && Nat.blt i.2 2147483648)) (ob (ax_el c.2.2 i.2) (fun v => kk (v :: r))))
/-- of the law's script, when it has six ints (0); of the bytes of an old String (2, 4) -/
noncomputable def ax_old {β : Type} (sb : Nat → List Nat) (kd : Nat) (σ : AS) (i a : AV) (r : List AV) (kk : List AV → Option β) : Option β :=
  bif Nat.beq kd 100 then gd (Nat.beq a.2 0 && Nat.blt i.2 6) (ob (ax_nth σ 6) (fun q => gd (Nat.beq q.1 9223372036854775814) (kk ((4, i.2) :: r))))
  else gd (Nat.beq kd 102 && (Nat.beq a.2 2 || Nat.beq a.2 4)) (ob (ax_nth (sb a.2) i.2) (fun n => kk ((0, n) :: r)))
/-- array stores; bytes (102): a number from -128 to 127 alone; references: a cell of the kind that fits -/
noncomputable def ax_sok (σ : AS) (h : AH) (kd ck : Nat) (v : AV) : Bool :=
  bif Nat.beq kd 100 then Nat.beq ck 100 && ax_tI v
  else bif Nat.beq kd 101 then Nat.beq ck 101 && ax_tL v
  else bif Nat.beq kd 102 then Nat.beq ck 102 && (match ax_rI σ v with
    | some q => Nat.ble 9223372036854775680 q.1 && Nat.ble q.2 9223372036854775935
    | none => false)
  else Nat.beq v.1 2 && (match ax_hn h v.2 with
    | some c => (Nat.beq ck 103 && Nat.beq c.1 10) || ((Nat.beq ck 104 && Nat.beq c.1 1) || (Nat.beq ck 105 && Nat.beq c.1 7))
    | none => false)
noncomputable def ax_ast {β : Type} (kd : Nat) (σ : AS) (h : AH) (v i a : AV) (kk : AH → Option β) : Option β :=
  gd (Nat.beq a.1 2) (ob (ax_hn h a.2) (fun c => gd (ax_sok σ h kd c.1 v && (Nat.blt i.2 c.2.1 && Nat.blt i.2 2147483648)) (ax_st c.2.2 i.2 v (fun cs => ax_hs h a.2 (c.1, c.2.1, cs) kk))))
noncomputable def ax_alen {β : Type} (sb : Nat → List Nat) (h : AH) (a : AV) (kk : AV → Option β) : Option β :=
  bif Nat.beq a.1 2 then ob (ax_hn h a.2) (fun c => gd (Nat.ble 100 c.1 && Nat.ble c.1 105) (kk (0, c.2.1)))
  else gd (Nat.beq a.1 6) (bif Nat.beq a.2 0 then kk (4, 6) else gd (Nat.beq a.2 2 || Nat.beq a.2 4) (kk (0, (sb a.2).length)))
noncomputable def ax_new {β : Type} (R : Room) (lk : List Nat) (h : AH) (nc ns : Nat) (kk : AH → Nat → Nat → Option β) : Option β := lc lk (fun ci lk => lc lk (fun n lk =>
    gd (Nat.ble (nc + 1) R.cells && Nat.ble (ns + n) R.slots) (ax_ha h (ci, n, [(lk.drop 6).map (fun t => (t, 0))]) (fun h' => ax_fc (nc + 1) (fun nc' => ax_fc (ns + n) (fun ns' => kk h' nc' ns'))))))
noncomputable def ax_newa {β : Type} (R : Room) (lk : List Nat) (h : AH) (nc ns : Nat) (a : AV) (kk : AH → Nat → Nat → Option β) : Option β := lc lk (fun kd lk => lc lk (fun t _ =>
    gd (Nat.beq a.1 0 && (Nat.ble a.2 65536 && (Nat.ble (nc + 1) R.cells && Nat.ble (ns + a.2) R.slots))) (ax_ha h (kd, a.2, ax_rep a.2 (t, 0)) (fun h' => ax_fc (nc + 1) (fun nc' => ax_fc (ns + a.2) (fun ns' => kk h' nc' ns'))))))
/-! calls -/
def ax_args (n : Nat) (st acc : List AV) : Option (List AV × List AV) := match n with
  | 0 => some (acc, st)
  | m + 1 => match st with
    | v :: r => ax_args m r (v :: acc)
    | [] => none
def ax_locs (i : Nat) (l : List AV) : AL := match l with
  | [] => []
  | v :: r => (i, v) :: ax_locs (bif ax_c2 v then i + 2 else i + 1) r
def ax_wt (l : List AV) : Nat := match l with
  | [] => 0
  | v :: r => (bif ax_c2 v then 2 else 1) + ax_wt r
def ax_hd (as : List AV) : Bool := match as with
  | a :: _ => ax_tR a
  | [] => false
noncomputable def ax_rcv (h : AH) (ci : Nat) (as : List AV) : Bool := match as with
  | a :: _ => bif Nat.beq a.1 2 then (match ax_hn h a.2 with
      | some c => Nat.beq c.1 ci && Nat.blt ci 100
      | none => false) else Nat.beq a.1 6 && (Nat.beq ci 200 && (Nat.beq a.2 1 || Nat.beq a.2 3))
  | [] => false
/-- what may be given back: 22 an int, 23 a long, 24 a cell, 25 nothing -/
def ax_rok (ret : Option FieldType) (op : Nat) (st : List AV) : Bool := match op with
  | 22 => (match st with
    | [v] => (match ret with
      | some .int => ax_tI v
      | some .boolean => Nat.beq v.1 0 && Nat.ble v.2 1
      | some .byte => Nat.beq v.1 0 && Nat.ble v.2 1
      | some .char => Nat.beq v.1 0 && Nat.ble v.2 65535
      | _ => false)
    | _ => false)
  | 23 => (match st with
    | [v] => (match ret with
      | some .long => ax_tL v
      | _ => false)
    | _ => false)
  | 24 => (match st with
    | [v] => (match ret with
      | some (.object _) => Nat.beq v.1 2
      | _ => false)
    | _ => false)
  | 25 => (match st with
    | [] => (match ret with
      | none => true
      | _ => false)
    | _ => false)
  | _ => false
/-- the whole of one array (kinds 100, 101) into another of its length -/
noncomputable def ax_copy {β : Type} (σ : AS) (h : AH) (st : List AV) (kk : AH → List AV → Option β) : Option β := lc st (fun n st => lc st (fun dp st => lc st (fun d st => lc st (fun sp st => lc st (fun s r =>
    gd (Nat.beq d.1 2 && (Nat.beq s.1 2 && (Nat.beq (ax_nv σ n).1 0 && (Nat.beq (ax_nv σ dp).1 0 && (Nat.beq (ax_nv σ sp).1 0 && (Nat.beq (ax_nv σ dp).2 0 && Nat.beq (ax_nv σ sp).2 0)))))) (ob (ax_hn h d.2) (fun cd => ob (ax_hn h s.2) (fun cs => gd (Nat.beq cd.1 cs.1 && ((Nat.beq cs.1 100 || Nat.beq cs.1 101) && (Nat.beq cd.2.1 cs.2.1 && (Nat.beq cs.2.1 (ax_nv σ n).2 && Nat.ble cs.2.1 65536)))) (ax_hs h d.2 (cd.1, cd.2.1, cs.2.2) (fun h' => kk h' r))))))))))
/-- an unknown place: one after another -/
noncomputable def ax_spl (σ : AS) (i : AV) (go : AS → RS) : RS := gd (Nat.beq i.1 4) (ob (ax_nth σ i.2) (fun q => gd (Nat.ble q.2 (q.1 + 20) && Nat.blt q.1 q.2) (ax_all ((List.range (q.2 + 1 - q.1)).map (fun d => ax_set σ i.2 (q.1 + d, q.1 + d) go)))))
/-- an unknown long that is compared: less, equal, more -/
noncomputable def ax_spc (σ : AS) (a : AV) (ra rb : Nat × Nat) (go : AS → RS) : RS := gd (Nat.beq a.1 5 && Nat.beq rb.1 rb.2)
   (ax_two (bif Nat.blt ra.1 rb.1 then ax_set σ a.2 (ra.1, min ra.2 (rb.1 - 1)) go else some []) (ax_two (bif Nat.ble ra.1 rb.1 && Nat.ble rb.1 ra.2 then ax_set σ a.2 (rb.1, rb.1) go else some []) (bif Nat.blt rb.1 ra.2 then ax_set σ a.2 (max ra.1 (rb.1 + 1), ra.2) go else some [])))
abbrev GO : Type := MR → Nat → Nat → List ME → AS → AH → Nat → Nat → AL → List AV → RS
noncomputable def ax_call (mt : Nat → Nat → Option MR) (ih : GO) (M : MR) (lk : List Nat) (σ : AS) (h : AH) (nc ns : Nat) (st : List AV) (go : AO → List AV → Nat → Nat → RS) : RS := lc lk (fun a lk => lc lk (fun b lk => lc lk (fun kc lk => lc lk (fun ci _ => ob (mt a b) (fun C => ob (ax_args C.2.2.2.2.2.1 st []) (fun q =>
    gd (Nat.blt C.2.2.2.2.1.frames M.2.2.2.2.1.frames && (Nat.ble (8 + (C.2.2.1 + 11) + C.2.2.2.2.1.locals) M.2.2.2.2.1.locals && (Nat.ble (ax_wt q.2) 8 && (Nat.ble (nc + C.2.2.2.2.1.cells) M.2.2.2.2.1.cells && (Nat.ble (ns + C.2.2.2.2.1.slots) M.2.2.2.2.1.slots && (Nat.ble (ax_wt q.1) C.2.2.1 && ((Nat.beq kc 2 || (Nat.beq kc 1 && ax_hd q.1)) || (Nat.beq kc 0 && ax_rcv h ci q.1))))))))
      (ob (ih C 999999 0 C.2.2.2.2.2.2 σ h 0 0 (ax_locs 0 q.1) []) (fun outs => gd (outs.all (fun o => Nat.ble o.2.2.2.2.2.1 25)) (ax_all (outs.map (fun o => go o q.2 (nc + C.2.2.2.2.1.cells) (ns + C.2.2.2.2.1.slots))))))))))))
/-- the lesser of two ints -/
noncomputable def ax_mn {β : Type} (σ : AS) (a b : AV) (k : AS → AV → Option β) : Option β := ob (ax_rI σ a) (fun ra => ob (ax_rI σ b) (fun rb => bif Nat.beq ra.1 ra.2 && Nat.beq rb.1 rb.2 then (bif Nat.blt rb.1 ra.1 then k σ b else k σ a) else ax_nw 4 σ (min ra.1 rb.1, min ra.2 rb.2) k))
noncomputable def ax_inv (mt : Nat → Nat → Option MR) (ih : GO) (M : MR) (cut pc : Nat) (tl : List ME) (lk : List Nat) (σ : AS) (h : AH) (nc ns : Nat) (lv : AL) (st : List AV) : RS := lc lk (fun x _ =>
    bif Nat.beq x 900 then lc st (fun a r => gd (Nat.beq a.1 2 && (Nat.ble 1 M.2.2.2.2.1.frames && Nat.ble (ax_wt r + 12) M.2.2.2.2.1.locals)) (ih M cut pc tl σ h nc ns lv r))
    else bif Nat.beq x 901 then gd (Nat.ble 1 M.2.2.2.2.1.frames && (Nat.ble 60 M.2.2.2.2.1.locals && Nat.ble (ax_wt st) 20)) (ax_copy σ h st (fun h' r => ih M cut pc tl σ h' nc ns lv r))
    else bif Nat.beq x 902 then lc st (fun b st => lc st (fun a r => gd (Nat.ble 1 M.2.2.2.2.1.frames && (Nat.ble (ax_wt r + 13) M.2.2.2.2.1.locals && (Nat.ble nc M.2.2.2.2.1.cells && Nat.ble ns M.2.2.2.2.1.slots))) (ax_mn σ (ax_nv σ a) (ax_nv σ b) (fun σ' v => ih M cut pc tl σ' h nc ns lv (v :: r)))))
    else ax_call mt ih M lk σ h nc ns st (fun o rest nc' ns' => ih M cut pc tl o.1 o.2.1 nc' ns' lv (o.2.2.2.2.2.2.2 ++ rest)))
/-! one step, by the number of its operation -/
noncomputable def ax_load (ok : AV → Bool) (ih : GO) (M : MR) (cut pc : Nat) (tl : List ME) (lk : List Nat) (σ : AS) (h : AH) (nc ns : Nat) (lv : AL) (st : List AV) : RS := lc lk (fun i _ => ob (ax_lk lv i) (fun v => gd (ok v) (ih M cut pc tl σ h nc ns lv (v :: st))))
noncomputable def ax_sto (ok : AV → Bool) (kp : Nat → Nat × AV → Bool) (ih : GO) (M : MR) (cut pc : Nat) (tl : List ME) (lk : List Nat) (σ : AS) (h : AH) (nc ns : Nat) (lv : AL) (st : List AV) : RS := lc lk (fun i _ => lc st (fun v r => gd (ok v) (ax_flt (kp i) lv (fun lv' => ih M cut pc tl σ h nc ns ((i, v) :: lv') r))))
/-- 0 a number, 1 iload, 2 lload, 3 aload, 4 istore, 5 lstore, 6 astore, 7 iinc -/
noncomputable def ax_b0 (op : Nat) (ih : GO) (M : MR) (cut pc : Nat) (tl : List ME) (lk : List Nat) (σ : AS) (h : AH) (nc ns : Nat) (lv : AL) (st : List AV) : RS :=
  bif Nat.ble op 3 then (bif Nat.ble op 1 then (bif Nat.beq op 0 then lc lk (fun t lk => lc lk (fun n _ => ih M cut pc tl σ h nc ns lv ((t, n) :: st)))
      else ax_load ax_tI ih M cut pc tl lk σ h nc ns lv st)
    else (bif Nat.beq op 2 then ax_load ax_tL ih M cut pc tl lk σ h nc ns lv st else ax_load ax_tR ih M cut pc tl lk σ h nc ns lv st))
  else (bif Nat.ble op 5 then (bif Nat.beq op 4 then ax_sto ax_tI ax_k1 ih M cut pc tl lk σ h nc ns lv st else ax_sto ax_tL ax_k2 ih M cut pc tl lk σ h nc ns lv st)
    else (bif Nat.beq op 6 then ax_sto ax_tR ax_k1 ih M cut pc tl lk σ h nc ns lv st
      else lc lk (fun i lk => lc lk (fun n _ => ob (ax_lk lv i) (fun v => ax_ib 0 σ (ax_nv σ v) (0, n) (fun σ' w => ax_flt (ax_k1 i) lv (fun lv' => ih M cut pc tl σ' h nc ns ((i, w) :: lv') st)))))))
/-- array loads (10 to 13) and stores (14 to 17) -/
noncomputable def ax_b1a (kd : Nat) (sb : Nat → List Nat) (ih : GO) (M : MR) (cut pc0 pc : Nat) (cd tl : List ME) (σ : AS) (h : AH) (nc ns : Nat) (lv : AL) (st : List AV) : RS := lc st (fun i st' => lc st' (fun a r =>
    bif Nat.beq (ax_nv σ i).1 0 then (bif Nat.beq a.1 2 then ax_ald kd h (ax_nv σ i) a r (fun s' => ih M cut pc tl σ h nc ns lv s') else gd (Nat.beq a.1 6) (ax_old sb kd σ (ax_nv σ i) a r (fun s' => ih M cut pc tl σ h nc ns lv s')))
    else ax_spl σ i (fun σ' => ih M cut pc0 cd σ' h nc ns lv st)))
noncomputable def ax_b1s (kd : Nat) (ih : GO) (M : MR) (cut pc0 pc : Nat) (cd tl : List ME) (σ : AS) (h : AH) (nc ns : Nat) (lv : AL) (st : List AV) : RS := lc st (fun v st' => lc st' (fun i st'' => lc st'' (fun a r =>
    bif Nat.beq (ax_nv σ i).1 0 then ax_ast kd σ h v (ax_nv σ i) a (fun h' => ih M cut pc tl σ h' nc ns lv r)
    else ax_spl σ i (fun σ' => ih M cut pc0 cd σ' h nc ns lv st))))
/-- 8 getfield, 9 putfield, 10 to 17 arrays -/
noncomputable def ax_b1 (op : Nat) (sb : Nat → List Nat) (ih : GO) (M : MR) (cut pc0 pc : Nat) (cd tl : List ME) (lk : List Nat) (σ : AS) (h : AH) (nc ns : Nat) (lv : AL) (st : List AV) : RS :=
  bif Nat.ble op 9 then (bif Nat.beq op 8 then ax_getf lk h st (fun s' => ih M cut pc tl σ h nc ns lv s') else ax_putf lk h st (fun h' r => ih M cut pc tl σ h' nc ns lv r))
  else bif Nat.ble op 13 then ax_b1a (op + 90) sb ih M cut pc0 pc cd tl σ h nc ns lv st
  else ax_b1s (op + 86) ih M cut pc0 pc cd tl σ h nc ns lv st
/-- 18 if_icmp, 19 ifCond, 20 goto, 21 calls, 22 to 25 returns -/
noncomputable def ax_b2 (op : Nat) (mt : Nat → Nat → Option MR) (ih : GO) (M : MR) (cut pc0 pc : Nat) (tl : List ME) (lk : List Nat) (σ : AS) (h : AH) (nc ns : Nat) (lv : AL) (st : List AV) : RS :=
  bif Nat.ble op 19 then lc lk (fun t lk => lc lk (fun c _ =>
      bif Nat.beq op 18 then lc st (fun b st => lc st (fun a r => ax_cnd c σ a b (fun σ' => ih M cut t (ax_jmp M.2.2.2.2.2.2 t) σ' h nc ns lv r) (fun σ' => ih M cut pc tl σ' h nc ns lv r)))
      else lc st (fun a r => ax_cnd c σ a (0, 0) (fun σ' => ih M cut t (ax_jmp M.2.2.2.2.2.2 t) σ' h nc ns lv r) (fun σ' => ih M cut pc tl σ' h nc ns lv r))))
  else bif Nat.ble op 21 then (bif Nat.beq op 20 then lc lk (fun t _ => ih M cut t (ax_jmp M.2.2.2.2.2.2 t) σ h nc ns lv st) else ax_inv mt ih M cut pc tl lk σ h nc ns lv st)
  else gd (ax_rok M.2.2.2.1 op st && (Nat.ble nc M.2.2.2.2.1.cells && Nat.ble ns M.2.2.2.2.1.slots)) (some [(σ, h, nc, ns, pc0, op, lv, st)])
noncomputable def ax_bin (f : AS → AV → AV → (AS → AV → RS) → RS) (ih : GO) (M : MR) (cut pc : Nat) (tl : List ME) (σ : AS) (h : AH) (nc ns : Nat) (lv : AL) (st : List AV) : RS := lc st (fun b st => lc st (fun a r => f σ (ax_nv σ a) (ax_nv σ b) (fun σ' v => ih M cut pc tl σ' h nc ns lv (v :: r))))
noncomputable def ax_one (f : AS → AV → (AS → AV → RS) → RS) (ih : GO) (M : MR) (cut pc : Nat) (tl : List ME) (σ : AS) (h : AH) (nc ns : Nat) (lv : AL) (st : List AV) : RS := lc st (fun a r => f σ (ax_nv σ a) (fun σ' v => ih M cut pc tl σ' h nc ns lv (v :: r)))
/-- 26 to 34 ints by two, 35 idiv, 36 irem, 37 to 41 longs by two, 42 lshl, 43 lcmp -/
noncomputable def ax_b3 (op : Nat) (ih : GO) (M : MR) (cut pc0 pc : Nat) (cd tl : List ME) (σ : AS) (h : AH) (nc ns : Nat) (lv : AL) (st : List AV) : RS :=
  bif Nat.ble op 34 then ax_bin (ax_ib (op - 26)) ih M cut pc tl σ h nc ns lv st
  else bif Nat.ble op 36 then ax_bin (ax_id (op - 35)) ih M cut pc tl σ h nc ns lv st
  else bif Nat.ble op 41 then ax_bin (ax_lb (op - 37)) ih M cut pc tl σ h nc ns lv st
  else bif Nat.beq op 42 then ax_bin ax_lsh ih M cut pc tl σ h nc ns lv st
  else lc st (fun b st' => lc st' (fun a r => ob (ax_rL σ a) (fun ra => ob (ax_rL σ b) (fun rb => ax_lcm ra rb (fun n => ih M cut pc tl σ h nc ns lv ((0, n) :: r)) (ax_spc σ a ra rb (fun σ' => ih M cut pc0 cd σ' h nc ns lv st))))))
/-- 44 to 47 ints by one, 48 i2l, 49 l2i, 50 dup, 51 dup2, 52 pop -/
noncomputable def ax_b4 (op : Nat) (ih : GO) (M : MR) (cut pc : Nat) (tl : List ME) (σ : AS) (h : AH) (nc ns : Nat) (lv : AL) (st : List AV) : RS :=
  bif Nat.ble op 47 then ax_one (ax_un (op - 44)) ih M cut pc tl σ h nc ns lv st
  else bif Nat.beq op 48 then ax_one ax_i2l ih M cut pc tl σ h nc ns lv st
  else bif Nat.beq op 49 then ax_one ax_l2i ih M cut pc tl σ h nc ns lv st
  else lc st (fun a r => bif Nat.beq op 50 then gd (!ax_c2 a) (ih M cut pc tl σ h nc ns lv (a :: a :: r))
    else bif Nat.beq op 51 then (bif ax_c2 a then ih M cut pc tl σ h nc ns lv (a :: a :: r) else lc r (fun b r' => gd (!ax_c2 b) (ih M cut pc tl σ h nc ns lv (a :: b :: a :: b :: r'))))
    else gd (!ax_c2 a) (ih M cut pc tl σ h nc ns lv r))
/-- 53 arraylength, 54 new, 55 newarray, anewarray, 56 getstatic, 57 tableswitch, 58 lookupswitch -/
noncomputable def ax_b5 (op : Nat) (sb : Nat → List Nat) (ih : GO) (M : MR) (cut pc : Nat) (tl : List ME) (lk : List Nat) (σ : AS) (h : AH) (nc ns : Nat) (lv : AL) (st : List AV) : RS :=
  bif Nat.ble op 54 then (bif Nat.beq op 53 then lc st (fun a r => ax_alen sb h a (fun v => ih M cut pc tl σ h nc ns lv (v :: r)))
    else ax_new M.2.2.2.2.1 lk h nc ns (fun h' nc' ns' => ih M cut pc tl σ h' nc' ns' lv ((2, h.1) :: st)))
  else bif Nat.ble op 56 then (bif Nat.beq op 55 then lc st (fun a r => ax_newa M.2.2.2.2.1 lk h nc ns (ax_nv σ a) (fun h' nc' ns' => ih M cut pc tl σ h' nc' ns' lv ((2, h.1) :: r)))
    else lc lk (fun x _ => bif Nat.beq x 0 then ih M cut pc tl σ h nc ns lv ((0, 1) :: st) else ih M cut pc tl σ h nc ns lv ((7, 0) :: st)))
  else lc st (fun v r => lc lk (fun d lk => bif Nat.beq op 57 then lc lk (fun lo lk => lc lk (fun hi ks =>
      ax_br (ax_lt σ v (0, lo)) (fun σ' => ih M cut d (ax_jmp M.2.2.2.2.2.2 d) σ' h nc ns lv r) (fun σ1 => ax_br (ax_lt σ1 (0, hi) v) (fun σ' => ih M cut d (ax_jmp M.2.2.2.2.2.2 d) σ' h nc ns lv r) (ax_sw (fun t σ' => ih M cut t (ax_jmp M.2.2.2.2.2.2 t) σ' h nc ns lv r) v d ks))))
      else lc lk (fun _ _ => ax_sw (fun t σ' => ih M cut t (ax_jmp M.2.2.2.2.2.2 t) σ' h nc ns lv r) v d lk σ)))
noncomputable def ax_bd (sb : Nat → List Nat) (mt : Nat → Nat → Option MR) (ih : GO) : GO := fun M cut pc cd σ h nc ns lv st =>
  bif Nat.ble cut pc then some [(σ, h, nc, ns, pc, 99, lv, st)] else lc cd (fun e tl => gd (Nat.beq e.1 pc)
    (bif Nat.ble e.2.1 17 then (bif Nat.ble e.2.1 7 then ax_b0 e.2.1 ih M cut (e.1 + e.2.2.1) tl e.2.2.2.1 σ h nc ns lv st else ax_b1 e.2.1 sb ih M cut e.1 (e.1 + e.2.2.1) cd tl e.2.2.2.1 σ h nc ns lv st)
     else bif Nat.ble e.2.1 25 then ax_b2 e.2.1 mt ih M cut e.1 (e.1 + e.2.2.1) tl e.2.2.2.1 σ h nc ns lv st
     else bif Nat.ble e.2.1 43 then ax_b3 e.2.1 ih M cut e.1 (e.1 + e.2.2.1) cd tl σ h nc ns lv st
     else bif Nat.ble e.2.1 52 then ax_b4 e.2.1 ih M cut (e.1 + e.2.2.1) tl σ h nc ns lv st
     else gd (Nat.ble e.2.1 58) (ax_b5 e.2.1 sb ih M cut (e.1 + e.2.2.1) tl e.2.2.2.1 σ h nc ns lv st)))
noncomputable def ax_run (sb : Nat → List Nat) (mt : Nat → Nat → Option MR) (n : Nat) : GO := Nat.rec (motive := fun _ => GO) (fun _ _ _ _ _ _ _ _ _ _ => none) (fun _ ih => ax_bd sb mt ih) n
/-- the number of an operation -/
def ax_op (ins : Instr) : Nat := match ins with
  | .iconst _ => 0
  | .bipush _ => 0
  | .sipush _ => 0
  | .lconst _ => 0
  | .ldc _ => 0
  | .ldc_w _ => 0
  | .ldc2_w _ => 0
  | .iload _ => 1
  | .iload_n _ => 1
  | .lload _ => 2
  | .lload_n _ => 2
  | .aload _ => 3
  | .aload_n _ => 3
  | .istore _ => 4
  | .istore_n _ => 4
  | .lstore _ => 5
  | .lstore_n _ => 5
  | .astore _ => 6
  | .astore_n _ => 6
  | .iinc _ _ => 7
  | .getfield _ => 8
  | .putfield _ => 9
  | .iaload => 10
  | .laload => 11
  | .baload => 12
  | .aaload => 13
  | .iastore => 14
  | .lastore => 15
  | .bastore => 16
  | .aastore => 17
  | .if_icmp _ _ => 18
  | .ifCond _ _ => 19
  | .goto _ => 20
  | .invokevirtual _ => 21
  | .invokespecial _ => 21
  | .invokestatic _ => 21
  | .ireturn => 22
  | .lreturn => 23
  | .areturn => 24
  | .return_ => 25
  | .iadd => 26
  | .isub => 27
  | .imul => 28
  | .iand => 29
  | .ior => 30
  | .ixor => 31
  | .ishl => 32
  | .ishr => 33
  | .iushr => 34
  | .idiv => 35
  | .irem => 36
  | .ladd => 37
  | .lsub => 38
  | .lmul => 39
  | .land => 40
  | .lor => 41
  | .lshl => 42
  | .lcmp => 43
  | .i2b => 44
  | .i2s => 45
  | .i2c => 46
  | .ineg => 47
  | .i2l => 48
  | .l2i => 49
  | .dup => 50
  | .dup2 => 51
  | .pop => 52
  | .arraylength => 53
  | .new _ => 54
  | .newarray _ => 55
  | .anewarray _ => 55
  | .getstatic _ => 56
  | .tableswitch _ _ _ _ => 57
  | .lookupswitch _ _ => 58
  | .pop2 => 59
  | .ldiv => 60
  | .lrem => 61
  | _ => 98
