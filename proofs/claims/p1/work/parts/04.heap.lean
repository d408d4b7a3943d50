/-! steps on the heap -/
def ax_tb (x : Nat) : Nat := match x with
  | 1 => 2
  | _ => 4
/-- the field k of a cell of kind ci; of an old String (kind 200) its bytes (0) and its coder (1) -/
noncomputable def ax_getf (lk : List Nat) (h : AH) (st : List AV) : Option (List AV) := match lk with
  | ci :: k :: _ => match st with
    | a :: r => bif Nat.beq a.1 2 then (match ax_nth h a.2 with
        | some c => bif Nat.beq c.1 ci && Nat.blt ci 100 then (match ax_el c.2.2 k with
          | some v => some (v :: r)
          | none => none) else none
        | none => none)
      else bif Nat.beq a.1 6 && (Nat.beq ci 200 && (Nat.beq a.2 1 || Nat.beq a.2 3)) then (bif Nat.beq k 0 then some ((6, a.2 + 1) :: r) else some ((0, 0) :: r)) else none
    | [] => none
  | _ => none
/-- may v be put into a field of type code tc (0 int, 1 boolean, 2 long, 3 a reference) -/
def ax_fit (tc : Nat) (v : AV) : Bool := match tc with
  | 0 => Nat.beq (ax_tc v) 0
  | 1 => Nat.beq v.1 0 && Nat.ble v.2 1
  | 2 => Nat.beq (ax_tc v) 1
  | 3 => Nat.beq v.1 2
  | _ => false
noncomputable def ax_putf {β : Type} (lk : List Nat) (h : AH) (st : List AV) (kk : AH → List AV → Option β) : Option β := match lk with
  | ci :: k :: tc :: _ => match st with
    | v :: a :: r => bif Nat.beq a.1 2 && ax_fit tc v then (match ax_nth h a.2 with
        | some c => bif Nat.beq c.1 ci && Nat.blt ci 100 && Nat.blt k c.2.1 then ax_st c.2.2 k v (fun cs => ax_set h a.2 (c.1, c.2.1, cs) (fun h' => kk h' r)) else none
        | none => none) else none
    | _ => none
  | _ => none
/-- array loads of arrays of one kind -/
noncomputable def ax_ald (kd : Nat) (σ : AS) (h : AH) (st : List AV) : Option (List AV) := match st with
  | i :: a :: r => bif Nat.beq (ax_nv σ i).1 0 && Nat.beq a.1 2 then (match ax_nth h a.2 with
      | some c => bif (Nat.beq c.1 kd || (Nat.beq kd 103 && (Nat.beq c.1 104 || Nat.beq c.1 105))) && Nat.blt (ax_nv σ i).2 c.2.1 && Nat.blt (ax_nv σ i).2 2147483648 then (match ax_el c.2.2 (ax_nv σ i).2 with
        | some v => some (v :: r)
        | none => none) else none
      | none => none) else none
  | _ => none
/-- of the law's script: when it has six ints -/
noncomputable def ax_scr (σ : AS) (st : List AV) : Option (List AV) := match st with
  | i :: a :: r => bif Nat.beq (ax_nv σ i).1 0 && (Nat.beq a.1 6 && (Nat.beq a.2 0 && Nat.blt (ax_nv σ i).2 6)) then (match ax_nth σ 6 with
      | some q => bif Nat.beq q.1 9223372036854775814 then some ((4, (ax_nv σ i).2) :: r) else none
      | none => none) else none
  | _ => none
/-- of the bytes of an old String -/
noncomputable def ax_sby (sb : Nat → List Nat) (σ : AS) (st : List AV) : Option (List AV) := match st with
  | i :: a :: r => bif Nat.beq (ax_nv σ i).1 0 && (Nat.beq a.1 6 && (Nat.beq a.2 2 || Nat.beq a.2 4)) then (match ax_nth (sb a.2) (ax_nv σ i).2 with
      | some n => some ((0, n) :: r)
      | none => none) else none
  | _ => none
/-- array stores; bytes (102): a number from -128 to 127 alone; references: a cell of the kind that fits -/
noncomputable def ax_sok (σ : AS) (h : AH) (kd ck : Nat) (v : AV) : Bool := match kd with
  | 100 => Nat.beq ck 100 && Nat.beq (ax_tc v) 0
  | 101 => Nat.beq ck 101 && Nat.beq (ax_tc v) 1
  | 102 => Nat.beq ck 102 && (match ax_rI σ v with
    | some q => Nat.ble 9223372036854775680 q.1 && Nat.ble q.2 9223372036854775935
    | none => false)
  | _ => Nat.beq v.1 2 && (match ax_nth h v.2 with
    | some c => (Nat.beq ck 103 && Nat.beq c.1 10) || ((Nat.beq ck 104 && Nat.beq c.1 1) || (Nat.beq ck 105 && Nat.beq c.1 7))
    | none => false)
noncomputable def ax_ast {β : Type} (kd : Nat) (σ : AS) (h : AH) (st : List AV) (kk : AH → List AV → Option β) : Option β := match st with
  | v :: i :: a :: r => bif Nat.beq (ax_nv σ i).1 0 && Nat.beq a.1 2 then (match ax_nth h a.2 with
      | some c => bif ax_sok σ h kd c.1 v && Nat.blt (ax_nv σ i).2 c.2.1 && Nat.blt (ax_nv σ i).2 2147483648 then ax_st c.2.2 (ax_nv σ i).2 v (fun cs => ax_set h a.2 (c.1, c.2.1, cs) (fun h' => kk h' r)) else none
      | none => none) else none
  | _ => none
noncomputable def ax_alen (sb : Nat → List Nat) (h : AH) (st : List AV) : Option (List AV) := match st with
  | a :: r => bif Nat.beq a.1 2 then (match ax_nth h a.2 with
      | some c => bif Nat.ble 100 c.1 && Nat.ble c.1 105 then some ((0, c.2.1) :: r) else none
      | none => none)
    else bif Nat.beq a.1 6 then (bif Nat.beq a.2 0 then some ((4, 6) :: r) else bif Nat.beq a.2 2 || Nat.beq a.2 4 then some ((0, (sb a.2).length) :: r) else none) else none
  | [] => none
def ax_new (R : Room) (lk : List Nat) (h : AH) (nc ns : Nat) (st : List AV) : Option (AH × Nat × Nat × List AV) := match lk with
  | ci :: n :: _ :: _ :: _ :: _ :: _ :: _ :: ts => bif Nat.ble (nc + 1) R.cells && Nat.ble (ns + n) R.slots then some (h ++ [(ci, n, [ts.map (fun t => (t, 0))])], nc + 1, ns + n, (2, h.length) :: st) else none
  | _ => none
noncomputable def ax_newa (R : Room) (σ : AS) (lk : List Nat) (h : AH) (nc ns : Nat) (st : List AV) : Option (AH × Nat × Nat × List AV) := match lk with
  | kd :: t :: _ => match st with
    | a :: r => bif Nat.beq (ax_nv σ a).1 0 && (Nat.ble (ax_nv σ a).2 65536 && (Nat.ble (nc + 1) R.cells && Nat.ble (ns + (ax_nv σ a).2) R.slots)) then some (h ++ [(kd, (ax_nv σ a).2, ax_rep (ax_nv σ a).2 (t, 0))], nc + 1, ns + (ax_nv σ a).2, (2, h.length) :: r) else none
    | [] => none
  | _ => none
noncomputable def ax_hp (sb : Nat → List Nat) (R : Room) (ins : Instr) (lk : List Nat) (σ : AS) (h : AH) (nc ns : Nat) (st : List AV) : Option (AH × Nat × Nat × List AV) := match ins with
  | .getfield _ => (match ax_getf lk h st with
    | some st' => some (h, nc, ns, st')
    | none => none)
  | .putfield _ => ax_putf lk h st (fun h' r => some (h', nc, ns, r))
  | .iaload => (match ax_ald 100 σ h st with
    | some st' => some (h, nc, ns, st')
    | none => match ax_scr σ st with
      | some st' => some (h, nc, ns, st')
      | none => none)
  | .laload => (match ax_ald 101 σ h st with
    | some st' => some (h, nc, ns, st')
    | none => none)
  | .baload => (match ax_ald 102 σ h st with
    | some st' => some (h, nc, ns, st')
    | none => match ax_sby sb σ st with
      | some st' => some (h, nc, ns, st')
      | none => none)
  | .aaload => (match ax_ald 103 σ h st with
    | some st' => some (h, nc, ns, st')
    | none => none)
  | .iastore => ax_ast 100 σ h st (fun h' r => some (h', nc, ns, r))
  | .lastore => ax_ast 101 σ h st (fun h' r => some (h', nc, ns, r))
  | .bastore => ax_ast 102 σ h st (fun h' r => some (h', nc, ns, r))
  | .aastore => ax_ast 103 σ h st (fun h' r => some (h', nc, ns, r))
  | .arraylength => (match ax_alen sb h st with
    | some st' => some (h, nc, ns, st')
    | none => none)
  | .new _ => ax_new R lk h nc ns st
  | .newarray _ => ax_newa R σ lk h nc ns st
  | .anewarray _ => ax_newa R σ lk h nc ns st
  | .getstatic _ => (match lk with
    | x :: _ => bif Nat.beq x 0 then some (h, nc, ns, (0, 1) :: st) else some (h, nc, ns, (7, 0) :: st)
    | [] => none)
  | _ => none
/-! calls -/
def ax_args (n : Nat) (st acc : List AV) : Option (List AV × List AV) := match n with
  | 0 => some (acc, st)
  | m + 1 => match st with
    | v :: r => ax_args m r (v :: acc)
    | [] => none
def ax_locs (i : Nat) (l : List AV) : AL := match l with
  | [] => []
  | v :: r => (i, v) :: ax_locs (bif ax_c2 v then i + 2 else i + 1) r
def ax_wt (l : List AV) : Nat := match l with
  | [] => 0
  | v :: r => (bif ax_c2 v then 2 else 1) + ax_wt r
noncomputable def ax_rcv (h : AH) (ci : Nat) (as : List AV) : Bool := match as with
  | a :: _ => bif Nat.beq a.1 2 then (match ax_nth h a.2 with
      | some c => Nat.beq c.1 ci && Nat.blt ci 100
      | none => false) else Nat.beq a.1 6 && (Nat.beq ci 200 && (Nat.beq a.2 1 || Nat.beq a.2 3))
  | [] => false
def ax_rok (ret : Option FieldType) (ins : Instr) (st : List AV) : Bool := match ins with
  | .ireturn => (match st with
    | [v] => (match ret with
      | some .int => Nat.beq (ax_tc v) 0
      | some .boolean => Nat.beq v.1 0 && Nat.ble v.2 1
      | some .byte => Nat.beq v.1 0 && Nat.ble v.2 1
      | some .char => Nat.beq v.1 0 && Nat.ble v.2 65535
      | _ => false)
    | _ => false)
  | .lreturn => (match st with
    | [v] => (match ret with
      | some .long => Nat.beq (ax_tc v) 1
      | _ => false)
    | _ => false)
  | .areturn => (match st with
    | [v] => (match ret with
      | some (.object _) => Nat.beq v.1 2
      | _ => false)
    | _ => false)
  | .return_ => (match st with
    | [] => (match ret with
      | none => true
      | _ => false)
    | _ => false)
  | _ => false
/-- the whole of one array (kinds 100, 101) into another of its length -/
noncomputable def ax_copy {β : Type} (σ : AS) (h : AH) (st : List AV) (kk : AH → List AV → Option β) : Option β := match st with
  | n :: dp :: d :: sp :: s :: r => bif Nat.beq d.1 2 && (Nat.beq s.1 2 && (Nat.beq (ax_nv σ n).1 0 && (Nat.beq (ax_nv σ dp).1 0 && (Nat.beq (ax_nv σ sp).1 0 && (Nat.beq (ax_nv σ dp).2 0 && Nat.beq (ax_nv σ sp).2 0))))) then (match ax_nth h d.2 with
      | some cd => (match ax_nth h s.2 with
        | some cs => bif Nat.beq cd.1 cs.1 && ((Nat.beq cs.1 100 || Nat.beq cs.1 101) && (Nat.beq cd.2.1 cs.2.1 && (Nat.beq cs.2.1 (ax_nv σ n).2 && Nat.ble cs.2.1 65536))) then ax_set h d.2 (cd.1, cd.2.1, cs.2.2) (fun h' => kk h' r) else none
        | none => none)
      | none => none) else none
  | _ => none
def ax_ix (ins : Instr) (st : List AV) : Option AV := match ins with
  | .iaload => st[0]?
  | .laload => st[0]?
  | .baload => st[0]?
  | .aaload => st[0]?
  | .iastore => st[1]?
  | .lastore => st[1]?
  | .bastore => st[1]?
  | .aastore => st[1]?
  | _ => none
/-- an unknown place: one after another -/
noncomputable def ax_spl (σ : AS) (i : AV) (go : AS → RS) : RS := bif Nat.beq i.1 4 then (match ax_nth σ i.2 with
    | some q => bif Nat.ble q.2 (q.1 + 20) && Nat.blt q.1 q.2 then ax_all ((List.range (q.2 + 1 - q.1)).map (fun d => ax_set σ i.2 (q.1 + d, q.1 + d) go)) else none
    | none => none) else none
/-- an unknown long that is compared: less, equal, more -/
noncomputable def ax_spc (σ : AS) (a b : AV) (go : AS → RS) : RS := bif Nat.beq a.1 5 then (match ax_rL σ a with
    | some ra => (match ax_rL σ b with
      | some rb => bif Nat.beq rb.1 rb.2 then ax_two (bif Nat.blt ra.1 rb.1 then ax_set σ a.2 (ra.1, min ra.2 (rb.1 - 1)) go else some []) (ax_two (bif Nat.ble ra.1 rb.1 && Nat.ble rb.1 ra.2 then ax_set σ a.2 (rb.1, rb.1) go else some []) (bif Nat.blt rb.1 ra.2 then ax_set σ a.2 (max ra.1 (rb.1 + 1), ra.2) go else some [])) else none
      | none => none)
    | none => none) else none
abbrev GO : Type := MR → Nat → Nat → List ME → AS → AH → Nat → Nat → AL → List AV → RS
noncomputable def ax_call (mt : Nat → Nat → Option MR) (ih : GO) (M : MR) (lk : List Nat) (σ : AS) (h : AH) (nc ns : Nat) (st : List AV) (go : AO → List AV → Nat → Nat → RS) : RS := match lk with
  | a :: b :: kc :: ci :: _ => match mt a b with
    | some C => match ax_args C.2.2.2.2.2.1 st [] with
      | some q => bif (Nat.blt C.2.2.2.2.1.frames M.2.2.2.2.1.frames && (Nat.ble (8 + (C.2.2.1 + 11) + C.2.2.2.2.1.locals) M.2.2.2.2.1.locals && (Nat.ble (ax_wt q.2) 8 && (Nat.ble (nc + C.2.2.2.2.1.cells) M.2.2.2.2.1.cells && (Nat.ble (ns + C.2.2.2.2.1.slots) M.2.2.2.2.1.slots && (Nat.blt 0 kc || ax_rcv h ci q.1)))))) then
          (match ih C 999999 0 C.2.2.2.2.2.2 σ h 0 0 (ax_locs 0 q.1) [] with
            | some outs => ax_all (outs.map (fun o => go o q.2 (nc + C.2.2.2.2.1.cells) (ns + C.2.2.2.2.1.slots)))
            | none => none) else none
      | none => none
    | none => none
  | _ => none
noncomputable def ax_inv (mt : Nat → Nat → Option MR) (ih : GO) (M : MR) (cut pc : Nat) (tl : List ME) (lk : List Nat) (σ : AS) (h : AH) (nc ns : Nat) (lv : AL) (st : List AV) : RS := match lk with
  | 900 :: _ => (match st with
    | a :: r => bif Nat.beq a.1 2 && (Nat.ble 1 M.2.2.2.2.1.frames && Nat.ble (ax_wt r + 12) M.2.2.2.2.1.locals) then ih M cut pc tl σ h nc ns lv r else none
    | [] => none)
  | 901 :: _ => bif Nat.ble 1 M.2.2.2.2.1.frames && Nat.ble 60 M.2.2.2.2.1.locals && Nat.ble (ax_wt st) 20 then ax_copy σ h st (fun h' r => ih M cut pc tl σ h' nc ns lv r) else none
  | _ => ax_call mt ih M lk σ h nc ns st (fun o rest nc' ns' => ih M cut pc tl o.1 o.2.1 nc' ns' lv (o.2.2.2.2.2.2.2 ++ rest))
noncomputable def ax_ctl (mt : Nat → Nat → Option MR) (ih : GO) (M : MR) (cut pc : Nat) (ins : Instr) (len : Nat) (lk : List Nat) (tl cd : List ME) (σ : AS) (h : AH) (nc ns : Nat) (lv : AL) (st : List AV) : RS := match ins with
  | .goto _ => (match lk with
    | t :: _ => ih M cut t (ax_jmp M.2.2.2.2.2.2 t) σ h nc ns lv st
    | _ => none)
  | .if_icmp c _ => (match lk with
    | t :: _ => (match st with
      | b :: a :: r => ax_br (ax_cnd c σ a b) (fun σ' => ih M cut t (ax_jmp M.2.2.2.2.2.2 t) σ' h nc ns lv r) (fun σ' => ih M cut (pc + len) tl σ' h nc ns lv r)
      | _ => none)
    | _ => none)
  | .ifCond c _ => (match lk with
    | t :: _ => (match st with
      | a :: r => ax_br (ax_cnd c σ a (0, 0)) (fun σ' => ih M cut t (ax_jmp M.2.2.2.2.2.2 t) σ' h nc ns lv r) (fun σ' => ih M cut (pc + len) tl σ' h nc ns lv r)
      | _ => none)
    | _ => none)
  | .tableswitch _ _ _ _ => (match lk with
    | d :: lo :: hi :: ks => (match st with
      | v :: r => ax_br (ax_lt σ v (0, lo)) (fun σ' => ih M cut d (ax_jmp M.2.2.2.2.2.2 d) σ' h nc ns lv r) (fun σ1 => ax_br (ax_lt σ1 (0, hi) v) (fun σ' => ih M cut d (ax_jmp M.2.2.2.2.2.2 d) σ' h nc ns lv r) (ax_sw (fun t σ' => ih M cut t (ax_jmp M.2.2.2.2.2.2 t) σ' h nc ns lv r) v d ks))
      | _ => none)
    | _ => none)
  | .lcmp => (match st with
    | b :: a :: _ => ax_spc σ a b (fun σ' => ih M cut pc cd σ' h nc ns lv st)
    | _ => none)
  | .lookupswitch _ _ => (match lk with
    | d :: ks => (match st with
      | v :: r => ax_sw (fun t σ' => ih M cut t (ax_jmp M.2.2.2.2.2.2 t) σ' h nc ns lv r) v d ks σ
      | _ => none)
    | _ => none)
  | .ireturn => bif ax_rok M.2.2.2.1 .ireturn st then some [(σ, h, nc, ns, pc, .ireturn, lv, st)] else none
  | .lreturn => bif ax_rok M.2.2.2.1 .lreturn st then some [(σ, h, nc, ns, pc, .lreturn, lv, st)] else none
  | .areturn => bif ax_rok M.2.2.2.1 .areturn st then some [(σ, h, nc, ns, pc, .areturn, lv, st)] else none
  | .return_ => bif ax_rok M.2.2.2.1 .return_ st then some [(σ, h, nc, ns, pc, .return_, lv, st)] else none
  | .invokevirtual _ => ax_inv mt ih M cut (pc + len) tl lk σ h nc ns lv st
  | .invokespecial _ => ax_inv mt ih M cut (pc + len) tl lk σ h nc ns lv st
  | .invokestatic _ => ax_inv mt ih M cut (pc + len) tl lk σ h nc ns lv st
  | i => (match ax_ix i st with
    | some x => ax_spl σ x (fun σ' => ih M cut pc cd σ' h nc ns lv st)
    | none => none)
noncomputable def ax_bd (sb : Nat → List Nat) (mt : Nat → Nat → Option MR) (ih : GO) : GO := fun M cut pc cd σ h nc ns lv st =>
  bif Nat.ble cut pc then some [(σ, h, nc, ns, pc, .nop, lv, st)] else
  match cd with
  | [] => none
  | e :: tl => bif Nat.beq e.1 pc then
      (match ax_sm e.2.1 e.2.2.2 σ lv st with
      | some q => ih M cut (e.1 + e.2.2.1) tl q.1 h nc ns q.2.1 q.2.2
      | none => match ax_hp sb M.2.2.2.2.1 e.2.1 e.2.2.2 σ h nc ns st with
        | some q => ih M cut (e.1 + e.2.2.1) tl σ q.1 q.2.1 q.2.2.1 lv q.2.2.2
        | none => ax_ctl mt ih M cut e.1 e.2.1 e.2.2.1 e.2.2.2 tl (e :: tl) σ h nc ns lv st)
    else none
noncomputable def ax_run (sb : Nat → List Nat) (mt : Nat → Nat → Option MR) (n : Nat) : GO := Nat.rec (motive := fun _ => GO) (fun _ _ _ _ _ _ _ _ _ _ => none) (fun _ ih => ax_bd sb mt ih) n
