/-! THE ABSTRACT MACHINE, 2: its steps -/
noncomputable def ax_lk (lv : AL) (i : Nat) : Option AV := List.rec (motive := fun _ => Option AV) none (fun q _ ih => bif Nat.beq q.1 i then some q.2 else ih) lv
def ax_c2 (v : AV) : Bool := Nat.beq v.1 1 || Nat.beq v.1 5
noncomputable def ax_flt {β : Type} (keep : Nat × AV → Bool) (lv : AL) : (AL → β) → β := List.rec (motive := fun _ => (AL → β) → β) (fun k => k []) (fun q _ ih k => ih (fun t => bif keep q then k (q :: t) else k t)) lv
def ax_k1 (i : Nat) : Nat × AV → Bool := fun q => !(Nat.beq q.1 i) && !(Nat.beq (q.1 + 1) i && ax_c2 q.2)
def ax_k2 (i : Nat) : Nat × AV → Bool := fun q => !(Nat.beq q.1 i) && (!(Nat.beq q.1 (i + 1)) && !(Nat.beq (q.1 + 1) i && ax_c2 q.2))
/-- 0: an int, 1: a long, 2: a cell -/
def ax_tc (v : AV) : Nat := bif Nat.beq v.1 0 || Nat.beq v.1 4 then 0 else bif Nat.beq v.1 1 || Nat.beq v.1 5 then 1 else bif Nat.beq v.1 2 || Nat.beq v.1 6 then 2 else 3
/-- an unknown that can be one number alone is that number -/
noncomputable def ax_nv (σ : AS) (v : AV) : AV := bif Nat.beq v.1 4 then (match ax_nth σ v.2 with
  | some q => bif Nat.beq q.1 q.2 then (0, (q.1 + 9223372036854775808) % 4294967296) else v
  | none => v) else v
noncomputable def ax_rI (σ : AS) (v : AV) : Option (Nat × Nat) :=
  bif Nat.beq v.1 0 then (bif Nat.blt v.2 4294967296 then some (ax_bi v.2, ax_bi v.2) else none)
  else bif Nat.beq v.1 4 then (match ax_nth σ v.2 with
    | some q => bif Nat.ble 9223372034707292160 q.1 && Nat.ble q.2 9223372039002259455 then some q else none
    | none => none)
  else none
noncomputable def ax_rL (σ : AS) (v : AV) : Option (Nat × Nat) :=
  bif Nat.beq v.1 1 then (bif Nat.blt v.2 18446744073709551616 then some (ax_bl v.2, ax_bl v.2) else none)
  else bif Nat.beq v.1 5 then (match ax_nth σ v.2 with
    | some q => bif Nat.ble q.2 18446744073709551615 then some q else none
    | none => none)
  else none
def ax_full : Nat × Nat := (9223372034707292160, 9223372039002259455)
def ax_fullL : Nat × Nat := (0, 18446744073709551615)
/-- int operations on numbers: 0 add, 1 sub, 2 mul, 3 and, 4 or, 5 xor, 6 shl, 7 shr, 8 ushr -/
def ax_cop (op x y : Nat) : Nat := match op with
  | 0 => (x + y) % 4294967296
  | 1 => (x + (4294967296 - y)) % 4294967296
  | 2 => (x * y) % 4294967296
  | 3 => Nat.land x y
  | 4 => Nat.lor x y
  | 5 => Nat.xor x y
  | 6 => (x * 2 ^ (y % 32)) % 4294967296
  | 7 => bif Nat.blt x 2147483648 then x / 2 ^ (y % 32) else 4294967295 - (4294967295 - x) / 2 ^ (y % 32)
  | _ => x / 2 ^ (y % 32)
def ax_iv (op : Nat) (a b : Nat × Nat) : Nat × Nat := match op with
  | 0 => bif Nat.ble 18446744071562067968 (a.1 + b.1) && Nat.ble (a.2 + b.2) 18446744075857035263 then (a.1 + b.1 - 9223372036854775808, a.2 + b.2 - 9223372036854775808) else ax_full
  | 1 => bif Nat.ble (9223372034707292160 + b.2) (a.1 + 9223372036854775808) && Nat.ble (a.2 + 9223372036854775808) (9223372039002259455 + b.1) then (a.1 + 9223372036854775808 - b.2, a.2 + 9223372036854775808 - b.1) else ax_full
  | 3 => bif Nat.beq b.1 b.2 && Nat.ble 9223372036854775808 b.1 then (9223372036854775808, b.1) else bif Nat.beq a.1 a.2 && Nat.ble 9223372036854775808 a.1 then (9223372036854775808, a.1) else ax_full
  | _ => ax_full
/-- a new unknown -/
def ax_nw {β : Type} (tag : Nat) (σ : AS) (q : Nat × Nat) (k : AS → AV → Option β) : Option β := k (σ ++ [q]) (tag, σ.length)
noncomputable def ax_ib {β : Type} (op : Nat) (σ : AS) (a b : AV) (k : AS → AV → Option β) : Option β :=
  bif Nat.beq a.1 0 && Nat.beq b.1 0 then (bif Nat.blt a.2 4294967296 && Nat.blt b.2 4294967296 then ax_fc (ax_cop op a.2 b.2) (fun n => k σ (0, n)) else none)
  else match ax_rI σ a with
    | some ra => match ax_rI σ b with
      | some rb => ax_nw 4 σ (ax_iv op ra rb) k
      | none => none
    | none => none
/-- int division and rest, by a number that isn't 0 -/
noncomputable def ax_id {β : Type} (op : Nat) (σ : AS) (a b : AV) (k : AS → AV → Option β) : Option β :=
  bif Nat.beq b.1 0 && (Nat.ble 1 b.2 && Nat.blt b.2 2147483648) then
    (bif Nat.beq a.1 0 && Nat.blt a.2 2147483648 then ax_fc (bif Nat.beq op 0 then a.2 / b.2 else a.2 % b.2) (fun n => k σ (0, n))
     else match ax_rI σ a with
      | some _ => ax_nw 4 σ ax_full k
      | none => none)
  else none
/-- long operations on numbers: 0 add, 1 sub, 2 mul, 3 and, 4 or -/
def ax_lop (op x y : Nat) : Nat := match op with
  | 0 => (x + y) % 18446744073709551616
  | 1 => (x + (18446744073709551616 - y)) % 18446744073709551616
  | 2 => (x * y) % 18446744073709551616
  | 3 => Nat.land x y
  | _ => Nat.lor x y
noncomputable def ax_lb {β : Type} (op : Nat) (σ : AS) (a b : AV) (k : AS → AV → Option β) : Option β :=
  bif Nat.beq a.1 1 && Nat.beq b.1 1 then (bif Nat.blt a.2 18446744073709551616 && Nat.blt b.2 18446744073709551616 then ax_fc (ax_lop op a.2 b.2) (fun n => k σ (1, n)) else none)
  else bif Nat.beq (ax_tc a) 1 && Nat.beq (ax_tc b) 1 then ax_nw 5 σ ax_fullL k else none
/-- conversions of an int: 0 i2b, 1 i2s, 2 i2c, 3 ineg -/
def ax_cu (op x : Nat) : Nat := match op with
  | 0 => bif Nat.blt (x % 256) 128 then x % 256 else x % 256 + 4294967040
  | 1 => bif Nat.blt (x % 65536) 32768 then x % 65536 else x % 65536 + 4294901760
  | 2 => x % 65536
  | _ => (4294967296 - x) % 4294967296
def ax_cuv (op : Nat) : Nat × Nat := match op with
  | 0 => (9223372036854775680, 9223372036854775935)
  | 1 => (9223372036854743040, 9223372036854808575)
  | 2 => (9223372036854775808, 9223372036854841343)
  | _ => ax_full
noncomputable def ax_un {β : Type} (op : Nat) (σ : AS) (a : AV) (k : AS → AV → Option β) : Option β :=
  bif Nat.beq a.1 0 then (bif Nat.blt a.2 4294967296 then ax_fc (ax_cu op a.2) (fun n => k σ (0, n)) else none)
  else bif Nat.beq (ax_tc a) 0 then ax_nw 4 σ (ax_cuv op) k else none
noncomputable def ax_i2l {β : Type} (σ : AS) (a : AV) (k : AS → AV → Option β) : Option β :=
  bif Nat.beq a.1 0 then (bif Nat.blt a.2 4294967296 then ax_fc (bif Nat.blt a.2 2147483648 then a.2 else a.2 + 18446744069414584320) (fun n => k σ (1, n)) else none)
  else bif Nat.beq a.1 4 then (match ax_rI σ a with
    | some _ => k σ (5, a.2)
    | none => none)
  else none
noncomputable def ax_l2i {β : Type} (σ : AS) (a : AV) (k : AS → AV → Option β) : Option β :=
  bif Nat.beq a.1 1 then ax_fc (a.2 % 4294967296) (fun n => k σ (0, n))
  else bif Nat.beq a.1 5 then ax_nw 4 σ ax_full k else none
noncomputable def ax_lcmp {β : Type} (σ : AS) (a b : AV) (k : AS → AV → Option β) : Option β :=
  match ax_rL σ a with
  | some ra => match ax_rL σ b with
    | some rb => bif Nat.blt ra.2 rb.1 then k σ (0, 4294967295) else bif Nat.blt rb.2 ra.1 then k σ (0, 1) else bif Nat.beq ra.1 ra.2 && (Nat.beq rb.1 rb.2 && Nat.beq ra.1 rb.1) then k σ (0, 0) else none
    | none => none
  | none => none
noncomputable def ax_load (t : Nat) (lk : List Nat) (σ : AS) (lv : AL) (st : List AV) : Option (AS × AL × List AV) := match lk with
  | i :: _ => match ax_lk lv i with
    | some v => bif Nat.beq (ax_tc v) t then some (σ, lv, v :: st) else none
    | none => none
  | [] => none
noncomputable def ax_store (t : Nat) (lk : List Nat) (σ : AS) (lv : AL) (st : List AV) : Option (AS × AL × List AV) := match lk with
  | i :: _ => match st with
    | v :: r => bif Nat.beq (ax_tc v) t then ax_flt (bif Nat.beq t 1 then ax_k2 i else ax_k1 i) lv (fun lv' => some (σ, (i, v) :: lv', r)) else none
    | [] => none
  | [] => none
noncomputable def ax_bin (f : AS → AV → AV → (AS → AV → Option (AS × AL × List AV)) → Option (AS × AL × List AV)) (σ : AS) (lv : AL) (st : List AV) : Option (AS × AL × List AV) := match st with
  | b :: a :: r => f σ (ax_nv σ a) (ax_nv σ b) (fun σ' v => some (σ', lv, v :: r))
  | _ => none
noncomputable def ax_one (f : AS → AV → (AS → AV → Option (AS × AL × List AV)) → Option (AS × AL × List AV)) (σ : AS) (lv : AL) (st : List AV) : Option (AS × AL × List AV) := match st with
  | a :: r => f σ (ax_nv σ a) (fun σ' v => some (σ', lv, v :: r))
  | _ => none
def ax_push (lk : List Nat) (σ : AS) (lv : AL) (st : List AV) : Option (AS × AL × List AV) := match lk with
  | t :: n :: _ => some (σ, lv, (t, n) :: st)
  | _ => none
def ax_dup (σ : AS) (lv : AL) (st : List AV) : Option (AS × AL × List AV) := match st with
  | a :: r => bif ax_c2 a then none else some (σ, lv, a :: a :: r)
  | _ => none
def ax_dup2 (σ : AS) (lv : AL) (st : List AV) : Option (AS × AL × List AV) := match st with
  | a :: r => bif ax_c2 a then some (σ, lv, a :: a :: r) else (match r with
    | b :: r' => bif ax_c2 b then none else some (σ, lv, a :: b :: a :: b :: r')
    | [] => none)
  | _ => none
def ax_pop1 (σ : AS) (lv : AL) (st : List AV) : Option (AS × AL × List AV) := match st with
  | a :: r => bif ax_c2 a then none else some (σ, lv, r)
  | _ => none
noncomputable def ax_iinc (lk : List Nat) (σ : AS) (lv : AL) (st : List AV) : Option (AS × AL × List AV) := match lk with
  | i :: n :: _ => match ax_lk lv i with
    | some v => ax_ib 0 σ (ax_nv σ v) (0, n) (fun σ' w => ax_flt (ax_k1 i) lv (fun lv' => some (σ', (i, w) :: lv', st)))
    | none => none
  | _ => none
/-- steps that leave the heap alone -/
noncomputable def ax_sm (ins : Instr) (lk : List Nat) (σ : AS) (lv : AL) (st : List AV) : Option (AS × AL × List AV) := match ins with
  | .iconst _ => ax_push lk σ lv st
  | .bipush _ => ax_push lk σ lv st
  | .sipush _ => ax_push lk σ lv st
  | .lconst _ => ax_push lk σ lv st
  | .ldc _ => ax_push lk σ lv st
  | .ldc_w _ => ax_push lk σ lv st
  | .ldc2_w _ => ax_push lk σ lv st
  | .iload _ => ax_load 0 lk σ lv st
  | .iload_n _ => ax_load 0 lk σ lv st
  | .lload _ => ax_load 1 lk σ lv st
  | .lload_n _ => ax_load 1 lk σ lv st
  | .aload _ => ax_load 2 lk σ lv st
  | .aload_n _ => ax_load 2 lk σ lv st
  | .istore _ => ax_store 0 lk σ lv st
  | .istore_n _ => ax_store 0 lk σ lv st
  | .lstore _ => ax_store 1 lk σ lv st
  | .lstore_n _ => ax_store 1 lk σ lv st
  | .astore _ => ax_store 2 lk σ lv st
  | .astore_n _ => ax_store 2 lk σ lv st
  | .iinc _ _ => ax_iinc lk σ lv st
  | .iadd => ax_bin (ax_ib 0) σ lv st
  | .isub => ax_bin (ax_ib 1) σ lv st
  | .imul => ax_bin (ax_ib 2) σ lv st
  | .iand => ax_bin (ax_ib 3) σ lv st
  | .ior => ax_bin (ax_ib 4) σ lv st
  | .ixor => ax_bin (ax_ib 5) σ lv st
  | .ishl => ax_bin (ax_ib 6) σ lv st
  | .ishr => ax_bin (ax_ib 7) σ lv st
  | .iushr => ax_bin (ax_ib 8) σ lv st
  | .idiv => ax_bin (ax_id 0) σ lv st
  | .irem => ax_bin (ax_id 1) σ lv st
  | .ladd => ax_bin (ax_lb 0) σ lv st
  | .lsub => ax_bin (ax_lb 1) σ lv st
  | .lmul => ax_bin (ax_lb 2) σ lv st
  | .land => ax_bin (ax_lb 3) σ lv st
  | .lor => ax_bin (ax_lb 4) σ lv st
  | .lshl => ax_bin (fun σ a b k => bif Nat.beq (ax_tc a) 1 && Nat.beq (ax_tc b) 0 then ax_nw 5 σ ax_fullL k else none) σ lv st
  | .lcmp => ax_bin ax_lcmp σ lv st
  | .i2b => ax_one (ax_un 0) σ lv st
  | .i2s => ax_one (ax_un 1) σ lv st
  | .i2c => ax_one (ax_un 2) σ lv st
  | .ineg => ax_one (ax_un 3) σ lv st
  | .i2l => ax_one ax_i2l σ lv st
  | .l2i => ax_one ax_l2i σ lv st
  | .dup => ax_dup σ lv st
  | .dup2 => ax_dup2 σ lv st
  | .pop => ax_pop1 σ lv st
  | _ => none
/-! branches -/
noncomputable def ax_cut (σ : AS) (v : AV) (lo hi : Nat) : AS := bif Nat.beq v.1 4 then ax_set σ v.2 (lo, hi) (fun s => s) else σ
noncomputable def ax_lt (σ : AS) (a b : AV) : Option (Option AS × Option AS) := match ax_rI σ a with
  | some ra => match ax_rI σ b with
    | some rb => some (
        (bif Nat.blt ra.1 rb.2 then some (ax_cut (ax_cut σ a ra.1 (min ra.2 (rb.2 - 1))) b (max rb.1 (ra.1 + 1)) rb.2) else none),
        (bif Nat.ble rb.1 ra.2 then some (ax_cut (ax_cut σ a (max ra.1 rb.1) ra.2) b rb.1 (min rb.2 ra.2)) else none))
    | none => none
  | none => none
noncomputable def ax_eq (σ : AS) (a b : AV) : Option (Option AS × Option AS) := match ax_rI σ a with
  | some ra => match ax_rI σ b with
    | some rb => some (
        (bif Nat.ble (max ra.1 rb.1) (min ra.2 rb.2) then some (ax_cut (ax_cut σ a (max ra.1 rb.1) (min ra.2 rb.2)) b (max ra.1 rb.1) (min ra.2 rb.2)) else none),
        (bif Nat.beq ra.1 ra.2 && (Nat.beq rb.1 rb.2 && Nat.beq ra.1 rb.1) then none
         else some (bif Nat.beq rb.1 rb.2 then ax_cut σ a (bif Nat.beq ra.1 rb.1 then ra.1 + 1 else ra.1) (bif Nat.beq ra.2 rb.1 then ra.2 - 1 else ra.2) else σ)))
    | none => none
  | none => none
def ax_swp (r : Option (Option AS × Option AS)) : Option (Option AS × Option AS) := match r with
  | some (t, f) => some (f, t)
  | none => none
noncomputable def ax_cnd (c : ClassFile.Cond) (σ : AS) (a b : AV) : Option (Option AS × Option AS) := match c with
  | .eq => ax_eq σ a b
  | .ne => ax_swp (ax_eq σ a b)
  | .lt => ax_lt σ a b
  | .ge => ax_swp (ax_lt σ a b)
  | .gt => ax_lt σ b a
  | .le => ax_swp (ax_lt σ b a)
def ax_two (x y : RS) : RS := match x with
  | some l => match y with
    | some l' => some (l ++ l')
    | none => none
  | none => none
def ax_go (o : Option AS) (go : AS → RS) : RS := match o with
  | some σ => go σ
  | none => some []
def ax_br (r : Option (Option AS × Option AS)) (gt gf : AS → RS) : RS := match r with
  | some (t, f) => ax_two (ax_go t gt) (ax_go f gf)
  | none => none
noncomputable def ax_sw (go : Nat → AS → RS) (v : AV) (d : Nat) (ks : List Nat) : AS → RS := match ks with
  | k :: t :: r => fun σ => ax_br (ax_eq σ v (0, k)) (go t) (ax_sw go v d r)
  | _ => go d
def ax_all (l : List RS) : RS := match l with
  | [] => some []
  | x :: t => ax_two x (ax_all t)
noncomputable def ax_jmp (tab : List ME) (pc : Nat) : List ME := List.rec (motive := fun _ => List ME) [] (fun e t ih => bif Nat.beq e.1 pc then e :: t else ih) tab
