/-! THE ABSTRACT MACHINE, 2: its steps -/
noncomputable def ob {α β : Type} (o : Option α) (k : α → Option β) : Option β := Option.rec (motive := fun _ => Option β) none k o
noncomputable def lc {α β : Type} (l : List α) (k : α → List α → Option β) : Option β := List.rec (motive := fun _ => Option β) none (fun x t _ => k x t) l
noncomputable def gd {β : Type} (b : Bool) (x : Option β) : Option β := Bool.rec (motive := fun _ => Option β) none x b
theorem ob_s {α β : Type} {o : Option α} {k : α → Option β} {r : β} (h : ob o k = some r) : ∃ x, o = some x ∧ k x = some r := by
  cases o with
  | none => cases h
  | some x => exact ⟨x, rfl, h⟩
theorem lc_s {α β : Type} {l : List α} {k : α → List α → Option β} {r : β} (h : lc l k = some r) : ∃ x t, l = x :: t ∧ k x t = some r := by
  cases l with
  | nil => cases h
  | cons x t => exact ⟨x, t, rfl, h⟩
theorem gd_s {β : Type} {b : Bool} {x : Option β} {r : β} (h : gd b x = some r) : b = true ∧ x = some r := by
  cases b with
  | false => cases h
  | true => exact ⟨rfl, h⟩
noncomputable def ax_lk (lv : AL) (i : Nat) : Option AV := List.rec (motive := fun _ => Option AV) none (fun q _ ih => bif Nat.beq q.1 i then some q.2 else ih) lv
def ax_c2 (v : AV) : Bool := Nat.beq v.1 1 || Nat.beq v.1 5
noncomputable def ax_flt {β : Type} (keep : Nat × AV → Bool) (lv : AL) : (AL → β) → β := List.rec (motive := fun _ => (AL → β) → β) (fun k => k []) (fun q _ ih k => ih (fun t => bif keep q then k (q :: t) else k t)) lv
def ax_k1 (i : Nat) : Nat × AV → Bool := fun q => !(Nat.beq q.1 i) && !(Nat.beq (q.1 + 1) i && ax_c2 q.2)
def ax_k2 (i : Nat) : Nat × AV → Bool := fun q => !(Nat.beq q.1 i) && (!(Nat.beq q.1 (i + 1)) && !(Nat.beq (q.1 + 1) i && ax_c2 q.2))
/-- an int, a long, a cell -/
def ax_tI (v : AV) : Bool := Nat.beq v.1 0 || Nat.beq v.1 4
def ax_tL (v : AV) : Bool := Nat.beq v.1 1 || Nat.beq v.1 5
def ax_tR (v : AV) : Bool := Nat.beq v.1 2 || Nat.beq v.1 6
/-- an unknown that can be one number alone is that number -/
noncomputable def ax_nv (σ : AS) (v : AV) : AV := bif Nat.beq v.1 4 then (match ax_nth σ v.2 with
  | some q => bif Nat.beq q.1 q.2 then (0, (q.1 + 9223372036854775808) % 4294967296) else v
  | none => v) else v
noncomputable def ax_rI (σ : AS) (v : AV) : Option (Nat × Nat) :=
  bif Nat.beq v.1 0 then gd (Nat.blt v.2 4294967296) (some (ax_bi v.2, ax_bi v.2))
  else gd (Nat.beq v.1 4) (ob (ax_nth σ v.2) (fun q => gd (Nat.ble 9223372034707292160 q.1 && Nat.ble q.2 9223372039002259455) (some q)))
noncomputable def ax_rL (σ : AS) (v : AV) : Option (Nat × Nat) :=
  bif Nat.beq v.1 1 then gd (Nat.blt v.2 18446744073709551616) (some (ax_bl v.2, ax_bl v.2))
  else gd (Nat.beq v.1 5) (ob (ax_nth σ v.2) (fun q => gd (Nat.ble q.2 18446744073709551615) (some q)))
def ax_full : Nat × Nat := (9223372034707292160, 9223372039002259455)
def ax_fullL : Nat × Nat := (0, 18446744073709551615)
/-- int operations on numbers: 0 add, 1 sub, 2 mul, 3 and, 4 or, 5 xor, 6 shl, 7 shr, 8 ushr -/
def ax_cop (op x y : Nat) : Nat := match op with
  | 0 => (x + y) % 4294967296
  | 1 => (x + (4294967296 - y)) % 4294967296
  | 2 => (x * y) % 4294967296
  | 3 => Nat.land x y
  | 4 => Nat.lor x y
  | 5 => Nat.xor x y
  | 6 => (x * 2 ^ (y % 32)) % 4294967296
  | 7 => bif Nat.blt x 2147483648 then x / 2 ^ (y % 32) else 4294967295 - (4294967295 - x) / 2 ^ (y % 32)
  | _ => x / 2 ^ (y % 32)
def ax_iv (op : Nat) (a b : Nat × Nat) : Nat × Nat := match op with
  | 0 => bif Nat.ble 18446744071562067968 (a.1 + b.1) && Nat.ble (a.2 + b.2) 18446744075857035263 then (a.1 + b.1 - 9223372036854775808, a.2 + b.2 - 9223372036854775808) else ax_full
  | 1 => bif Nat.ble (9223372034707292160 + b.2) (a.1 + 9223372036854775808) && Nat.ble (a.2 + 9223372036854775808) (9223372039002259455 + b.1) then (a.1 + 9223372036854775808 - b.2, a.2 + 9223372036854775808 - b.1) else ax_full
  | 3 => bif Nat.beq b.1 b.2 && Nat.ble 9223372036854775808 b.1 then (9223372036854775808, b.1) else ax_full
  | _ => ax_full
/-- a new unknown -/
def ax_nw {β : Type} (tag : Nat) (σ : AS) (q : Nat × Nat) (k : AS → AV → Option β) : Option β := k (σ ++ [q]) (tag, σ.length)
noncomputable def ax_ib {β : Type} (op : Nat) (σ : AS) (a b : AV) (k : AS → AV → Option β) : Option β :=
  bif Nat.beq a.1 0 && Nat.beq b.1 0 then gd (Nat.blt a.2 4294967296 && Nat.blt b.2 4294967296) (ax_fc (ax_cop op a.2 b.2) (fun n => k σ (0, n)))
  else ob (ax_rI σ a) (fun ra => ob (ax_rI σ b) (fun rb => ax_nw 4 σ (ax_iv op ra rb) k))
/-- int division (0) and rest (1), by a number above 0 -/
noncomputable def ax_id {β : Type} (op : Nat) (σ : AS) (a b : AV) (k : AS → AV → Option β) : Option β :=
  gd (Nat.beq b.1 0 && (Nat.ble 1 b.2 && Nat.blt b.2 2147483648))
    (bif Nat.beq a.1 0 && Nat.blt a.2 2147483648 then ax_fc (bif Nat.beq op 0 then a.2 / b.2 else a.2 % b.2) (fun n => k σ (0, n))
     else ob (ax_rI σ a) (fun _ => ax_nw 4 σ ax_full k))
/-- long operations on numbers: 0 add, 1 sub, 2 mul, 3 and, 4 or -/
def ax_lop (op x y : Nat) : Nat := match op with
  | 0 => (x + y) % 18446744073709551616
  | 1 => (x + (18446744073709551616 - y)) % 18446744073709551616
  | 2 => (x * y) % 18446744073709551616
  | 3 => Nat.land x y
  | _ => Nat.lor x y
noncomputable def ax_lb {β : Type} (op : Nat) (σ : AS) (a b : AV) (k : AS → AV → Option β) : Option β :=
  bif Nat.beq a.1 1 && Nat.beq b.1 1 then gd (Nat.blt a.2 18446744073709551616 && Nat.blt b.2 18446744073709551616) (ax_fc (ax_lop op a.2 b.2) (fun n => k σ (1, n)))
  else gd (ax_tL a && ax_tL b) (ax_nw 5 σ ax_fullL k)
/-- conversions of an int: 0 i2b, 1 i2s, 2 i2c, 3 ineg -/
def ax_cu (op x : Nat) : Nat := match op with
  | 0 => bif Nat.blt (x % 256) 128 then x % 256 else x % 256 + 4294967040
  | 1 => bif Nat.blt (x % 65536) 32768 then x % 65536 else x % 65536 + 4294901760
  | 2 => x % 65536
  | _ => (4294967296 - x) % 4294967296
def ax_cuv (op : Nat) : Nat × Nat := match op with
  | 0 => (9223372036854775680, 9223372036854775935)
  | 1 => (9223372036854743040, 9223372036854808575)
  | 2 => (9223372036854775808, 9223372036854841343)
  | _ => ax_full
noncomputable def ax_un {β : Type} (op : Nat) (σ : AS) (a : AV) (k : AS → AV → Option β) : Option β :=
  bif Nat.beq a.1 0 then gd (Nat.blt a.2 4294967296) (ax_fc (ax_cu op a.2) (fun n => k σ (0, n)))
  else gd (Nat.beq a.1 4) (ax_nw 4 σ (ax_cuv op) k)
noncomputable def ax_i2l {β : Type} (σ : AS) (a : AV) (k : AS → AV → Option β) : Option β :=
  bif Nat.beq a.1 0 then gd (Nat.blt a.2 4294967296) (ax_fc (bif Nat.blt a.2 2147483648 then a.2 else a.2 + 18446744069414584320) (fun n => k σ (1, n)))
  else gd (Nat.beq a.1 4) (ob (ax_rI σ a) (fun _ => k σ (5, a.2)))
noncomputable def ax_l2i {β : Type} (σ : AS) (a : AV) (k : AS → AV → Option β) : Option β :=
  bif Nat.beq a.1 1 then ax_fc (a.2 % 4294967296) (fun n => k σ (0, n))
  else gd (Nat.beq a.1 5) (ax_nw 4 σ ax_full k)
noncomputable def ax_lsh {β : Type} (σ : AS) (a b : AV) (k : AS → AV → Option β) : Option β := gd (ax_tL a && ax_tI b) (ax_nw 5 σ ax_fullL k)
/-- a comparison of longs that can be decided: less, more, equal -/
noncomputable def ax_lcm {β : Type} (ra rb : Nat × Nat) (kd : Nat → Option β) (ku : Option β) : Option β :=
  bif Nat.blt ra.2 rb.1 then kd 4294967295 else bif Nat.blt rb.2 ra.1 then kd 1 else bif Nat.beq ra.1 ra.2 && (Nat.beq rb.1 rb.2 && Nat.beq ra.1 rb.1) then kd 0 else ku
/-! branches -/
noncomputable def ax_cut (σ : AS) (v : AV) (lo hi : Nat) : AS := bif Nat.beq v.1 4 then ax_set σ v.2 (lo, hi) (fun s => s) else σ
noncomputable def ax_lt (σ : AS) (a b : AV) : Option (Option AS × Option AS) := ob (ax_rI σ a) (fun ra => ob (ax_rI σ b) (fun rb => some (
        (gd (Nat.blt ra.1 rb.2) (some (ax_cut (ax_cut σ a ra.1 (min ra.2 (rb.2 - 1))) b (max rb.1 (ra.1 + 1)) rb.2))),
        (gd (Nat.ble rb.1 ra.2) (some (ax_cut (ax_cut σ a (max ra.1 rb.1) ra.2) b rb.1 (min rb.2 ra.2)))))))
noncomputable def ax_eq (σ : AS) (a b : AV) : Option (Option AS × Option AS) := ob (ax_rI σ a) (fun ra => ob (ax_rI σ b) (fun rb => some (
        (gd (Nat.ble (max ra.1 rb.1) (min ra.2 rb.2)) (some (ax_cut (ax_cut σ a (max ra.1 rb.1) (min ra.2 rb.2)) b (max ra.1 rb.1) (min ra.2 rb.2)))),
        (bif Nat.beq ra.1 ra.2 && (Nat.beq rb.1 rb.2 && Nat.beq ra.1 rb.1) then none
         else some (bif Nat.beq rb.1 rb.2 then ax_cut σ a (bif Nat.beq ra.1 rb.1 then ra.1 + 1 else ra.1) (bif Nat.beq ra.2 rb.1 then ra.2 - 1 else ra.2) else σ)))))
noncomputable def ax_two (x y : RS) : RS := ob x (fun l => ob y (fun l' => some (l ++ l')))
noncomputable def ax_go (o : Option AS) (go : AS → RS) : RS := Option.rec (motive := fun _ => RS) (some []) go o
noncomputable def ax_br (r : Option (Option AS × Option AS)) (gt gf : AS → RS) : RS := ob r (fun q => ax_two (ax_go q.1 gt) (ax_go q.2 gf))
/-- the six conditions: 0 eq, 1 ne, 2 lt, 3 ge, 4 gt, 5 le -/
noncomputable def ax_cnd (c : Nat) (σ : AS) (a b : AV) (gt gf : AS → RS) : RS :=
  bif Nat.ble c 1 then (bif Nat.beq c 0 then ax_br (ax_eq σ a b) gt gf else ax_br (ax_eq σ a b) gf gt)
  else bif Nat.ble c 3 then (bif Nat.beq c 2 then ax_br (ax_lt σ a b) gt gf else ax_br (ax_lt σ a b) gf gt)
  else (bif Nat.beq c 4 then ax_br (ax_lt σ b a) gt gf else ax_br (ax_lt σ b a) gf gt)
noncomputable def ax_sw (go : Nat → AS → RS) (v : AV) (d : Nat) (ks : List Nat) : AS → RS := match ks with
  | k :: t :: r => fun σ => ax_br (ax_eq σ v (0, k)) (go t) (ax_sw go v d r)
  | _ => go d
noncomputable def ax_all (l : List RS) : RS := List.rec (motive := fun _ => RS) (some []) (fun x _ ih => ax_two x ih) l
noncomputable def ax_jmp (tab : List ME) (pc : Nat) : List ME := List.rec (motive := fun _ => List ME) [] (fun e t ih => bif Nat.beq e.1 pc then e :: t else ih) tab
