/-! PLAIN RUNS, 1: a machine over whole numbers. A value is a pair of a tag and a number: 0 an int, 1 a long, 2 a cell, 6 an old cell, 7 what is not looked into. -/
abbrev ZV : Type := Nat × Int
abbrev ZL : Type := List (Nat × ZV)
abbrev ZS : Type := Nat × PH × ZL × List ZV
def R32 (z : Int) : Prop := -2147483648 ≤ z ∧ z ≤ 2147483647
def R64 (z : Int) : Prop := -9223372036854775808 ≤ z ∧ z ≤ 9223372036854775807
def w32 (z : Int) : Int := (Int32.ofInt z).toInt
def w64 (z : Int) : Int := (Int64.ofInt z).toInt
def zand (a b : Int) : Int := (Int32.ofInt a &&& Int32.ofInt b).toInt
def zor (a b : Int) : Int := (Int32.ofInt a ||| Int32.ofInt b).toInt
def zxor (a b : Int) : Int := (Int32.ofInt a ^^^ Int32.ofInt b).toInt
def zshl (a b : Int) : Int := (Int32.ofInt a <<< (Int32.ofInt b &&& 31)).toInt
def zshr (a b : Int) : Int := (Int32.ofInt a >>> (Int32.ofInt b &&& 31)).toInt
def zush (a b : Int) : Int := (ax_fop 8 (Int32.ofInt a) (Int32.ofInt b)).toInt
def z_ib (op : Nat) (a b : Int) : Int := match op with
  | 0 => w32 (a + b)
  | 1 => w32 (a - b)
  | 2 => w32 (a * b)
  | 3 => zand a b
  | 4 => zor a b
  | 5 => zxor a b
  | 6 => zshl a b
  | 7 => zshr a b
  | _ => zush a b
def zdiv (a b : Int) : Int := (Int32.ofInt a / Int32.ofInt b).toInt
def zrem (a b : Int) : Int := (Int32.ofInt a - Int32.ofInt a / Int32.ofInt b * Int32.ofInt b).toInt
def zland (a b : Int) : Int := (Int64.ofInt a &&& Int64.ofInt b).toInt
def zlor (a b : Int) : Int := (Int64.ofInt a ||| Int64.ofInt b).toInt
def z_lb (op : Nat) (a b : Int) : Int := match op with
  | 0 => w64 (a + b)
  | 1 => w64 (a - b)
  | 2 => w64 (a * b)
  | 3 => zland a b
  | _ => zlor a b
def zldiv (a b : Int) : Int := (Int64.ofInt a / Int64.ofInt b).toInt
def zlrem (a b : Int) : Int := (Int64.ofInt a - Int64.ofInt a / Int64.ofInt b * Int64.ofInt b).toInt
def zlshl (a b : Int) : Int := (Int64.ofInt a <<< ((Int32.ofInt b).toInt64 &&& 63)).toInt
def zcmp (a b : Int) : Int := if a < b then -1 else if b < a then 1 else 0
def zi2b (a : Int) : Int := (Int32.ofInt a).toInt8.toInt32.toInt
def zi2s (a : Int) : Int := (Int32.ofInt a).toInt16.toInt32.toInt
def zi2c (a : Int) : Int := ((Int32.ofInt a).toUInt32 % 65536).toInt32.toInt
def z_un (op : Nat) (a : Int) : Int := match op with
  | 0 => zi2b a
  | 1 => zi2s a
  | 2 => zi2c a
  | _ => w32 (-a)
def zl2i (a : Int) : Int := (Int64.ofInt a).toInt32.toInt
def zcp (k : Nat) (a b : Int) : Prop := match k with
  | 0 => a = b
  | 1 => a ≠ b
  | 2 => a < b
  | 3 => b ≤ a
  | 4 => b < a
  | _ => a ≤ b
def zmin (a b : Int) : Int := if b < a then b else a
def zmax (a b : Int) : Int := if a < b then b else a
noncomputable def lcr {α R : Type} (bot : R) (l : List α) (k : α → List α → R) : R := List.rec (motive := fun _ => R) bot (fun x t _ => k x t) l
noncomputable def obr {α R : Type} (bot : R) (o : Option α) (k : α → R) : R := Option.rec (motive := fun _ => R) bot k o
noncomputable def gdr {R : Type} (bot : R) (b : Bool) (x : R) : R := Bool.rec (motive := fun _ => R) bot x b
noncomputable def zlk (lv : ZL) (i : Nat) : Option ZV := List.rec (motive := fun _ => Option ZV) none (fun q _ ih => bif Nat.beq q.1 i then some q.2 else ih) lv
def zk1 (i : Nat) : Nat × ZV → Bool := fun q => !(Nat.beq q.1 i) && !(Nat.beq (q.1 + 1) i && Nat.beq q.2.1 1)
def zk2 (i : Nat) : Nat × ZV → Bool := fun q => !(Nat.beq q.1 i) && (!(Nat.beq q.1 (i + 1)) && !(Nat.beq (q.1 + 1) i && Nat.beq q.2.1 1))
noncomputable def zfl (p : Nat × ZV → Bool) (l : ZL) : ZL := List.rec (motive := fun _ => ZL) [] (fun x _ ih => bif p x then x :: ih else ih) l
noncomputable def z32 (n : Nat) : Int := bif Nat.blt n 2147483648 then Int.ofNat n else bif Nat.blt n 4294967296 then Int.negSucc (4294967295 - n) else (nI n).toInt
noncomputable def z64 (n : Nat) : Int := bif Nat.blt n 9223372036854775808 then Int.ofNat n else bif Nat.blt n 18446744073709551616 then Int.negSucc (18446744073709551615 - n) else (lN n).toInt
def ztI (t : Nat) : Bool := Nat.beq t 0
def ztL (t : Nat) : Bool := Nat.beq t 1
def ztR (t : Nat) : Bool := Nat.beq t 2 || (Nat.beq t 6 || Nat.beq t 7)
def zc (v : ZV) : Nat := v.2.toNat
def z_args (n : Nat) (st acc : List ZV) : Option (List ZV × List ZV) := match n with
  | 0 => some (acc, st)
  | k + 1 => match st with
    | v :: r => z_args k r (v :: acc)
    | [] => none
def z_locs (i : Nat) (l : List ZV) : ZL := match l with
  | [] => []
  | v :: r => (i, v) :: z_locs (bif Nat.beq v.1 1 then i + 2 else i + 1) r
section ZM
variable {R : Type} (bot : R) (br : Prop → R → R → R) (as : Prop → R → R) (cl : MR → PH → List ZV → (PH → List ZV → R) → R) (sh : SHP) (sb : Nat → List Nat) (sl : Nat) (si : Nat → Int) (fm : ZV)
noncomputable def z_psh (lk : List Nat) (kk : ZV → R) : R := lcr bot lk (fun t lk => lcr bot lk (fun n _ =>
    bif Nat.beq t 0 then kk (0, z32 n) else bif Nat.beq t 1 then kk (1, z64 n) else kk (6, Int.ofNat n)))
/-- 0 to 7 -/
noncomputable def z_b0 (op : Nat) (lk : List Nat) (lv : ZL) (st : List ZV) (kk : ZL → List ZV → R) : R :=
  bif Nat.ble op 3 then (bif Nat.beq op 0 then z_psh bot lk (fun v => kk lv (v :: st)) else lcr bot lk (fun i _ => obr bot (zlk lv i) (fun v => gdr bot ((bif Nat.beq op 1 then ztI else bif Nat.beq op 2 then ztL else ztR) v.1) (kk lv (v :: st)))))
  else bif Nat.ble op 6 then lcr bot lk (fun i _ => lcr bot st (fun v r => gdr bot (bif Nat.beq op 4 then ztI v.1 else bif Nat.beq op 5 then ztL v.1 else ztR v.1) (kk ((i, v) :: zfl (bif Nat.beq op 5 then zk2 i else zk1 i) lv) r)))
  else lcr bot lk (fun i lk => lcr bot lk (fun n _ => obr bot (zlk lv i) (fun v => gdr bot (Nat.beq v.1 0) (kk ((i, (0, w32 (v.2 + z32 n))) :: zfl (zk1 i) lv) st))))
noncomputable def z_getf (lk : List Nat) (h : PH) (st : List ZV) (kk : List ZV → R) : R := lcr bot lk (fun ci lk => lcr bot lk (fun k _ => lcr bot st (fun a r =>
    bif Nat.beq a.1 2 then obr bot (ax_nth sh (zc a)) (fun q => gdr bot (Nat.beq q.1 ci && Nat.blt ci 100) (obr bot (ax_nth q.2.2 k) (fun f => bif Nat.beq f.1 0 then as (R32 (h (zc a) k)) (kk ((0, h (zc a) k) :: r)) else bif Nat.beq f.1 1 then as (R64 (h (zc a) k)) (kk ((1, h (zc a) k) :: r)) else gdr bot (Nat.beq f.1 2) (kk ((2, Int.ofNat f.2) :: r)))))
    else gdr bot (Nat.beq a.1 6 && Nat.beq ci 200) (bif Nat.beq k 0 then kk ((6, a.2 + 1) :: r) else kk ((0, 0) :: r)))))
noncomputable def z_putf (lk : List Nat) (h : PH) (st : List ZV) (kk : PH → List ZV → R) : R := lcr bot lk (fun ci lk => lcr bot lk (fun k lk => lcr bot lk (fun tc _ => lcr bot st (fun v st => lcr bot st (fun a r => gdr bot (Nat.beq a.1 2) (obr bot (ax_nth sh (zc a)) (fun q => gdr bot (Nat.beq q.1 ci && Nat.blt ci 100) (kk (uph h (zc a) k v.2) r))))))))
noncomputable def z_sel (i : Int) (kk : ZV → R) (fs : List (Nat × Nat)) : Nat → R := List.rec (motive := fun _ => Nat → R) (fun _ => bot) (fun f _ ih j => br (i = Int.ofNat j) (kk (2, Int.ofNat f.2)) (ih (j + 1))) fs
/-- array loads: kinds 100 int, 101 long, 102 byte, 103 references -/
noncomputable def z_ald (kd : Nat) (h : PH) (st : List ZV) (kk : List ZV → R) : R := lcr bot st (fun i st' => lcr bot st' (fun a r => gdr bot (Nat.beq i.1 0) (
    bif Nat.beq a.1 2 then obr bot (ax_nth sh (zc a)) (fun q =>
      bif Nat.beq kd 103 then gdr bot (Nat.ble 103 q.1) (z_sel bot br i.2 (fun v => kk (v :: r)) q.2.2 0)
      else gdr bot (Nat.beq q.1 kd) (as (0 ≤ i.2 ∧ i.2 < q.2.1) (bif Nat.beq kd 101 then as (R64 (h (zc a) i.2.toNat)) (kk ((1, h (zc a) i.2.toNat) :: r)) else as (R32 (h (zc a) i.2.toNat)) (kk ((0, h (zc a) i.2.toNat) :: r)))))
    else gdr bot (Nat.beq a.1 6) (bif Nat.beq (zc a) 0 then gdr bot (Nat.beq kd 100) (as (0 ≤ i.2 ∧ i.2 < sl) (as (R32 (si i.2.toNat)) (kk ((0, si i.2.toNat) :: r))))
      else gdr bot (Nat.beq kd 102) (as (0 ≤ i.2 ∧ i.2 < (sb (zc a)).length) (kk ((0, z32 ((sb (zc a)).getD i.2.toNat 0)) :: r)))))))
noncomputable def z_ast (kd : Nat) (h : PH) (st : List ZV) (kk : PH → List ZV → R) : R := lcr bot st (fun v st => lcr bot st (fun i st' => lcr bot st' (fun a r => gdr bot (Nat.beq i.1 0 && Nat.beq a.1 2) (obr bot (ax_nth sh (zc a)) (fun q =>
    gdr bot (Nat.beq q.1 kd) (as (0 ≤ i.2 ∧ i.2 < q.2.1) (kk (uph h (zc a) i.2.toNat v.2) r)))))))
noncomputable def z_alen (a : ZV) (kk : ZV → R) : R :=
  bif Nat.beq a.1 2 then obr bot (ax_nth sh (zc a)) (fun q => kk (0, z32 q.2.1))
  else gdr bot (Nat.beq a.1 6) (bif Nat.beq (zc a) 0 then kk (0, z32 sl) else kk (0, z32 (sb (zc a)).length))
/-- switches -/
noncomputable def z_sw (x : Int) (go : Nat → R) (d : Nat) (ks : List Nat) : R := match ks with
  | k :: t :: r => br (x = z32 k) (go t) (z_sw x go d r)
  | _ => go d
noncomputable def z_inv (mt : Nat → Nat → Option MR) (lk : List Nat) (h : PH) (st : List ZV) (go : PH → List ZV → R) : R := lcr bot lk (fun x lk1 =>
    bif Nat.beq x 901 then lcr bot st (fun n st => lcr bot st (fun dp st => lcr bot st (fun d st => lcr bot st (fun sq st => lcr bot st (fun s r => gdr bot (Nat.beq d.1 2 && Nat.beq s.1 2)
      (as (0 ≤ sq.2 ∧ 0 ≤ dp.2 ∧ 0 ≤ n.2) (go (cph h (zc s) (zc d) sq.2.toNat dp.2.toNat n.2.toNat) r)))))))
    else bif Nat.beq x 902 then lcr bot st (fun b st => lcr bot st (fun a r => go h ((0, zmin a.2 b.2) :: r)))
    else bif Nat.beq x 903 then lcr bot st (fun b st => lcr bot st (fun a r => go h ((0, zmax a.2 b.2) :: r)))
    else lcr bot lk1 (fun b _ => obr bot (mt x b) (fun C => obr bot (z_args C.2.2.2.2.2.1 st []) (fun q => cl C h q.1 (fun h' r => go h' (r ++ q.2))))))
noncomputable def z_bin (t : Nat) (f : Int → Int → Int) (st : List ZV) (kk : List ZV → R) : R := lcr bot st (fun b st => lcr bot st (fun a r => gdr bot (Nat.beq a.1 t && Nat.beq b.1 t) (kk ((t, f a.2 b.2) :: r))))
noncomputable def z_dv (t : Nat) (f : Int → Int → Int) (st : List ZV) (kk : List ZV → R) : R := lcr bot st (fun b st => lcr bot st (fun a r => gdr bot (Nat.beq a.1 t && Nat.beq b.1 t) (as (b.2 ≠ 0) (kk ((t, f a.2 b.2) :: r)))))
/-- 26 to 52, 59 to 61 -/
noncomputable def z_b3 (op : Nat) (st : List ZV) (kk : List ZV → R) : R :=
  bif Nat.ble op 34 then z_bin bot 0 (z_ib (op - 26)) st kk
  else bif Nat.beq op 35 then z_dv bot as 0 zdiv st kk
  else bif Nat.beq op 36 then z_dv bot as 0 zrem st kk
  else bif Nat.ble op 41 then z_bin bot 1 (z_lb (op - 37)) st kk
  else bif Nat.beq op 42 then lcr bot st (fun b st => lcr bot st (fun a r => gdr bot (Nat.beq a.1 1 && Nat.beq b.1 0) (kk ((1, zlshl a.2 b.2) :: r))))
  else bif Nat.beq op 43 then lcr bot st (fun b st => lcr bot st (fun a r => gdr bot (Nat.beq a.1 1 && Nat.beq b.1 1) (kk ((0, zcmp a.2 b.2) :: r))))
  else bif Nat.ble op 47 then lcr bot st (fun a r => gdr bot (Nat.beq a.1 0) (kk ((0, z_un (op - 44) a.2) :: r)))
  else bif Nat.beq op 48 then lcr bot st (fun a r => gdr bot (Nat.beq a.1 0) (kk ((1, a.2) :: r)))
  else bif Nat.beq op 49 then lcr bot st (fun a r => gdr bot (Nat.beq a.1 1) (kk ((0, zl2i a.2) :: r)))
  else bif Nat.ble op 52 then lcr bot st (fun a r => bif Nat.beq op 50 then gdr bot (!(Nat.beq a.1 1)) (kk (a :: a :: r))
    else bif Nat.beq op 51 then (bif Nat.beq a.1 1 then kk (a :: a :: r) else lcr bot r (fun b r' => gdr bot (!(Nat.beq b.1 1)) (kk (a :: b :: a :: b :: r'))))
    else gdr bot (!(Nat.beq a.1 1)) (kk r))
  else bif Nat.beq op 59 then lcr bot st (fun a r => gdr bot (Nat.beq a.1 1) (kk r))
  else bif Nat.beq op 60 then z_dv bot as 1 zldiv st kk
  else z_dv bot as 1 zlrem st kk
noncomputable def z_st (mt : Nat → Nat → Option MR) (e : ME) (h : PH) (lv : ZL) (st : List ZV) (nx : PH → ZL → List ZV → R) (jp : Nat → PH → ZL → List ZV → R) : R :=
    bif Nat.ble e.2.1 7 then z_b0 bot e.2.1 e.2.2.2.1 lv st (fun lv' st' => nx h lv' st')
     else bif Nat.ble e.2.1 17 then (bif Nat.beq e.2.1 8 then z_getf bot as sh e.2.2.2.1 h st (fun st' => nx h lv st')
       else bif Nat.beq e.2.1 9 then z_putf bot sh e.2.2.2.1 h st (fun h' st' => nx h' lv st')
       else bif Nat.ble e.2.1 13 then z_ald bot br as sh sb sl si (e.2.1 + 90) h st (fun st' => nx h lv st')
       else gdr bot (Nat.ble e.2.1 16) (z_ast bot as sh (e.2.1 + 86) h st (fun h' st' => nx h' lv st')))
     else bif Nat.ble e.2.1 25 then (bif Nat.ble e.2.1 19 then lcr bot e.2.2.2.1 (fun t lk => lcr bot lk (fun c _ =>
           (bif Nat.beq e.2.1 18 then lcr bot st (fun b st => lcr bot st (fun a r => gdr bot (Nat.beq a.1 0 && Nat.beq b.1 0) (br (zcp c a.2 b.2) (jp t h lv r) (nx h lv r))))
            else lcr bot st (fun a r => gdr bot (Nat.beq a.1 0) (br (zcp c a.2 0) (jp t h lv r) (nx h lv r))))))
       else bif Nat.beq e.2.1 20 then lcr bot e.2.2.2.1 (fun t _ => jp t h lv st)
       else gdr bot (Nat.beq e.2.1 21) (z_inv bot as cl mt e.2.2.2.1 h st (fun h' st' => nx h' lv st')))
     else bif Nat.ble e.2.1 52 then z_b3 bot as e.2.1 st (fun st' => nx h lv st')
     else bif Nat.beq e.2.1 53 then lcr bot st (fun a r => z_alen bot sh sb sl a (fun v => nx h lv (v :: r)))
     else bif Nat.beq e.2.1 56 then lcr bot e.2.2.2.1 (fun x _ => bif Nat.beq x 0 then nx h lv ((0, 1) :: st) else nx h lv (fm :: st))
     else bif Nat.beq e.2.1 57 then lcr bot st (fun v r => gdr bot (Nat.beq v.1 0) (lcr bot e.2.2.2.1 (fun d lk => lcr bot lk (fun lo lk => lcr bot lk (fun hi ks => br (v.2 < z32 lo ∨ z32 hi < v.2) (jp d h lv r) (z_sw br v.2 (fun t => jp t h lv r) d ks))))))
     else bif Nat.beq e.2.1 58 then lcr bot st (fun v r => gdr bot (Nat.beq v.1 0) (lcr bot e.2.2.2.1 (fun d ks => z_sw br v.2 (fun t => jp t h lv r) d ks)))
     else gdr bot (Nat.ble 59 e.2.1 && Nat.ble e.2.1 61) (z_b3 bot as e.2.1 st (fun st' => nx h lv st'))
end ZM
