/-! THE ABSTRACT MACHINE, 6: what an entry must say -/
def sSTR : String := "java/lang/String"
def sPRE : String := "jdk/internal/util/Preconditions"
def tx1 : String := "house salt door person in dead deaf keeps owes heir night die forgive sweep forge to any when labour rest at loop end stop "
def tx3 : String := " house door person owes heir salt in dead deaf keeps night die forgive sweep forge any to when loop end stop labour rest at "
def ax_cc (c : ClassFile.Cond) : Nat := match c with
  | .eq => 0
  | .ne => 1
  | .lt => 2
  | .ge => 3
  | .gt => 4
  | .le => 5
def ax_len (ins : Instr) : Nat := match ins with
  | .bipush _ => 2
  | .sipush _ => 3
  | .ldc _ => 2
  | .ldc_w _ => 3
  | .ldc2_w _ => 3
  | .iload _ => 2
  | .lload _ => 2
  | .aload _ => 2
  | .istore _ => 2
  | .lstore _ => 2
  | .astore _ => 2
  | .iinc _ _ => 3
  | .getfield _ => 3
  | .putfield _ => 3
  | .if_icmp _ _ => 3
  | .ifCond _ _ => 3
  | .goto _ => 3
  | .invokevirtual _ => 3
  | .invokespecial _ => 3
  | .invokestatic _ => 3
  | .new _ => 3
  | .newarray _ => 2
  | .anewarray _ => 3
  | .getstatic _ => 3
  | _ => 1
/-- the type code of a field -/
def ax_ty (d : String) : Nat := match parseFieldDescriptor d with
  | some .int => 0
  | some .boolean => 1
  | some .long => 2
  | some (.object _) => 3
  | some (.array _) => 3
  | _ => 9
/-- keys and targets of a switch -/
def ax_sk (f : Nat → Nat → Bool) (ks : List Nat) : Bool := match ks with
  | [] => true
  | [_] => false
  | k :: t :: r => f k t && ax_sk f r
def ax_key (k : Nat) (ks : List Nat) : Bool := match ks with
  | a :: _ :: r => Nat.beq a k || ax_key k r
  | _ => false
noncomputable def lok (mt : Nat → Nat → Option MR) (M : MR) (pc : Nat) (ins : Instr) (lk : List Nat) : Bool := match ins with
  | .iconst i => (match lk with
    | t :: n :: _ => Nat.beq t 0 && decide (Int32.ofInt i = nI n)
    | _ => false)
  | .bipush i => (match lk with
    | t :: n :: _ => Nat.beq t 0 && decide ((Int8.ofInt i).toInt32 = nI n)
    | _ => false)
  | .sipush i => (match lk with
    | t :: n :: _ => Nat.beq t 0 && decide ((Int16.ofInt i).toInt32 = nI n)
    | _ => false)
  | .lconst i => (match lk with
    | t :: n :: _ => Nat.beq t 1 && decide (Int64.ofNat (i : Nat) = lN n)
    | _ => false)
  | .ldc idx => (match lk with
    | t :: n :: c :: j :: _ => bif Nat.beq t 0 then wdq c j (.constant M.1.cls idx (nI n)) else Nat.beq t 6 && ((Nat.beq n 1 && (decide (M.1.cls = RX9) && Nat.beq idx 51)) || (Nat.beq n 3 && (decide (M.1.cls = RX12) && Nat.beq idx 171)))
    | _ => false)
  | .ldc_w idx => (match lk with
    | t :: n :: c :: j :: _ => Nat.beq t 0 && wdq c j (.constant M.1.cls idx (nI n))
    | _ => false)
  | .ldc2_w idx => (match lk with
    | t :: n :: c :: j :: _ => Nat.beq t 1 && wdq c j (.constantLong M.1.cls idx (lN n))
    | _ => false)
  | .iload i => (match lk with
    | k :: _ => Nat.beq i k
    | _ => false)
  | .lload i => (match lk with
    | k :: _ => Nat.beq i k
    | _ => false)
  | .aload i => (match lk with
    | k :: _ => Nat.beq i k
    | _ => false)
  | .iload_n i => (match lk with
    | k :: _ => Nat.beq (i : Nat) k
    | _ => false)
  | .lload_n i => (match lk with
    | k :: _ => Nat.beq (i : Nat) k
    | _ => false)
  | .aload_n i => (match lk with
    | k :: _ => Nat.beq (i : Nat) k
    | _ => false)
  | .istore i => (match lk with
    | k :: _ => Nat.beq i k && Nat.blt k M.2.2.1
    | _ => false)
  | .lstore i => (match lk with
    | k :: _ => Nat.beq i k && Nat.blt (k + 1) M.2.2.1
    | _ => false)
  | .astore i => (match lk with
    | k :: _ => Nat.beq i k && Nat.blt k M.2.2.1
    | _ => false)
  | .istore_n i => (match lk with
    | k :: _ => Nat.beq (i : Nat) k && Nat.blt k M.2.2.1
    | _ => false)
  | .lstore_n i => (match lk with
    | k :: _ => Nat.beq (i : Nat) k && Nat.blt (k + 1) M.2.2.1
    | _ => false)
  | .astore_n i => (match lk with
    | k :: _ => Nat.beq (i : Nat) k && Nat.blt k M.2.2.1
    | _ => false)
  | .iinc i n => (match lk with
    | k :: n' :: _ => Nat.beq i k && (decide (Int32.ofInt n = nI n') && Nat.blt k M.2.2.1)
    | _ => false)
  | .getfield idx => (match lk with
    | ci :: k :: c :: j :: _ => bif Nat.beq ci 200 then (bif Nat.beq k 0 then wdq c j (.fieldLink M.1.cls idx sSTR "value" "[B") else wdq c j (.fieldLink M.1.cls idx sSTR "coder" "B"))
      else (match vwCl[ci]? with
        | some q => Nat.blt k q.2.2 && wdq c j (.fieldLink M.1.cls idx (q.2.1 k).1 (q.2.1 k).2.1 (q.2.1 k).2.2.1)
        | none => false)
    | _ => false)
  | .putfield idx => (match lk with
    | ci :: k :: tc :: c :: j :: _ => (match vwCl[ci]? with
        | some q => Nat.blt k q.2.2 && (wdq c j (.fieldLink M.1.cls idx (q.2.1 k).1 (q.2.1 k).2.1 (q.2.1 k).2.2.1) && (Nat.beq (ax_ty (q.2.1 k).2.2.1) tc && (!(q.2.1 k).2.2.2 || (decide (M.1.name = "<init>") && decide ((q.2.1 k).1 = M.1.cls)))))
        | none => false)
    | _ => false)
  | .if_icmp c off => (match lk with
    | t :: k :: _ => decide ((pc : Int) + off = (t : Int)) && Nat.beq k (ax_cc c)
    | _ => false)
  | .ifCond c off => (match lk with
    | t :: k :: _ => decide ((pc : Int) + off = (t : Int)) && Nat.beq k (ax_cc c)
    | _ => false)
  | .goto off => (match lk with
    | t :: _ => decide ((pc : Int) + off = (t : Int))
    | _ => false)
  | .new idx => (match lk with
    | ci :: n :: c1 :: j1 :: c2 :: j2 :: c3 :: j3 :: ts => (match vwCl[ci]? with
        | some q => Nat.beq n q.2.2 && (wdq c1 j1 (.classLink M.1.cls idx q.1) && (wdq c2 j2 (.instantiable q.1 q.2.2) && (wdq c3 j3 (.initialized q.1) && (Nat.blt ci 100 && (Nat.beq ts.length n && (List.range n).all (fun k => match ax_ty (q.2.1 k).2.2.1 with
          | 0 => decide (ts[k]? = some 0)
          | 1 => decide (ts[k]? = some 0)
          | 2 => decide (ts[k]? = some 1)
          | 3 => decide (ts[k]? = some 3)
          | _ => false))))))
        | none => false)
    | _ => false)
  | .newarray t => (match lk with
    | kd :: tg :: c :: j :: _ => (match t with
      | .int => Nat.beq kd 100 && (Nat.beq tg 0 && wdq c j (.arrayClass .int))
      | .long => Nat.beq kd 101 && (Nat.beq tg 1 && wdq c j (.arrayClass .long))
      | .byte => Nat.beq kd 102 && (Nat.beq tg 0 && wdq c j (.arrayClass .byte))
      | _ => false)
    | _ => false)
  | .anewarray idx => (match lk with
    | kd :: tg :: c :: j :: _ => Nat.beq tg 3 && ((Nat.beq kd 103 && wdq c j (.classLink M.1.cls idx RX10)) || ((Nat.beq kd 104 && wdq c j (.classLink M.1.cls idx RX1)) || (Nat.beq kd 105 && wdq c j (.classLink M.1.cls idx RX7))))
    | _ => false)
  | .getstatic idx => (match lk with
    | x :: c :: j :: _ => bif Nat.beq x 0 then wdq c j (.fieldLink M.1.cls idx sSTR "COMPACT_STRINGS" "Z") else wdq c j (.fieldLink M.1.cls idx sPRE "SIOOBE_FORMATTER" "Ljava/util/function/BiFunction;")
    | _ => false)
  | .tableswitch d lo hi offs => (match lk with
    | d' :: l :: h :: ks => decide ((pc : Int) + d = (d' : Int)) && (decide ((nI l).toInt = lo) && (decide ((nI h).toInt = hi) && (Nat.blt l 4294967296 && (Nat.blt h 4294967296 && (ax_sk (fun k t => Nat.blt k 4294967296 && match offs[((nI k).toInt - lo).toNat]? with
        | some o => decide ((pc : Int) + o = (t : Int)) && (decide (lo ≤ (nI k).toInt) && decide ((nI k).toInt ≤ hi))
        | none => false) ks && (List.range (hi - lo + 1).toNat).all (fun i => ax_key ((lo + i).toNat) ks && decide (0 ≤ lo)))))))
    | _ => false)
  | .lookupswitch d ps => (match lk with
    | d' :: ks => decide ((pc : Int) + d = (d' : Int)) && ((ps.toList.zip (ps.toList.drop 1)).all (fun (a, next) => a.1 < next.1) && (ax_sk (fun k t => Nat.blt k 4294967296 && decide ((pc : Int) + Op.lookupswitch.offset ps.toList d (nI k).toInt = (t : Int))) ks && ps.toList.all (fun p => decide (0 ≤ p.1 ∧ p.1 < 2147483648) && ax_key p.1.toNat ks)))
    | _ => false)
  | .invokevirtual idx => (match lk with
    | a :: b :: kc :: ci :: m1 :: m2 :: i1 :: i2 :: s1 :: s2 :: n1 :: n2 :: _ => (match mt a b with
      | some C => Nat.beq kc 0 && (wdq m1 m2 (.methodLink M.1.cls idx C.1) && (wdq i1 i2 (.instanceMethod C.1) && (wdq s1 s2 (.selects C.1.cls C.1 C.1) && (wdq n1 n2 (.initialized C.1.cls) && ((bif Nat.beq ci 200 then decide (C.1.cls = sSTR) else decide (vwCl[ci]?.map (fun q => q.1) = some C.1.cls)) && (decide (C.1.cls ≠ "java/lang/invoke/MethodHandle" ∧ C.1.cls ≠ "java/lang/invoke/VarHandle" ∧ (parseMethodDescriptor C.1.desc).map (fun d => d.parameters.length) = some (C.2.2.2.2.2.1 - 1)) && (Nat.ble 1 C.2.2.2.2.2.1 && (!(Nat.beq a 900) && (!(Nat.beq a 901) && !(Nat.beq a 902))))))))))
      | none => false)
    | _ => false)
  | .invokespecial idx => (match lk with
    | a :: l1 => bif Nat.beq a 900 then (match l1 with
        | m1 :: m2 :: i1 :: i2 :: c1 :: c2 :: _ => wdq m1 m2 (.methodLink M.1.cls idx objectInit) && (wdq i1 i2 (.instanceMethod objectInit) && wdq c1 c2 (.code objectInit ⟨#[0xb1]⟩ 1 none))
        | _ => false) else (match l1 with
        | b :: kc :: ci :: m1 :: m2 :: i1 :: i2 :: n1 :: n2 :: ne :: _ => (match mt a b with
          | some C => Nat.beq kc 1 && ((bif Nat.beq ne 0 then wdq m1 m2 (.methodLink M.1.cls idx C.1) else wdn m1 m2 (.methodLinkNest M.1.cls idx C.1 RX11)) && (wdq i1 i2 (.instanceMethod C.1) && (wdq n1 n2 (.initialized C.1.cls) && (decide (C.1.cls ≠ "java/lang/invoke/MethodHandle" ∧ C.1.cls ≠ "java/lang/invoke/VarHandle" ∧ (parseMethodDescriptor C.1.desc).map (fun d => d.parameters.length) = some (C.2.2.2.2.2.1 - 1)) && (Nat.ble 1 C.2.2.2.2.2.1 && (decide (C.1.name = "<init>") && (decide (C.2.2.2.1 = none) && (!(Nat.beq a 901) && !(Nat.beq a 902)))))))))
          | none => false)
        | _ => false)
    | _ => false)
  | .invokestatic idx => (match lk with
    | a :: l1 => bif Nat.beq a 901 then (match l1 with
        | m1 :: m2 :: i1 :: i2 :: s1 :: s2 :: n1 :: n2 :: _ => wdq m1 m2 (.methodLink M.1.cls idx arraycopyName) && (wdq i1 i2 (.native arraycopyName) && (wdq s1 s2 (.static arraycopyName) && wdq n1 n2 (.initialized "java/lang/System")))
        | _ => false) else bif Nat.beq a 902 then (match l1 with
        | m1 :: m2 :: s1 :: s2 :: n1 :: n2 :: c1 :: c2 :: _ => wdq m1 m2 (.methodLink M.1.cls idx Lib.Math.min.name) && (wdq s1 s2 (.static Lib.Math.min.name) && (wdq n1 n2 (.initialized "java/lang/Math") && wdq c1 c2 (.code Lib.Math.min.name Lib.Math.min.code 2 (some .int))))
        | _ => false) else (match l1 with
        | b :: kc :: ci :: m1 :: m2 :: i1 :: i2 :: n1 :: n2 :: ne :: _ => (match mt a b with
          | some C => Nat.beq kc 2 && ((bif Nat.beq ne 0 then wdq m1 m2 (.methodLink M.1.cls idx C.1) else wdn m1 m2 (.methodLinkNest M.1.cls idx C.1 RX11)) && (wdq i1 i2 (.static C.1) && (wdq n1 n2 (.initialized C.1.cls) && (decide (C.1.cls ≠ "java/lang/invoke/MethodHandle" ∧ C.1.cls ≠ "java/lang/invoke/VarHandle" ∧ (parseMethodDescriptor C.1.desc).map (fun d => d.parameters.length) = some C.2.2.2.2.2.1) && !(Nat.beq a 900)))))
          | none => Nat.beq a 903 && (wdq b kc (.methodLink M.1.cls idx Lib.Math.max.name) && (wdq ci m1 (.static Lib.Math.max.name) && (wdq m2 i1 (.initialized "java/lang/Math") && wdq i2 n1 (.code Lib.Math.max.name Lib.Math.max.code 2 (some .int))))))
        | _ => false)
    | _ => false)
  | _ => true
/-- an entry is right -/
noncomputable def eok (mt : Nat → Nat → Option MR) (M : MR) (e : ME) : Bool := decide (decode M.2.1 e.1 = .ok (e.2.2.2.2, e.2.2.1)) && (Nat.beq e.2.1 (ax_op e.2.2.2.2) && ((Nat.ble 57 e.2.1 || Nat.beq e.2.2.1 (ax_len e.2.2.2.2)) && lok mt M e.1 e.2.2.2.2 e.2.2.2.1))
def Mok (mt : Nat → Nat → Option MR) (M : MR) : Prop := ∀ e ∈ M.2.2.2.2.2.2, eok mt M e = true
def Mcw (M : MR) : Prop := Cond.code M.1 M.2.1 M.2.2.1 M.2.2.2.1 ∈ GW ∧ plainName M.1.cls = true
