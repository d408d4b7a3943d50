/-! THE ABSTRACT MACHINE, 7: the context of a method's walk -/
def ax_tys (dA : Nat → ClassId) : List (ClassId × FieldType) := [(dA 100, .int), (dA 101, .long), (dA 102, .byte), (dA 103, .object RX10), (dA 104, .object RX1), (dA 105, .object RX7)]
abbrev aA (H0 : Heap) : Nat → Prop := fun q => H0.size ≤ q
/-- an old String and its bytes -/
def SO (sp : Nat → Nat) (sb : Nat → List Nat) (H0 : Heap) (x : Nat) (U : State) : Prop := va_O sSTR (sp x) (aA H0) U H0 ∧ va_OF sSTR "coder" "B" (.int 0) (sp x) (aA H0) U H0 ∧ va_OF sSTR "value" "[B" (.ref (sp (x + 1))) (sp x) (aA H0) U H0 ∧ va_T .byte (sp (x + 1)) (sb (x + 1)).length (fun j => .int (nI ((sb (x + 1)).getD j 0))) (aA H0) U H0
def nestW : List Cond := lw_tbl.filter (fun w => match w with | .methodLinkNest _ _ _ _ => true | _ => false)
/-- the static that is given along -/
def vq (sp : Nat → Nat) : Value := match sp 900 with
  | 0 => .null
  | n + 1 => .ref n
theorem vq_cat (sp : Nat → Nat) : (vq sp).category = 1 := by
  unfold vq
  split <;> rfl
/-- what holds of old cells and of words that are kept in another way -/
def OX (sp : Nat → Nat) (sb : Nat → List Nat) (H0 : Heap) (ρ0 : List Nat) (U : State) : Prop :=
  (∃ (L : Nat) (xs : Nat → Int32), va_X (sp 0) L xs U H0 ∧ sp 0 < H0.size ∧ L < 2147483648 ∧ ρ0[6]? = some (L + 9223372036854775808) ∧ (∀ j, j < 6 → ρ0[j]? = some (zI (xs j))) ∧ ∀ j, j < L → sp (1000 + j) = zI (xs j)) ∧
  SO sp sb H0 1 U ∧ SO sp sb H0 3 U ∧ vk_R RX9 51 tx1 (sp 1) U ∧ vk_R RX12 171 tx3 (sp 3) U ∧
  va_Z sSTR "COMPACT_STRINGS" "Z" (.int 1) (aA H0) U H0 ∧ va_Z sPRE "SIOOBE_FORMATTER" "Ljava/util/function/BiFunction;" (vq sp) (aA H0) U H0 ∧
  va_AO RX10 U ∧ va_AO RX1 U ∧ va_AO RX7 U ∧ ∀ w ∈ nestW, va_Nw w U
theorem OX.warm {sp : Nat → Nat} {sb : Nat → List Nat} {H0 : Heap} {ρ0 ρ1 : List Nat} {s U : State} (hW : s.WarmedH U.vm) (hρ : Sb ρ0 ρ1) (h : OX sp sb H0 ρ0 s) : OX sp sb H0 ρ1 U := by
  obtain ⟨⟨L, xs, a1, a2, a3, a4, a5, a6⟩, b1, b3, c1, c3, d, e, f1, f2, f3, g⟩ := h
  have hv := hW.alike
  refine ⟨⟨L, xs, a1.moved hv, a2, a3, hρ _ _ a4, fun j hj => hρ _ _ (a5 j hj), a6⟩, ⟨b1.1.moved hv, b1.2.1.moved hv, b1.2.2.1.moved hv, b1.2.2.2.moved hv⟩, ⟨b3.1.moved hv, b3.2.1.moved hv, b3.2.2.1.moved hv, b3.2.2.2.moved hv⟩, c1.warm hW, c3.warm hW, d.moved hv, e.moved hv, f1.moved hv, f2.moved hv, f3.moved hv, fun w hw => ?_⟩
  have hw2 := (List.mem_filter.mp hw).2
  have hg := g w hw
  split at hw2
  · exact va_Nw.warmM hW hg
  · cases hw2
section CTX
variable (sb : Nat → List Nat) (mt : Nat → Nat → Option MR) (dC : Nat → ClassId) (dI : Nat → Nat → Nat) (dA : Nat → ClassId) (sp : Nat → Nat) (H0 : Heap) (l : Launch)
/-- the context: the machine, the method's code, the words, the classes, the room -/
def CX (ρ0 : List Nat) (M : MR) (p : Program) (R : Room) (s : State) (m : MethodId) (args : Array Value) (meth : Method) (c : Code) : Prop :=
  p.tables.exec = Jvm.exec ∧ c.code = M.2.1 ∧ c.maxLocals = M.2.2.1 ∧ s.vm.findClass M.1.cls = some m.cls ∧ (∀ w ∈ GW, w.before args s = true) ∧ va_K (dC, dI) vwCl (ax_tys dA) s ∧ meth.locks = false ∧ meth.sig.returnType = M.2.2.2.1 ∧ (M.1.name = "<init>" → meth.name = "<init>") ∧ R = M.2.2.2.2.1 ∧ OX sp sb H0 ρ0 s
/-- the goal at a state of the abstract machine -/
def GG (p : Program) (e : Env) (R : Room) (s : State) (m : MethodId) (args : Array Value) (below : List Frame) (meth : Method) (c : Code) (Q : State → Prop) (ρ0 ad0 : List Nat) (nL pc : Nat) (σ : AS) (h : AH) (nc ns : Nat) (lv : AL) (st : List AV) : Prop :=
  ∀ (ρ ad : List Nat) (ws : va_W) (H : Heap) (locs : List Loc) (ls : Array Slot) (LV : List (Nat × Value)) (ST : List Value), Sb ρ0 ρ → Sb ad0 ad → St ρ σ → Hr sp dA ρ ad h ws → va_P (dC, dI) vwCl ws H → va_D (aA H0) ws → va_S (aA H0) H0 H locs → Rl sp ρ ad lv LV → lv_has ls nL LV → Rs sp ρ ad st ST → W p l e R s m args below meth c H locs nc ns Q (F0 m pc ls ST)
/-- what stands at an end: the goal there -/
def RO (p : Program) (e : Env) (R : Room) (s : State) (m : MethodId) (args : Array Value) (below : List Frame) (meth : Method) (c : Code) (Q : State → Prop) (ρ0 ad0 : List Nat) (M : MR) (o : AO) : Prop :=
  (o.2.2.2.2.2.1 = 99 ∨ ∃ ins, ax_op ins = o.2.2.2.2.2.1 ∧ decode M.2.1 o.2.2.2.2.1 = .ok (ins, 1) ∧ ax_rok M.2.2.2.1 o.2.2.2.2.2.1 o.2.2.2.2.2.2.2 = true ∧ o.2.2.1 ≤ M.2.2.2.2.1.cells ∧ o.2.2.2.1 ≤ M.2.2.2.2.1.slots) → GG dC dI dA sp H0 l p e R s m args below meth c Q ρ0 ad0 M.2.2.1 o.2.2.2.2.1 o.1 o.2.1 o.2.2.1 o.2.2.2.1 o.2.2.2.2.2.2.1 o.2.2.2.2.2.2.2
/-- the abstract machine is sound -/
def Snd (f : GO) : Prop := ∀ (p : Program) (e : Env) (R : Room) (s : State) (m : MethodId) (args : Array Value) (below : List Frame) (meth : Method) (c : Code) (Q : State → Prop) (ρ0 ad0 : List Nat) (M : MR) (cut pc : Nat) (cd : List ME) (σ : AS) (h : AH) (nc ns : Nat) (lv : AL) (st : List AV) (outs : List AO), Mok mt M → (∀ x ∈ cd, x ∈ M.2.2.2.2.2.2) → CX sb dC dI dA sp H0 ρ0 M p R s m args meth c → f M cut pc cd σ h nc ns lv st = some outs → (∀ o ∈ outs, RO dC dI dA sp H0 l p e R s m args below meth c Q ρ0 ad0 M o) → GG dC dI dA sp H0 l p e R s m args below meth c Q ρ0 ad0 M.2.2.1 pc σ h nc ns lv st
end CTX
theorem ax_two_s {x y : RS} {r : List AO} (h : ax_two x y = some r) : ∃ a b, x = some a ∧ y = some b ∧ r = a ++ b := by
  obtain ⟨a, e1, h⟩ := ob_s h
  obtain ⟨b, e2, h⟩ := ob_s h
  exact ⟨a, b, e1, e2, (Option.some.inj h).symm⟩
theorem ax_go_s {o : Option AS} {go : AS → RS} {r : List AO} (h : ax_go o go = some r) {σ : AS} (ho : o = some σ) : go σ = some r := by subst ho; exact h
theorem ax_jmp_in (tab : List ME) (pc : Nat) : ∀ x ∈ ax_jmp tab pc, x ∈ tab := by
  induction tab with
  | nil => intro x hx; cases hx
  | cons e t ih =>
    intro x hx
    have hx : x ∈ (bif Nat.beq e.1 pc then e :: t else ax_jmp t pc) := hx
    cases hb : Nat.beq e.1 pc with
    | true => rw [hb] at hx; exact hx
    | false => rw [hb] at hx; exact List.mem_cons_of_mem _ (ih x hx)
