/-! THE CLAIM OUT OF ONE WALK OF THE LAW'S BODY. Your part is whole_start (and what it stands on); all else here is the same for every law, but numbers. -/
def R_law : String := "SorryWalkLaw"
def lw_P (b : Addr) (xs : List Int32) (args : Array Value) (s : State) : Prop := args = #[.ref b] ∧ s.IntsAt b xs ∧ xs.length ≤ 3072 ∧ (Jvm.Cond.and given_1 narrow_1).before args s = true
def lw_Q (_ : Array Value) (s : State) (o : Outcome) (t : State) : Prop := o = .returned (some (.int 1)) ∧ Framed s o t [] 600000 7302249
def lw_Z (below : List Frame) (a : Array Value) (s : State) : State → Prop := fun t => ∃ o, t.status = .running ∧ Ended t below o ∧ lw_Q a s o t
/-- the law's own end, with 1 on the stack, nothing written that was there before, its room as the claim has it -/
theorem lw_ret {p : Program} {l : Launch} {e : Env} {s : State} {m : MethodId} {below : List Frame} {meth : Method} {c : Code} {b : Nat} (hx : p.tables.exec = Jvm.exec) (hb : c.code = code) (hr : meth.sig.returnType = ret) (hlocks : meth.locks = false) {pc : Nat} {H : Heap} {ls : Array Slot} (hdg : decode code pc = .ok (.ireturn, 1)) : W p l e room_1 s m #[Value.ref b] below meth c H [] 600000 7302249 (lw_Z below #[Value.ref b] s) (F0 m pc ls [.int 1]) := by
  intro T hT X
  obtain ⟨fs, hret, hrun, hended, hW, hframe⟩ := X.leave (v := some (.int 1)) (hlocks := hlocks) (fun h => by rw [hr] at h; cases h)
  have hmeth' : T.vm.method? m = some meth := X.method'
  refine ⟨T.setFrames fs, ?_, .returned (some (.int 1)), hrun, hended, rfl, ⟨_, rfl⟩, hW, hframe⟩
  jvm_step X.here [X.here.top, hx, hb, hdg, hmeth', hr, ret, narrow_b1]
  (try refine ⟨rfl, ?_⟩); (try refine ⟨rfl, ?_⟩)
  first | (intro acts; rw [hret _ acts rfl rfl rfl]) | rw [hret _ _ rfl rfl rfl]
  exact Steps.refl _
/-- what holds at the law's entry: the machine, the code, the tables' words (any of lw_tbl by 'hts w (by decide +kernel)'), the script of L ints xs at the cell b, what the Statement gives of the start (any of its parts by flat_of_before) -/
def lw_At (p : Program) (s : State) (m : MethodId) (meth : Method) (c : Code) (b L : Nat) (xs : Nat → Int32) : Prop :=
  p.tables.exec = Jvm.exec ∧ c.code = code ∧ meth.sig.returnType = ret ∧ c.maxLocals = 4 ∧ s.vm.findClass R_law = some m.cls ∧ (∀ w ∈ lw_tbl, w.before #[Value.ref b] s = true) ∧ va_X b L xs s s.heap ∧ b < s.heap.size ∧ meth.locks = false ∧ (Jvm.Cond.and given_1 narrow_1).before #[Value.ref b] s = true

/-! the start: strings, statics, arrays, classes -/
def tmS (i : Nat) : Term := match i with
  | 0 => Term.string RX9 51
  | _ => Term.string RX12 171
def lenS : List Nat := [123, 124]
def bytS : List (List Int32) := [(sbs 2).map nI, (sbs 4).map nI]
def flS : List Cond := flatC (Jvm.Cond.and given_1 narrow_1)
set_option maxRecDepth 100000 in
theorem fs_ex : (List.range 2).all (fun i => decide (Cond.exactly (tmS i) "java/lang/String" ∈ flS)) = true := by decide +kernel
set_option maxRecDepth 100000 in
theorem fs_co : (List.range 2).all (fun i => decide (Cond.eq (.field (tmS i) "java/lang/String" "coder" "B") (.int 0) ∈ flS)) = true := by decide +kernel
set_option maxRecDepth 100000 in
theorem fs_ar : (List.range 2).all (fun i => decide (Cond.arrayOf (.field (tmS i) "java/lang/String" "value" "[B") .byte ∈ flS)) = true := by decide +kernel
set_option maxRecDepth 100000 in
theorem fs_le : (List.range 2).all (fun i => decide (Cond.eq (.length (.field (tmS i) "java/lang/String" "value" "[B")) (.int (Int32.ofNat (lenS.getD i 0))) ∈ flS)) = true := by decide +kernel
theorem fl_sub {k n : Nat} {f : Nat → Cond} (h : (flS.drop k).take n = (List.range n).map f) {j : Nat} (hj : j < n) : f j ∈ flS := by
  have h1 : f j ∈ (List.range n).map f := List.mem_map.mpr ⟨j, List.mem_range.mpr hj, rfl⟩
  rw [← h] at h1
  exact List.mem_of_mem_drop (List.mem_of_mem_take h1)
set_option maxRecDepth 100000 in
theorem fs_el0 : (flS.drop 52).take 123 = (List.range 123).map (fun j => Cond.eq (.elem (.field (tmS 0) "java/lang/String" "value" "[B") (.int (Int32.ofNat j))) (.int ((bytS.getD 0 []).getD j 0))) := by decide +kernel
set_option maxRecDepth 100000 in
theorem fs_el1 : (flS.drop 179).take 124 = (List.range 124).map (fun j => Cond.eq (.elem (.field (tmS 1) "java/lang/String" "value" "[B") (.int (Int32.ofNat j))) (.int ((bytS.getD 1 []).getD j 0))) := by decide +kernel
set_option maxRecDepth 100000 in
theorem fs_ne : (decide (Cond.not (Cond.eq (tmS 0) (tmS 1)) ∈ flS) || decide (Cond.not (Cond.eq (tmS 1) (tmS 0)) ∈ flS)) = true := by decide +kernel
set_option maxRecDepth 100000 in
theorem fs_cs : Cond.eq (.static sSTR "COMPACT_STRINGS" "Z") (.int 1) ∈ flS := by decide +kernel
set_option maxRecDepth 100000 in
theorem fs_si : Cond.isRef (.static sPRE "SIOOBE_FORMATTER" "Ljava/util/function/BiFunction;") ∈ flS := by decide +kernel
theorem all_d {n : Nat} {P : Nat → Prop} {d : ∀ i, Decidable (P i)} (h : (List.range n).all (fun i => decide (P i)) = true) {i : Nat} (hi : i < n) : P i := of_decide_eq_true (List.all_eq_true.mp h i (List.mem_range.mpr hi))
theorem lt2 {i : Nat} (h : i < 2) : i = 0 ∨ i = 1 := by omega
theorem byt_at (l : List Nat) (j : Nat) : (l.map nI).getD j 0 = nI (l.getD j 0) := by
  rw [List.getD_eq_getElem?_getD, List.getD_eq_getElem?_getD, List.getElem?_map]
  cases l[j]? with
  | none => exact nI_0.symm
  | some x => rfl

theorem w_sr1 : Cond.stringRef RX9 51 tx1 ∈ lw_tbl := wdn_in (i := 0) (j := 38) (w := Cond.stringRef RX9 51 tx1) (by decide +kernel)
theorem w_sr3 : Cond.stringRef RX12 171 tx3 ∈ lw_tbl := wdn_in (i := 6) (j := 201) (w := Cond.stringRef RX12 171 tx3) (by decide +kernel)
theorem w_ls1 : Cond.laysStatic sSTR "COMPACT_STRINGS" "Z" ∈ lw_tbl := wdn_in (i := 0) (j := 48) (w := Cond.laysStatic sSTR "COMPACT_STRINGS" "Z") (by decide +kernel)
theorem w_ls2 : Cond.laysStatic sPRE "SIOOBE_FORMATTER" "Ljava/util/function/BiFunction;" ∈ lw_tbl := wdn_in (i := 0) (j := 64) (w := Cond.laysStatic sPRE "SIOOBE_FORMATTER" "Ljava/util/function/BiFunction;") (by decide +kernel)
theorem w_in1 : Cond.initialized sSTR ∈ lw_tbl := wdn_in (i := 0) (j := 3) (w := Cond.initialized sSTR) (by decide +kernel)
theorem w_in2 : Cond.initialized sPRE ∈ lw_tbl := wdn_in (i := 0) (j := 5) (w := Cond.initialized sPRE) (by decide +kernel)
theorem w_ac_int : Cond.arrayClass .int ∈ lw_tbl := wdn_in (i := 0) (j := 132) (w := Cond.arrayClass .int) (by decide +kernel)
theorem w_ac_long : Cond.arrayClass .long ∈ lw_tbl := wdn_in (i := 0) (j := 133) (w := Cond.arrayClass .long) (by decide +kernel)
theorem w_ac_byte : Cond.arrayClass .byte ∈ lw_tbl := wdn_in (i := 0) (j := 134) (w := Cond.arrayClass .byte) (by decide +kernel)
theorem w_ao_10 : Cond.arrayOver (.object RX10) ∈ lw_tbl := wdn_in (i := 0) (j := 31) (w := Cond.arrayOver (.object RX10)) (by decide +kernel)
theorem w_ao_1 : Cond.arrayOver (.object RX1) ∈ lw_tbl := wdn_in (i := 1) (j := 189) (w := Cond.arrayOver (.object RX1)) (by decide +kernel)
theorem w_ao_7 : Cond.arrayOver (.object RX7) ∈ lw_tbl := wdn_in (i := 1) (j := 190) (w := Cond.arrayOver (.object RX7)) (by decide +kernel)
theorem w_it_0 : Cond.instantiable RX0 2 ∈ lw_tbl := wdn_in (i := 0) (j := 175) (w := Cond.instantiable RX0 2) (by decide +kernel)
theorem w_it_1 : Cond.instantiable RX1 15 ∈ lw_tbl := wdn_in (i := 0) (j := 136) (w := Cond.instantiable RX1 15) (by decide +kernel)
theorem w_it_2 : Cond.instantiable RX2 2 ∈ lw_tbl := wdn_in (i := 1) (j := 81) (w := Cond.instantiable RX2 2) (by decide +kernel)
theorem w_it_3 : Cond.instantiable RX3 9 ∈ lw_tbl := wdn_in (i := 1) (j := 149) (w := Cond.instantiable RX3 9) (by decide +kernel)
theorem w_it_4 : Cond.instantiable RX4 3 ∈ lw_tbl := wdn_in (i := 1) (j := 131) (w := Cond.instantiable RX4 3) (by decide +kernel)
theorem w_it_5 : Cond.instantiable RX5 6 ∈ lw_tbl := wdn_in (i := 0) (j := 142) (w := Cond.instantiable RX5 6) (by decide +kernel)
theorem w_it_6 : Cond.instantiable RX6 2 ∈ lw_tbl := wdn_in (i := 1) (j := 116) (w := Cond.instantiable RX6 2) (by decide +kernel)
theorem w_it_7 : Cond.instantiable RX7 8 ∈ lw_tbl := wdn_in (i := 1) (j := 38) (w := Cond.instantiable RX7 8) (by decide +kernel)
theorem w_it_8 : Cond.instantiable RX8 5 ∈ lw_tbl := wdn_in (i := 1) (j := 94) (w := Cond.instantiable RX8 5) (by decide +kernel)
theorem w_it_9 : Cond.instantiable RX9 12 ∈ lw_tbl := wdn_in (i := 0) (j := 33) (w := Cond.instantiable RX9 12) (by decide +kernel)
theorem w_it_10 : Cond.instantiable RX10 4 ∈ lw_tbl := wdn_in (i := 1) (j := 191) (w := Cond.instantiable RX10 4) (by decide +kernel)
theorem w_it_11 : Cond.instantiable RX11 18 ∈ lw_tbl := wdn_in (i := 0) (j := 23) (w := Cond.instantiable RX11 18) (by decide +kernel)
theorem w_it_12 : Cond.instantiable RX12 34 ∈ lw_tbl := wdn_in (i := 6) (j := 2) (w := Cond.instantiable RX12 34) (by decide +kernel)
theorem GW_tbl {w : Cond} (h : w ∈ GW) : w ∈ lw_tbl := (List.mem_filter.mp h).1
/-- the classes -/
theorem st_cls {args : Array Value} {s : State} (hts : ∀ w ∈ lw_tbl, w.before args s = true) : ∃ (dC : Nat → ClassId) (dI : Nat → Nat → Nat), ∀ (k : Nat) (q : vw_C), vwCl[k]? = some q → u_Kn s q.1 q.2.1 q.2.2 (dC k) (dI k) := by
  obtain ⟨c0, i0, h0⟩ := u_known (C := RX0) (T := TX0) (N := 2) (n := 2) hts (fun w hw => GW_tbl (uwX0 w hw)) (hts _ w_it_0)
  obtain ⟨c1, i1, h1⟩ := u_known (C := RX1) (T := TX1) (N := 15) (n := 15) hts (fun w hw => GW_tbl (uwX1 w hw)) (hts _ w_it_1)
  obtain ⟨c2, i2, h2⟩ := u_known (C := RX2) (T := TX2) (N := 2) (n := 2) hts (fun w hw => GW_tbl (uwX2 w hw)) (hts _ w_it_2)
  obtain ⟨c3, i3, h3⟩ := u_known (C := RX3) (T := TX3) (N := 9) (n := 9) hts (fun w hw => GW_tbl (uwX3 w hw)) (hts _ w_it_3)
  obtain ⟨c4, i4, h4⟩ := u_known (C := RX4) (T := TX4) (N := 3) (n := 3) hts (fun w hw => GW_tbl (uwX4 w hw)) (hts _ w_it_4)
  obtain ⟨c5, i5, h5⟩ := u_known (C := RX5) (T := TX5) (N := 6) (n := 6) hts (fun w hw => GW_tbl (uwX5 w hw)) (hts _ w_it_5)
  obtain ⟨c6, i6, h6⟩ := u_known (C := RX6) (T := TX6) (N := 2) (n := 2) hts (fun w hw => GW_tbl (uwX6 w hw)) (hts _ w_it_6)
  obtain ⟨c7, i7, h7⟩ := u_known (C := RX7) (T := TX7) (N := 8) (n := 8) hts (fun w hw => GW_tbl (uwX7 w hw)) (hts _ w_it_7)
  obtain ⟨c8, i8, h8⟩ := u_known (C := RX8) (T := TX8) (N := 5) (n := 5) hts (fun w hw => GW_tbl (uwX8 w hw)) (hts _ w_it_8)
  obtain ⟨c9, i9, h9⟩ := u_known (C := RX9) (T := TX9) (N := 12) (n := 12) hts (fun w hw => GW_tbl (uwX9 w hw)) (hts _ w_it_9)
  obtain ⟨c10, i10, h10⟩ := u_known (C := RX10) (T := TX10) (N := 4) (n := 4) hts (fun w hw => GW_tbl (uwX10 w hw)) (hts _ w_it_10)
  obtain ⟨c11, i11, h11⟩ := u_known (C := RX11) (T := TX11) (N := 18) (n := 18) hts (fun w hw => GW_tbl (uwX11 w hw)) (hts _ w_it_11)
  obtain ⟨c12, i12, h12⟩ := u_known (C := RX12) (T := TX12) (N := 34) (n := 34) hts (fun w hw => GW_tbl (uwX12 w hw)) (hts _ w_it_12)
  refine ⟨fun k => [c0, c1, c2, c3, c4, c5, c6, c7, c8, c9, c10, c11, c12].getD k c0, fun k => [i0, i1, i2, i3, i4, i5, i6, i7, i8, i9, i10, i11, i12].getD k i0, ?_⟩
  intro k q hq
  match k, hq with
  | 0, hq => cases hq; exact h0
  | 1, hq => cases hq; exact h1
  | 2, hq => cases hq; exact h2
  | 3, hq => cases hq; exact h3
  | 4, hq => cases hq; exact h4
  | 5, hq => cases hq; exact h5
  | 6, hq => cases hq; exact h6
  | 7, hq => cases hq; exact h7
  | 8, hq => cases hq; exact h8
  | 9, hq => cases hq; exact h9
  | 10, hq => cases hq; exact h10
  | 11, hq => cases hq; exact h11
  | 12, hq => cases hq; exact h12
  | n + 13, hq => simp [vwCl] at hq
/-- the array classes -/
theorem st_arr {args : Array Value} {s : State} (hts : ∀ w ∈ lw_tbl, w.before args s = true) : ∃ dA : Nat → ClassId, ∀ (k : Nat) (q : ClassId × FieldType), (ax_tys dA)[k]? = some q → ArrOfT s q.1 q.2 ∧ va_RA s q.1 q.2 := by
  obtain ⟨c0, k0, p0, a0, b0, d0⟩ := Cond.arrayClass_spec (hts _ w_ac_int)
  obtain ⟨c1, k1, p1, a1, b1, d1⟩ := Cond.arrayClass_spec (hts _ w_ac_long)
  obtain ⟨c2, k2, p2, a2, b2, d2⟩ := Cond.arrayClass_spec (hts _ w_ac_byte)
  obtain ⟨p3, c3, k3, a3, -, b3, d3, e3⟩ := Cond.arrayOver_spec (hts _ w_ao_10)
  obtain ⟨p4, c4, k4, a4, -, b4, d4, e4⟩ := Cond.arrayOver_spec (hts _ w_ao_1)
  obtain ⟨p5, c5, k5, a5, -, b5, d5, e5⟩ := Cond.arrayOver_spec (hts _ w_ao_7)
  refine ⟨fun n => [c0, c1, c2, c3, c4, c5].getD (n - 100) c0, ?_⟩
  intro k q hq
  match k, hq with
  | 0, hq => cases hq; exact ⟨fun n z => ⟨fun k h => (by cases h), k0, b0, p0, d0⟩, a0⟩
  | 1, hq => cases hq; exact ⟨fun n z => ⟨fun k h => (by cases h), k1, b1, p1, d1⟩, a1⟩
  | 2, hq => cases hq; exact ⟨fun n z => ⟨fun k h => (by cases h), k2, b2, p2, d2⟩, a2⟩
  | 3, hq => cases hq; exact ⟨fun n z => ⟨fun k h => (by cases h), k3, b3, p3, d3⟩, k3, p3, b3, d3, a3, e3⟩
  | 4, hq => cases hq; exact ⟨fun n z => ⟨fun k h => (by cases h), k4, b4, p4, d4⟩, k4, p4, b4, d4, a4, e4⟩
  | 5, hq => cases hq; exact ⟨fun n z => ⟨fun k h => (by cases h), k5, b5, p5, d5⟩, k5, p5, b5, d5, a5, e5⟩
  | n + 6, hq => simp [ax_tys] at hq
/-- the values of the unknowns at the start -/
def zs (xs : Nat → Int32) (L : Nat) : List Nat := [zI (xs 0), zI (xs 1), zI (xs 2), zI (xs 3), zI (xs 4), zI (xs 5), L + 9223372036854775808]
def spf (b k1 v1 k3 v3 q : Nat) (xs : Nat → Int32) (i : Nat) : Nat := if 1000 ≤ i then zI (xs (i - 1000)) else if i = 900 then q else (match i with
  | 0 => b
  | 1 => k1
  | 2 => v1
  | 3 => k3
  | _ => v3)
theorem st_old {s : State} {b L : Nat} {xs : Nat → Int32} (hts : ∀ w ∈ lw_tbl, w.before #[Value.ref b] s = true) (hX : va_X b L xs s s.heap) (hbl : b < s.heap.size) (hL : L ≤ 3072) (hgv : (Jvm.Cond.and given_1 narrow_1).before #[Value.ref b] s = true) : ∃ sp, sp 0 = b ∧ (∀ j, 9223372034707292160 ≤ sp (1000 + j) ∧ sp (1000 + j) ≤ 9223372039002259455) ∧ OX sp sbs s.heap (zs xs L) s := by
  have hs : ∀ c ∈ flS, c.before #[Value.ref b] s = true := flat_of_before _ hgv
  have hA : ∀ a : Nat, a < s.heap.size → ¬ (aA s.heap) a := fun a h => Nat.not_le.mpr h
  obtain ⟨adK, adV, hS, hE⟩ := vk_Sof (args := #[Value.ref b]) (s := s) (N := 2) (tm := tmS) (len := lenS) (byt := bytS) (A := aA s.heap)
    (fun i hi => by rcases lt2 hi with rfl | rfl <;> decide)
    (fun i hi => hs _ (all_d fs_ex hi)) (fun i hi => hs _ (all_d fs_co hi)) (fun i hi => hs _ (all_d fs_ar hi)) (fun i hi => hs _ (all_d fs_le hi))
    (fun i hi j hj => by
      rcases lt2 hi with rfl | rfl
      · exact hs _ (fl_sub fs_el0 hj)
      · exact hs _ (fl_sub fs_el1 hj))
    (fun i j hi hj hij => by
      rcases (Bool.or_eq_true _ _).mp fs_ne with z | z
      · have z := hs _ (of_decide_eq_true z)
        rcases lt2 hi with rfl | rfl <;> rcases lt2 hj with rfl | rfl <;> first | exact absurd rfl hij | exact Or.inl z | exact Or.inr z
      · have z := hs _ (of_decide_eq_true z)
        rcases lt2 hi with rfl | rfl <;> rcases lt2 hj with rfl | rfl <;> first | exact absurd rfl hij | exact Or.inl z | exact Or.inr z)
    hA
  have h0 := hS.1 0 (by decide)
  have h1 := hS.1 1 (by decide)
  have T0 : va_T .byte (adV 0) (sbs 2).length (fun j => .int (nI ((sbs 2).getD j 0))) (aA s.heap) s s.heap := by
    obtain ⟨cell, a1, a2, a3, a4, a5, a6, a7⟩ := h0.2.2.2
    exact ⟨cell, a1, a2, a3, a4, a5, fun j hj => by rw [a6 j hj]; exact congrArg (fun z => some (Value.int z)) (byt_at (sbs 2) j), a7⟩
  have T1 : va_T .byte (adV 1) (sbs 4).length (fun j => .int (nI ((sbs 4).getD j 0))) (aA s.heap) s s.heap := by
    obtain ⟨cell, a1, a2, a3, a4, a5, a6, a7⟩ := h1.2.2.2
    exact ⟨cell, a1, a2, a3, a4, a5, fun j hj => by rw [a6 j hj]; exact congrArg (fun z => some (Value.int z)) (byt_at (sbs 4) j), a7⟩
  have ZQ : ∃ q : Nat, va_Z sPRE "SIOOBE_FORMATTER" "Ljava/util/function/BiFunction;" (match q with | 0 => Value.null | n + 1 => Value.ref n) (aA s.heap) s s.heap := by
    rcases va_Zqof (hts _ w_ls2) (hts _ w_in2) (hs _ fs_si) hA with z | ⟨t, z⟩
    · exact ⟨0, z⟩
    · exact ⟨t + 1, z⟩
  obtain ⟨q, hq⟩ := ZQ
  refine ⟨spf b (adK 0) (adV 0) (adK 1) (adV 1) q xs, rfl, (fun j => by unfold spf; rw [if_pos (by omega)]; exact zI_rng _), ⟨L, xs, hX, hbl, by omega, rfl, fun j hj => ?_, fun j hj => ?_⟩, ⟨h0.1, h0.2.1, h0.2.2.1, T0⟩, ⟨h1.1, h1.2.1, h1.2.2.1, T1⟩, vk_R.of (hts _ w_sr1) (hE 0 (by decide)), vk_R.of (hts _ w_sr3) (hE 1 (by decide)), va_Zof (hts _ w_ls1) (hts _ w_in1) (va_eqi (hs _ fs_cs)) hA, hq, va_AO.of (hts _ w_ao_10), va_AO.of (hts _ w_ao_1), va_AO.of (hts _ w_ao_7), fun w hw => ?_⟩
  · match j, hj with
    | 0, _ => rfl
    | 1, _ => rfl
    | 2, _ => rfl
    | 3, _ => rfl
    | 4, _ => rfl
    | 5, _ => rfl
    | n + 6, h => exact absurd h (by omega)
  · unfold spf
    rw [if_pos (by omega), Nat.add_sub_cancel_left]
  · have h1 := List.mem_filter.mp hw
    have h2 := h1.2
    split at h2
    · exact va_Nw.of rfl (hts _ h1.1)
    · cases h2

