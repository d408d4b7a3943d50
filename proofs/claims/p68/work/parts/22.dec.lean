/-! A FAST READER OF INSTRUCTIONS -/
section
variable {α β : Type}
theorem dr_bind {r : Decoder α} {f : α → Decoder β} {c : ByteArray} {q q2 : Nat} {a : α} (h : r c q = .ok (a, q2)) : (r >>= f) c q = f a c q2 := by
  show Except.bind (r c q) _ = _
  rw [h]
  rfl
theorem dr_map {r : Decoder α} {f : α → β} {c : ByteArray} {q q2 : Nat} {a : α} (h : r c q = .ok (a, q2)) : (f <$> r) c q = .ok (f a, q2) := by
  show Except.bind (r c q) _ = _
  rw [h]
  rfl
end
theorem dr_dec {c : ByteArray} {q q2 : Nat} {i : Instr} (h : (Decoder.instr q) c q = .ok (i, q2)) : decode c q = .ok (i, q2 - q) := by
  show Except.bind ((Decoder.instr q) c q) _ = _
  rw [h]
  rfl
theorem dr_u1 {c : ByteArray} {q : Nat} {b : UInt8} {r : List UInt8} (h : c.data.toList.drop q = b :: r) : (Reader.u1 : Decoder Nat) c q = .ok (b.toNat, q + 1) ∧ c.data.toList.drop (q + 1) = r := by
  have hl : q < c.data.toList.length := by
    rcases Nat.lt_or_ge q c.data.toList.length with z | z
    · exact z
    · rw [List.drop_eq_nil_of_le z] at h
      exact absurd h (by intro z; cases z)
  rw [List.drop_eq_getElem_cons hl] at h
  obtain ⟨h1, h2⟩ := List.cons.inj h
  refine ⟨?_, h2⟩
  have hs : q < c.size := hl
  have e : c[q] = b := h1
  show (if h : q < c.size then (do set (q + 1); pure c[q].toNat : Decoder Nat) else throw (HasTruncated.truncated q)) c q = _
  rw [dif_pos hs, e]
  rfl
theorem dr_u2 {c : ByteArray} {q : Nat} {x y : Nat} (h1 : (Reader.u1 : Decoder Nat) c q = .ok (x, q + 1)) (h2 : (Reader.u1 : Decoder Nat) c (q + 1) = .ok (y, q + 2)) : (Reader.u2 : Decoder Nat) c q = .ok (x * 256 + y, q + 2) := (dr_bind h1).trans (dr_bind h2)
theorem dr_s1 {c : ByteArray} {q : Nat} {x : Nat} (h1 : (Reader.u1 : Decoder Nat) c q = .ok (x, q + 1)) : (Reader.s1 : Decoder Int) c q = .ok (Reader.signed 8 x, q + 1) := dr_map h1
theorem dr_s2 {c : ByteArray} {q : Nat} {x y : Nat} (h1 : (Reader.u1 : Decoder Nat) c q = .ok (x, q + 1)) (h2 : (Reader.u1 : Decoder Nat) c (q + 1) = .ok (y, q + 2)) : (Reader.s2 : Decoder Int) c q = .ok (Reader.signed 16 (x * 256 + y), q + 2) := dr_map (dr_u2 h1 h2)
/-- what the bytes behind an opcode say -/
abbrev DP := List UInt8 → Option (Instr × Nat)
noncomputable def dpu1 (f : Nat → Instr) : DP := fun r => match r with
  | x :: _ => some (f x.toNat, 2)
  | [] => none
noncomputable def dps1 (f : Int → Instr) : DP := fun r => match r with
  | x :: _ => some (f (Reader.signed 8 x.toNat), 2)
  | [] => none
noncomputable def dpu2 (f : Nat → Instr) : DP := fun r => match r with
  | x :: y :: _ => some (f (x.toNat * 256 + y.toNat), 3)
  | _ => none
noncomputable def dps2 (f : Int → Instr) : DP := fun r => match r with
  | x :: y :: _ => some (f (Reader.signed 16 (x.toNat * 256 + y.toNat)), 3)
  | _ => none
noncomputable def dpii : DP := fun r => match r with
  | x :: y :: _ => some (.iinc x.toNat (Reader.signed 8 y.toNat), 3)
  | _ => none
def dpg (n : Nat) (f : DP) : Prop := ∀ (c : ByteArray) (q : Nat) (b : UInt8) (r : List UInt8) (i : Instr) (m : Nat), c.data.toList.drop q = b :: r → b.toNat = n → f r = some (i, m) → decode c q = .ok (i, m)
theorem dpg_0 {n : Nat} {i : Instr} (H : ∀ (c : ByteArray) (q : Nat), (Reader.u1 : Decoder Nat) c q = .ok (n, q + 1) → (Decoder.instr q) c q = .ok (i, q + 1)) : dpg n (fun _ => some (i, 1)) := by
  intro c q b r j m h hb hf
  cases hf
  have k := (dr_u1 h).1
  rw [hb] at k
  rw [dr_dec (H c q k), Nat.add_sub_cancel_left]
theorem dpg_u1 {n : Nat} {f : Nat → Instr} (H : ∀ (c : ByteArray) (q x : Nat), (Reader.u1 : Decoder Nat) c q = .ok (n, q + 1) → (Reader.u1 : Decoder Nat) c (q + 1) = .ok (x, q + 2) → (Decoder.instr q) c q = .ok (f x, q + 2)) : dpg n (dpu1 f) := by
  intro c q b r j m h hb hf
  match r, h, hf with
  | x :: r, h, hf =>
    cases hf
    obtain ⟨k, h2⟩ := dr_u1 h
    rw [hb] at k
    rw [dr_dec (H c q _ k (dr_u1 h2).1), Nat.add_sub_cancel_left]
theorem dpg_s1 {n : Nat} {f : Int → Instr} (H : ∀ (c : ByteArray) (q x : Nat), (Reader.u1 : Decoder Nat) c q = .ok (n, q + 1) → (Reader.u1 : Decoder Nat) c (q + 1) = .ok (x, q + 2) → (Decoder.instr q) c q = .ok (f (Reader.signed 8 x), q + 2)) : dpg n (dps1 f) := by
  intro c q b r j m h hb hf
  match r, h, hf with
  | x :: r, h, hf =>
    cases hf
    obtain ⟨k, h2⟩ := dr_u1 h
    rw [hb] at k
    rw [dr_dec (H c q _ k (dr_u1 h2).1), Nat.add_sub_cancel_left]
theorem dpg_u2 {n : Nat} {f : Nat → Instr} (H : ∀ (c : ByteArray) (q x y : Nat), (Reader.u1 : Decoder Nat) c q = .ok (n, q + 1) → (Reader.u1 : Decoder Nat) c (q + 1) = .ok (x, q + 1 + 1) → (Reader.u1 : Decoder Nat) c (q + 1 + 1) = .ok (y, q + 1 + 2) → (Decoder.instr q) c q = .ok (f (x * 256 + y), q + 3)) : dpg n (dpu2 f) := by
  intro c q b r j m h hb hf
  match r, h, hf with
  | x :: y :: r, h, hf =>
    cases hf
    obtain ⟨k, h2⟩ := dr_u1 h
    obtain ⟨k2, h3⟩ := dr_u1 h2
    rw [hb] at k
    rw [dr_dec (H c q _ _ k k2 (dr_u1 h3).1), Nat.add_sub_cancel_left]
theorem dpg_s2 {n : Nat} {f : Int → Instr} (H : ∀ (c : ByteArray) (q x y : Nat), (Reader.u1 : Decoder Nat) c q = .ok (n, q + 1) → (Reader.u1 : Decoder Nat) c (q + 1) = .ok (x, q + 1 + 1) → (Reader.u1 : Decoder Nat) c (q + 1 + 1) = .ok (y, q + 1 + 2) → (Decoder.instr q) c q = .ok (f (Reader.signed 16 (x * 256 + y)), q + 3)) : dpg n (dps2 f) := by
  intro c q b r j m h hb hf
  match r, h, hf with
  | x :: y :: r, h, hf =>
    cases hf
    obtain ⟨k, h2⟩ := dr_u1 h
    obtain ⟨k2, h3⟩ := dr_u1 h2
    rw [hb] at k
    rw [dr_dec (H c q _ _ k k2 (dr_u1 h3).1), Nat.add_sub_cancel_left]
theorem dpg_ii {n : Nat} (H : ∀ (c : ByteArray) (q x y : Nat), (Reader.u1 : Decoder Nat) c q = .ok (n, q + 1) → (Reader.u1 : Decoder Nat) c (q + 1) = .ok (x, q + 1 + 1) → (Reader.u1 : Decoder Nat) c (q + 1 + 1) = .ok (y, q + 1 + 1 + 1) → (Decoder.instr q) c q = .ok (.iinc x (Reader.signed 8 y), q + 3)) : dpg n dpii := by
  intro c q b r j m h hb hf
  match r, h, hf with
  | x :: y :: r, h, hf =>
    cases hf
    obtain ⟨k, h2⟩ := dr_u1 h
    obtain ⟨k2, h3⟩ := dr_u1 h2
    rw [hb] at k
    rw [dr_dec (H c q _ _ k k2 (dr_u1 h3).1), Nat.add_sub_cancel_left]
theorem dpt_42 : dpg 42 (fun _ => some (.aload_n 0, 1)) := dpg_0 (fun _ _ h => (dr_bind h).trans rfl)
theorem dpt_43 : dpg 43 (fun _ => some (.aload_n 1, 1)) := dpg_0 (fun _ _ h => (dr_bind h).trans rfl)
theorem dpt_44 : dpg 44 (fun _ => some (.aload_n 2, 1)) := dpg_0 (fun _ _ h => (dr_bind h).trans rfl)
theorem dpt_45 : dpg 45 (fun _ => some (.aload_n 3, 1)) := dpg_0 (fun _ _ h => (dr_bind h).trans rfl)
theorem dpt_26 : dpg 26 (fun _ => some (.iload_n 0, 1)) := dpg_0 (fun _ _ h => (dr_bind h).trans rfl)
theorem dpt_27 : dpg 27 (fun _ => some (.iload_n 1, 1)) := dpg_0 (fun _ _ h => (dr_bind h).trans rfl)
theorem dpt_28 : dpg 28 (fun _ => some (.iload_n 2, 1)) := dpg_0 (fun _ _ h => (dr_bind h).trans rfl)
theorem dpt_29 : dpg 29 (fun _ => some (.iload_n 3, 1)) := dpg_0 (fun _ _ h => (dr_bind h).trans rfl)
theorem dpt_2 : dpg 2 (fun _ => some (.iconst (-1), 1)) := dpg_0 (fun _ _ h => (dr_bind h).trans rfl)
theorem dpt_3 : dpg 3 (fun _ => some (.iconst (0), 1)) := dpg_0 (fun _ _ h => (dr_bind h).trans rfl)
theorem dpt_4 : dpg 4 (fun _ => some (.iconst (1), 1)) := dpg_0 (fun _ _ h => (dr_bind h).trans rfl)
theorem dpt_5 : dpg 5 (fun _ => some (.iconst (2), 1)) := dpg_0 (fun _ _ h => (dr_bind h).trans rfl)
theorem dpt_6 : dpg 6 (fun _ => some (.iconst (3), 1)) := dpg_0 (fun _ _ h => (dr_bind h).trans rfl)
theorem dpt_7 : dpg 7 (fun _ => some (.iconst (4), 1)) := dpg_0 (fun _ _ h => (dr_bind h).trans rfl)
theorem dpt_8 : dpg 8 (fun _ => some (.iconst (5), 1)) := dpg_0 (fun _ _ h => (dr_bind h).trans rfl)
theorem dpt_182 : dpg 182 (dpu2 .invokevirtual) := dpg_u2 (fun _ _ _ _ h h1 h2 => (dr_bind h).trans ((dr_bind (dr_u2 h1 h2)).trans rfl))
theorem dpt_180 : dpg 180 (dpu2 .getfield) := dpg_u2 (fun _ _ _ _ h h1 h2 => (dr_bind h).trans ((dr_bind (dr_u2 h1 h2)).trans rfl))
theorem dpt_172 : dpg 172 (fun _ => some (.ireturn, 1)) := dpg_0 (fun _ _ h => (dr_bind h).trans rfl)
theorem dpt_46 : dpg 46 (fun _ => some (.iaload, 1)) := dpg_0 (fun _ _ h => (dr_bind h).trans rfl)
theorem dpt_167 : dpg 167 (dps2 .goto) := dpg_s2 (fun _ _ _ _ h h1 h2 => (dr_bind h).trans ((dr_bind (dr_s2 h1 h2)).trans rfl))
theorem dpt_159 : dpg 159 (dps2 (.if_icmp .eq)) := dpg_s2 (fun _ _ _ _ h h1 h2 => (dr_bind h).trans ((dr_bind (dr_s2 h1 h2)).trans rfl))
theorem dpt_160 : dpg 160 (dps2 (.if_icmp .ne)) := dpg_s2 (fun _ _ _ _ h h1 h2 => (dr_bind h).trans ((dr_bind (dr_s2 h1 h2)).trans rfl))
theorem dpt_161 : dpg 161 (dps2 (.if_icmp .lt)) := dpg_s2 (fun _ _ _ _ h h1 h2 => (dr_bind h).trans ((dr_bind (dr_s2 h1 h2)).trans rfl))
theorem dpt_162 : dpg 162 (dps2 (.if_icmp .ge)) := dpg_s2 (fun _ _ _ _ h h1 h2 => (dr_bind h).trans ((dr_bind (dr_s2 h1 h2)).trans rfl))
theorem dpt_163 : dpg 163 (dps2 (.if_icmp .gt)) := dpg_s2 (fun _ _ _ _ h h1 h2 => (dr_bind h).trans ((dr_bind (dr_s2 h1 h2)).trans rfl))
theorem dpt_164 : dpg 164 (dps2 (.if_icmp .le)) := dpg_s2 (fun _ _ _ _ h h1 h2 => (dr_bind h).trans ((dr_bind (dr_s2 h1 h2)).trans rfl))
theorem dpt_153 : dpg 153 (dps2 (.ifCond .eq)) := dpg_s2 (fun _ _ _ _ h h1 h2 => (dr_bind h).trans ((dr_bind (dr_s2 h1 h2)).trans rfl))
theorem dpt_154 : dpg 154 (dps2 (.ifCond .ne)) := dpg_s2 (fun _ _ _ _ h h1 h2 => (dr_bind h).trans ((dr_bind (dr_s2 h1 h2)).trans rfl))
theorem dpt_155 : dpg 155 (dps2 (.ifCond .lt)) := dpg_s2 (fun _ _ _ _ h h1 h2 => (dr_bind h).trans ((dr_bind (dr_s2 h1 h2)).trans rfl))
theorem dpt_156 : dpg 156 (dps2 (.ifCond .ge)) := dpg_s2 (fun _ _ _ _ h h1 h2 => (dr_bind h).trans ((dr_bind (dr_s2 h1 h2)).trans rfl))
theorem dpt_157 : dpg 157 (dps2 (.ifCond .gt)) := dpg_s2 (fun _ _ _ _ h h1 h2 => (dr_bind h).trans ((dr_bind (dr_s2 h1 h2)).trans rfl))
theorem dpt_158 : dpg 158 (dps2 (.ifCond .le)) := dpg_s2 (fun _ _ _ _ h h1 h2 => (dr_bind h).trans ((dr_bind (dr_s2 h1 h2)).trans rfl))
theorem dpt_96 : dpg 96 (fun _ => some (.iadd, 1)) := dpg_0 (fun _ _ h => (dr_bind h).trans rfl)
theorem dpt_59 : dpg 59 (fun _ => some (.istore_n 0, 1)) := dpg_0 (fun _ _ h => (dr_bind h).trans rfl)
theorem dpt_60 : dpg 60 (fun _ => some (.istore_n 1, 1)) := dpg_0 (fun _ _ h => (dr_bind h).trans rfl)
theorem dpt_61 : dpg 61 (fun _ => some (.istore_n 2, 1)) := dpg_0 (fun _ _ h => (dr_bind h).trans rfl)
theorem dpt_62 : dpg 62 (fun _ => some (.istore_n 3, 1)) := dpg_0 (fun _ _ h => (dr_bind h).trans rfl)
theorem dpt_21 : dpg 21 (dpu1 .iload) := dpg_u1 (fun _ _ _ h h1 => (dr_bind h).trans ((dr_bind h1).trans rfl))
theorem dpt_16 : dpg 16 (dps1 .bipush) := dpg_s1 (fun _ _ _ h h1 => (dr_bind h).trans ((dr_bind (dr_s1 h1)).trans rfl))
theorem dpt_181 : dpg 181 (dpu2 .putfield) := dpg_u2 (fun _ _ _ _ h h1 h2 => (dr_bind h).trans ((dr_bind (dr_u2 h1 h2)).trans rfl))
theorem dpt_184 : dpg 184 (dpu2 .invokestatic) := dpg_u2 (fun _ _ _ _ h h1 h2 => (dr_bind h).trans ((dr_bind (dr_u2 h1 h2)).trans rfl))
theorem dpt_87 : dpg 87 (fun _ => some (.pop, 1)) := dpg_0 (fun _ _ h => (dr_bind h).trans rfl)
theorem dpt_54 : dpg 54 (dpu1 .istore) := dpg_u1 (fun _ _ _ h h1 => (dr_bind h).trans ((dr_bind h1).trans rfl))
theorem dpt_17 : dpg 17 (dps2 .sipush) := dpg_s2 (fun _ _ _ _ h h1 h2 => (dr_bind h).trans ((dr_bind (dr_s2 h1 h2)).trans rfl))
theorem dpt_79 : dpg 79 (fun _ => some (.iastore, 1)) := dpg_0 (fun _ _ h => (dr_bind h).trans rfl)
theorem dpt_177 : dpg 177 (fun _ => some (.return_, 1)) := dpg_0 (fun _ _ h => (dr_bind h).trans rfl)
theorem dpt_89 : dpg 89 (fun _ => some (.dup, 1)) := dpg_0 (fun _ _ h => (dr_bind h).trans rfl)
theorem dpt_120 : dpg 120 (fun _ => some (.ishl, 1)) := dpg_0 (fun _ _ h => (dr_bind h).trans rfl)
theorem dpt_104 : dpg 104 (fun _ => some (.imul, 1)) := dpg_0 (fun _ _ h => (dr_bind h).trans rfl)
theorem dpt_100 : dpg 100 (fun _ => some (.isub, 1)) := dpg_0 (fun _ _ h => (dr_bind h).trans rfl)
theorem dpt_128 : dpg 128 (fun _ => some (.ior, 1)) := dpg_0 (fun _ _ h => (dr_bind h).trans rfl)
theorem dpt_126 : dpg 126 (fun _ => some (.iand, 1)) := dpg_0 (fun _ _ h => (dr_bind h).trans rfl)
theorem dpt_183 : dpg 183 (dpu2 .invokespecial) := dpg_u2 (fun _ _ _ _ h h1 h2 => (dr_bind h).trans ((dr_bind (dr_u2 h1 h2)).trans rfl))
theorem dpt_133 : dpg 133 (fun _ => some (.i2l, 1)) := dpg_0 (fun _ _ h => (dr_bind h).trans rfl)
theorem dpt_9 : dpg 9 (fun _ => some (.lconst 0, 1)) := dpg_0 (fun _ _ h => (dr_bind h).trans rfl)
theorem dpt_10 : dpg 10 (fun _ => some (.lconst 1, 1)) := dpg_0 (fun _ _ h => (dr_bind h).trans rfl)
theorem dpt_92 : dpg 92 (fun _ => some (.dup2, 1)) := dpg_0 (fun _ _ h => (dr_bind h).trans rfl)
theorem dpt_30 : dpg 30 (fun _ => some (.lload_n 0, 1)) := dpg_0 (fun _ _ h => (dr_bind h).trans rfl)
theorem dpt_31 : dpg 31 (fun _ => some (.lload_n 1, 1)) := dpg_0 (fun _ _ h => (dr_bind h).trans rfl)
theorem dpt_32 : dpg 32 (fun _ => some (.lload_n 2, 1)) := dpg_0 (fun _ _ h => (dr_bind h).trans rfl)
theorem dpt_33 : dpg 33 (fun _ => some (.lload_n 3, 1)) := dpg_0 (fun _ _ h => (dr_bind h).trans rfl)
theorem dpt_190 : dpg 190 (fun _ => some (.arraylength, 1)) := dpg_0 (fun _ _ h => (dr_bind h).trans rfl)
theorem dpt_187 : dpg 187 (dpu2 .new) := dpg_u2 (fun _ _ _ _ h h1 h2 => (dr_bind h).trans ((dr_bind (dr_u2 h1 h2)).trans rfl))
theorem dpt_20 : dpg 20 (dpu2 .ldc2_w) := dpg_u2 (fun _ _ _ _ h h1 h2 => (dr_bind h).trans ((dr_bind (dr_u2 h1 h2)).trans rfl))
theorem dpt_18 : dpg 18 (dpu1 .ldc) := dpg_u1 (fun _ _ _ h h1 => (dr_bind h).trans ((dr_bind h1).trans rfl))
theorem dpt_130 : dpg 130 (fun _ => some (.ixor, 1)) := dpg_0 (fun _ _ h => (dr_bind h).trans rfl)
theorem dpt_19 : dpg 19 (dpu2 .ldc_w) := dpg_u2 (fun _ _ _ _ h h1 h2 => (dr_bind h).trans ((dr_bind (dr_u2 h1 h2)).trans rfl))
theorem dpt_80 : dpg 80 (fun _ => some (.lastore, 1)) := dpg_0 (fun _ _ h => (dr_bind h).trans rfl)
theorem dpt_50 : dpg 50 (fun _ => some (.aaload, 1)) := dpg_0 (fun _ _ h => (dr_bind h).trans rfl)
theorem dpt_108 : dpg 108 (fun _ => some (.idiv, 1)) := dpg_0 (fun _ _ h => (dr_bind h).trans rfl)
theorem dpt_25 : dpg 25 (dpu1 .aload) := dpg_u1 (fun _ _ _ h h1 => (dr_bind h).trans ((dr_bind h1).trans rfl))
theorem dpt_173 : dpg 173 (fun _ => some (.lreturn, 1)) := dpg_0 (fun _ _ h => (dr_bind h).trans rfl)
theorem dpt_47 : dpg 47 (fun _ => some (.laload, 1)) := dpg_0 (fun _ _ h => (dr_bind h).trans rfl)
theorem dpt_22 : dpg 22 (dpu1 .lload) := dpg_u1 (fun _ _ _ h h1 => (dr_bind h).trans ((dr_bind h1).trans rfl))
theorem dpt_148 : dpg 148 (fun _ => some (.lcmp, 1)) := dpg_0 (fun _ _ h => (dr_bind h).trans rfl)
theorem dpt_122 : dpg 122 (fun _ => some (.ishr, 1)) := dpg_0 (fun _ _ h => (dr_bind h).trans rfl)
theorem dpt_112 : dpg 112 (fun _ => some (.irem, 1)) := dpg_0 (fun _ _ h => (dr_bind h).trans rfl)
theorem dpt_88 : dpg 88 (fun _ => some (.pop2, 1)) := dpg_0 (fun _ _ h => (dr_bind h).trans rfl)
theorem dpt_136 : dpg 136 (fun _ => some (.l2i, 1)) := dpg_0 (fun _ _ h => (dr_bind h).trans rfl)
theorem dpt_55 : dpg 55 (dpu1 .lstore) := dpg_u1 (fun _ _ _ h h1 => (dr_bind h).trans ((dr_bind h1).trans rfl))
theorem dpt_97 : dpg 97 (fun _ => some (.ladd, 1)) := dpg_0 (fun _ _ h => (dr_bind h).trans rfl)
theorem dpt_124 : dpg 124 (fun _ => some (.iushr, 1)) := dpg_0 (fun _ _ h => (dr_bind h).trans rfl)
theorem dpt_51 : dpg 51 (fun _ => some (.baload, 1)) := dpg_0 (fun _ _ h => (dr_bind h).trans rfl)
theorem dpt_121 : dpg 121 (fun _ => some (.lshl, 1)) := dpg_0 (fun _ _ h => (dr_bind h).trans rfl)
theorem dpt_129 : dpg 129 (fun _ => some (.lor, 1)) := dpg_0 (fun _ _ h => (dr_bind h).trans rfl)
theorem dpt_116 : dpg 116 (fun _ => some (.ineg, 1)) := dpg_0 (fun _ _ h => (dr_bind h).trans rfl)
theorem dpt_145 : dpg 145 (fun _ => some (.i2b, 1)) := dpg_0 (fun _ _ h => (dr_bind h).trans rfl)
theorem dpt_178 : dpg 178 (dpu2 .getstatic) := dpg_u2 (fun _ _ _ _ h h1 h2 => (dr_bind h).trans ((dr_bind (dr_u2 h1 h2)).trans rfl))
theorem dpt_58 : dpg 58 (dpu1 .astore) := dpg_u1 (fun _ _ _ h h1 => (dr_bind h).trans ((dr_bind h1).trans rfl))
theorem dpt_189 : dpg 189 (dpu2 .anewarray) := dpg_u2 (fun _ _ _ _ h h1 h2 => (dr_bind h).trans ((dr_bind (dr_u2 h1 h2)).trans rfl))
theorem dpt_83 : dpg 83 (fun _ => some (.aastore, 1)) := dpg_0 (fun _ _ h => (dr_bind h).trans rfl)
theorem dpt_101 : dpg 101 (fun _ => some (.lsub, 1)) := dpg_0 (fun _ _ h => (dr_bind h).trans rfl)
theorem dpt_105 : dpg 105 (fun _ => some (.lmul, 1)) := dpg_0 (fun _ _ h => (dr_bind h).trans rfl)
theorem dpt_109 : dpg 109 (fun _ => some (.ldiv, 1)) := dpg_0 (fun _ _ h => (dr_bind h).trans rfl)
theorem dpt_127 : dpg 127 (fun _ => some (.land, 1)) := dpg_0 (fun _ _ h => (dr_bind h).trans rfl)
theorem dpt_147 : dpg 147 (fun _ => some (.i2s, 1)) := dpg_0 (fun _ _ h => (dr_bind h).trans rfl)
theorem dpt_146 : dpg 146 (fun _ => some (.i2c, 1)) := dpg_0 (fun _ _ h => (dr_bind h).trans rfl)
theorem dpt_84 : dpg 84 (fun _ => some (.bastore, 1)) := dpg_0 (fun _ _ h => (dr_bind h).trans rfl)
theorem dpt_191 : dpg 191 (fun _ => some (.athrow, 1)) := dpg_0 (fun _ _ h => (dr_bind h).trans rfl)
theorem dpt_113 : dpg 113 (fun _ => some (.lrem, 1)) := dpg_0 (fun _ _ h => (dr_bind h).trans rfl)
theorem dpt_176 : dpg 176 (fun _ => some (.areturn, 1)) := dpg_0 (fun _ _ h => (dr_bind h).trans rfl)
theorem dpt_132 : dpg 132 dpii := dpg_ii (fun _ _ _ _ h h1 h2 => (dr_bind h).trans ((dr_bind h1).trans ((dr_bind (dr_s1 h2)).trans rfl)))
theorem dpt_63 : dpg 63 (fun _ => some (.lstore_n 0, 1)) := dpg_0 (fun _ _ h => (dr_bind h).trans rfl)
theorem dpt_64 : dpg 64 (fun _ => some (.lstore_n 1, 1)) := dpg_0 (fun _ _ h => (dr_bind h).trans rfl)
theorem dpt_65 : dpg 65 (fun _ => some (.lstore_n 2, 1)) := dpg_0 (fun _ _ h => (dr_bind h).trans rfl)
theorem dpt_66 : dpg 66 (fun _ => some (.lstore_n 3, 1)) := dpg_0 (fun _ _ h => (dr_bind h).trans rfl)
theorem dpt_75 : dpg 75 (fun _ => some (.astore_n 0, 1)) := dpg_0 (fun _ _ h => (dr_bind h).trans rfl)
theorem dpt_76 : dpg 76 (fun _ => some (.astore_n 1, 1)) := dpg_0 (fun _ _ h => (dr_bind h).trans rfl)
theorem dpt_77 : dpg 77 (fun _ => some (.astore_n 2, 1)) := dpg_0 (fun _ _ h => (dr_bind h).trans rfl)
theorem dpt_78 : dpg 78 (fun _ => some (.astore_n 3, 1)) := dpg_0 (fun _ _ h => (dr_bind h).trans rfl)
noncomputable def dpt : List (Nat × DP) := [(42, fun _ => some (.aload_n 0, 1)), (43, fun _ => some (.aload_n 1, 1)), (44, fun _ => some (.aload_n 2, 1)), (45, fun _ => some (.aload_n 3, 1)), (26, fun _ => some (.iload_n 0, 1)), (27, fun _ => some (.iload_n 1, 1)), (28, fun _ => some (.iload_n 2, 1)), (29, fun _ => some (.iload_n 3, 1)), (2, fun _ => some (.iconst (-1), 1)), (3, fun _ => some (.iconst (0), 1)), (4, fun _ => some (.iconst (1), 1)), (5, fun _ => some (.iconst (2), 1)), (6, fun _ => some (.iconst (3), 1)), (7, fun _ => some (.iconst (4), 1)), (8, fun _ => some (.iconst (5), 1)), (182, dpu2 .invokevirtual), (180, dpu2 .getfield), (172, fun _ => some (.ireturn, 1)), (46, fun _ => some (.iaload, 1)), (167, dps2 .goto), (159, dps2 (.if_icmp .eq)), (160, dps2 (.if_icmp .ne)), (161, dps2 (.if_icmp .lt)), (162, dps2 (.if_icmp .ge)), (163, dps2 (.if_icmp .gt)), (164, dps2 (.if_icmp .le)), (153, dps2 (.ifCond .eq)), (154, dps2 (.ifCond .ne)), (155, dps2 (.ifCond .lt)), (156, dps2 (.ifCond .ge)), (157, dps2 (.ifCond .gt)), (158, dps2 (.ifCond .le)), (96, fun _ => some (.iadd, 1)), (59, fun _ => some (.istore_n 0, 1)), (60, fun _ => some (.istore_n 1, 1)), (61, fun _ => some (.istore_n 2, 1)), (62, fun _ => some (.istore_n 3, 1)), (21, dpu1 .iload), (16, dps1 .bipush), (181, dpu2 .putfield), (184, dpu2 .invokestatic), (87, fun _ => some (.pop, 1)), (54, dpu1 .istore), (17, dps2 .sipush), (79, fun _ => some (.iastore, 1)), (177, fun _ => some (.return_, 1)), (89, fun _ => some (.dup, 1)), (120, fun _ => some (.ishl, 1)), (104, fun _ => some (.imul, 1)), (100, fun _ => some (.isub, 1)), (128, fun _ => some (.ior, 1)), (126, fun _ => some (.iand, 1)), (183, dpu2 .invokespecial), (133, fun _ => some (.i2l, 1)), (9, fun _ => some (.lconst 0, 1)), (10, fun _ => some (.lconst 1, 1)), (92, fun _ => some (.dup2, 1)), (30, fun _ => some (.lload_n 0, 1)), (31, fun _ => some (.lload_n 1, 1)), (32, fun _ => some (.lload_n 2, 1)), (33, fun _ => some (.lload_n 3, 1)), (190, fun _ => some (.arraylength, 1)), (187, dpu2 .new), (20, dpu2 .ldc2_w), (18, dpu1 .ldc), (130, fun _ => some (.ixor, 1)), (19, dpu2 .ldc_w), (80, fun _ => some (.lastore, 1)), (50, fun _ => some (.aaload, 1)), (108, fun _ => some (.idiv, 1)), (25, dpu1 .aload), (173, fun _ => some (.lreturn, 1)), (47, fun _ => some (.laload, 1)), (22, dpu1 .lload), (148, fun _ => some (.lcmp, 1)), (122, fun _ => some (.ishr, 1)), (112, fun _ => some (.irem, 1)), (88, fun _ => some (.pop2, 1)), (136, fun _ => some (.l2i, 1)), (55, dpu1 .lstore), (97, fun _ => some (.ladd, 1)), (124, fun _ => some (.iushr, 1)), (51, fun _ => some (.baload, 1)), (121, fun _ => some (.lshl, 1)), (129, fun _ => some (.lor, 1)), (116, fun _ => some (.ineg, 1)), (145, fun _ => some (.i2b, 1)), (178, dpu2 .getstatic), (58, dpu1 .astore), (189, dpu2 .anewarray), (83, fun _ => some (.aastore, 1)), (101, fun _ => some (.lsub, 1)), (105, fun _ => some (.lmul, 1)), (109, fun _ => some (.ldiv, 1)), (127, fun _ => some (.land, 1)), (147, fun _ => some (.i2s, 1)), (146, fun _ => some (.i2c, 1)), (84, fun _ => some (.bastore, 1)), (191, fun _ => some (.athrow, 1)), (113, fun _ => some (.lrem, 1)), (176, fun _ => some (.areturn, 1)), (132, dpii), (63, fun _ => some (.lstore_n 0, 1)), (64, fun _ => some (.lstore_n 1, 1)), (65, fun _ => some (.lstore_n 2, 1)), (66, fun _ => some (.lstore_n 3, 1)), (75, fun _ => some (.astore_n 0, 1)), (76, fun _ => some (.astore_n 1, 1)), (77, fun _ => some (.astore_n 2, 1)), (78, fun _ => some (.astore_n 3, 1))]
theorem dpt_ok : ∀ e ∈ dpt, dpg e.1 e.2 := List.forall_mem_cons.mpr ⟨dpt_42, List.forall_mem_cons.mpr ⟨dpt_43, List.forall_mem_cons.mpr ⟨dpt_44, List.forall_mem_cons.mpr ⟨dpt_45, List.forall_mem_cons.mpr ⟨dpt_26, List.forall_mem_cons.mpr ⟨dpt_27, List.forall_mem_cons.mpr ⟨dpt_28, List.forall_mem_cons.mpr ⟨dpt_29, List.forall_mem_cons.mpr ⟨dpt_2, List.forall_mem_cons.mpr ⟨dpt_3, List.forall_mem_cons.mpr ⟨dpt_4, List.forall_mem_cons.mpr ⟨dpt_5, List.forall_mem_cons.mpr ⟨dpt_6, List.forall_mem_cons.mpr ⟨dpt_7, List.forall_mem_cons.mpr ⟨dpt_8, List.forall_mem_cons.mpr ⟨dpt_182, List.forall_mem_cons.mpr ⟨dpt_180, List.forall_mem_cons.mpr ⟨dpt_172, List.forall_mem_cons.mpr ⟨dpt_46, List.forall_mem_cons.mpr ⟨dpt_167, List.forall_mem_cons.mpr ⟨dpt_159, List.forall_mem_cons.mpr ⟨dpt_160, List.forall_mem_cons.mpr ⟨dpt_161, List.forall_mem_cons.mpr ⟨dpt_162, List.forall_mem_cons.mpr ⟨dpt_163, List.forall_mem_cons.mpr ⟨dpt_164, List.forall_mem_cons.mpr ⟨dpt_153, List.forall_mem_cons.mpr ⟨dpt_154, List.forall_mem_cons.mpr ⟨dpt_155, List.forall_mem_cons.mpr ⟨dpt_156, List.forall_mem_cons.mpr ⟨dpt_157, List.forall_mem_cons.mpr ⟨dpt_158, List.forall_mem_cons.mpr ⟨dpt_96, List.forall_mem_cons.mpr ⟨dpt_59, List.forall_mem_cons.mpr ⟨dpt_60, List.forall_mem_cons.mpr ⟨dpt_61, List.forall_mem_cons.mpr ⟨dpt_62, List.forall_mem_cons.mpr ⟨dpt_21, List.forall_mem_cons.mpr ⟨dpt_16, List.forall_mem_cons.mpr ⟨dpt_181, List.forall_mem_cons.mpr ⟨dpt_184, List.forall_mem_cons.mpr ⟨dpt_87, List.forall_mem_cons.mpr ⟨dpt_54, List.forall_mem_cons.mpr ⟨dpt_17, List.forall_mem_cons.mpr ⟨dpt_79, List.forall_mem_cons.mpr ⟨dpt_177, List.forall_mem_cons.mpr ⟨dpt_89, List.forall_mem_cons.mpr ⟨dpt_120, List.forall_mem_cons.mpr ⟨dpt_104, List.forall_mem_cons.mpr ⟨dpt_100, List.forall_mem_cons.mpr ⟨dpt_128, List.forall_mem_cons.mpr ⟨dpt_126, List.forall_mem_cons.mpr ⟨dpt_183, List.forall_mem_cons.mpr ⟨dpt_133, List.forall_mem_cons.mpr ⟨dpt_9, List.forall_mem_cons.mpr ⟨dpt_10, List.forall_mem_cons.mpr ⟨dpt_92, List.forall_mem_cons.mpr ⟨dpt_30, List.forall_mem_cons.mpr ⟨dpt_31, List.forall_mem_cons.mpr ⟨dpt_32, List.forall_mem_cons.mpr ⟨dpt_33, List.forall_mem_cons.mpr ⟨dpt_190, List.forall_mem_cons.mpr ⟨dpt_187, List.forall_mem_cons.mpr ⟨dpt_20, List.forall_mem_cons.mpr ⟨dpt_18, List.forall_mem_cons.mpr ⟨dpt_130, List.forall_mem_cons.mpr ⟨dpt_19, List.forall_mem_cons.mpr ⟨dpt_80, List.forall_mem_cons.mpr ⟨dpt_50, List.forall_mem_cons.mpr ⟨dpt_108, List.forall_mem_cons.mpr ⟨dpt_25, List.forall_mem_cons.mpr ⟨dpt_173, List.forall_mem_cons.mpr ⟨dpt_47, List.forall_mem_cons.mpr ⟨dpt_22, List.forall_mem_cons.mpr ⟨dpt_148, List.forall_mem_cons.mpr ⟨dpt_122, List.forall_mem_cons.mpr ⟨dpt_112, List.forall_mem_cons.mpr ⟨dpt_88, List.forall_mem_cons.mpr ⟨dpt_136, List.forall_mem_cons.mpr ⟨dpt_55, List.forall_mem_cons.mpr ⟨dpt_97, List.forall_mem_cons.mpr ⟨dpt_124, List.forall_mem_cons.mpr ⟨dpt_51, List.forall_mem_cons.mpr ⟨dpt_121, List.forall_mem_cons.mpr ⟨dpt_129, List.forall_mem_cons.mpr ⟨dpt_116, List.forall_mem_cons.mpr ⟨dpt_145, List.forall_mem_cons.mpr ⟨dpt_178, List.forall_mem_cons.mpr ⟨dpt_58, List.forall_mem_cons.mpr ⟨dpt_189, List.forall_mem_cons.mpr ⟨dpt_83, List.forall_mem_cons.mpr ⟨dpt_101, List.forall_mem_cons.mpr ⟨dpt_105, List.forall_mem_cons.mpr ⟨dpt_109, List.forall_mem_cons.mpr ⟨dpt_127, List.forall_mem_cons.mpr ⟨dpt_147, List.forall_mem_cons.mpr ⟨dpt_146, List.forall_mem_cons.mpr ⟨dpt_84, List.forall_mem_cons.mpr ⟨dpt_191, List.forall_mem_cons.mpr ⟨dpt_113, List.forall_mem_cons.mpr ⟨dpt_176, List.forall_mem_cons.mpr ⟨dpt_132, List.forall_mem_cons.mpr ⟨dpt_63, List.forall_mem_cons.mpr ⟨dpt_64, List.forall_mem_cons.mpr ⟨dpt_65, List.forall_mem_cons.mpr ⟨dpt_66, List.forall_mem_cons.mpr ⟨dpt_75, List.forall_mem_cons.mpr ⟨dpt_76, List.forall_mem_cons.mpr ⟨dpt_77, List.forall_mem_cons.mpr ⟨dpt_78, fun _ h => absurd h List.not_mem_nil⟩⟩⟩⟩⟩⟩⟩⟩⟩⟩⟩⟩⟩⟩⟩⟩⟩⟩⟩⟩⟩⟩⟩⟩⟩⟩⟩⟩⟩⟩⟩⟩⟩⟩⟩⟩⟩⟩⟩⟩⟩⟩⟩⟩⟩⟩⟩⟩⟩⟩⟩⟩⟩⟩⟩⟩⟩⟩⟩⟩⟩⟩⟩⟩⟩⟩⟩⟩⟩⟩⟩⟩⟩⟩⟩⟩⟩⟩⟩⟩⟩⟩⟩⟩⟩⟩⟩⟩⟩⟩⟩⟩⟩⟩⟩⟩⟩⟩⟩⟩⟩⟩⟩⟩⟩⟩⟩⟩⟩⟩
noncomputable def dfn (n : Nat) (r : List UInt8) : List (Nat × DP) → Option (Instr × Nat)
  | [] => none
  | e :: es => bif Nat.beq n e.1 then e.2 r else dfn n r es
theorem dfn_ok {c : ByteArray} {q : Nat} {b : UInt8} {r : List UInt8} {i : Instr} {m : Nat} (h : c.data.toList.drop q = b :: r) : ∀ l : List (Nat × DP), (∀ e ∈ l, dpg e.1 e.2) → dfn b.toNat r l = some (i, m) → decode c q = .ok (i, m)
  | [], _, hf => absurd hf (by intro z; cases z)
  | e :: es, hl, hf => by
    unfold dfn at hf
    cases hb : Nat.beq b.toNat e.1 with
    | true =>
      rw [hb] at hf
      exact (List.forall_mem_cons.mp hl).1 c q b r i m h (Nat.eq_of_beq_eq_true hb) hf
    | false =>
      rw [hb] at hf
      exact dfn_ok h es (List.forall_mem_cons.mp hl).2 hf
/-- the bytes begin with this instruction, of this length -/
noncomputable def dck (l : List UInt8) (i : Instr) (m : Nat) : Bool := match l with
  | [] => false
  | b :: r => (match dfn b.toNat r dpt with
    | none => false
    | some e => Nat.beq e.2 m && decide (e.1 = i))
theorem dck_ok {c : ByteArray} {q : Nat} {l : List UInt8} {i : Instr} {m : Nat} (h : c.data.toList.drop q = l) (hk : dck l i m = true) : decode c q = .ok (i, m) := by
  match l, h, hk with
  | [], _, hk => exact absurd hk (by intro z; cases z)
  | b :: r, h, hk =>
    unfold dck at hk
    cases hf : dfn b.toNat r dpt with
    | none =>
      simp only [hf] at hk
      exact absurd hk (by intro z; cases z)
    | some e =>
      simp only [hf, Bool.and_eq_true, decide_eq_true_eq] at hk
      obtain ⟨k1, rfl⟩ := hk
      have k2 := Nat.eq_of_beq_eq_true k1
      subst k2
      exact dfn_ok h dpt dpt_ok hf
/-- what lies behind so many bytes -/
noncomputable def dsk (m : Nat) (l : List UInt8) : List UInt8 := match m with
  | 1 => (match l with
    | _ :: r => r
    | [] => [])
  | 2 => (match l with
    | _ :: _ :: r => r
    | _ => [])
  | 3 => (match l with
    | _ :: _ :: _ :: r => r
    | _ => [])
  | m => l.drop m
theorem dsk_ok {m : Nat} {l : List UInt8} : dsk m l = l.drop m := by
  unfold dsk
  split
  · match l with
    | [] => rfl
    | _ :: _ => rfl
  · match l with
    | [] => rfl
    | [_] => rfl
    | _ :: _ :: _ => rfl
  · match l with
    | [] => rfl
    | [_] => rfl
    | [_, _] => rfl
    | _ :: _ :: _ :: _ => rfl
  · rfl
