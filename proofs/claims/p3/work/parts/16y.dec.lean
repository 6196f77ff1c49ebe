/-! decoding, byte by byte: printed by gendec.py -/
def Bt (code : ByteArray) (p b : Nat) : Prop := ∃ h : p < code.size, code[p].toNat = b
theorem dr_u1 {code : ByteArray} {p b : Nat} (h : Bt code p b) : (Reader.u1 : Decoder Nat).runAt code p = .ok (b, p + 1) := by
  obtain ⟨h, e⟩ := h
  subst e
  show ((dite (p < code.size) (fun h => (do set (p + 1); pure code[p].toNat : Decoder Nat)) (fun _ => throw (HasTruncated.truncated p))) : Decoder Nat) code p = _
  rw [dif_pos h]
  rfl
theorem dr_bind {α β : Type} {r : Decoder α} {f : α → Decoder β} {code : ByteArray} {p q : Nat} {a : α} (h : r.runAt code p = .ok (a, q)) : (r >>= f).runAt code p = (f a).runAt code q := by
  show Except.bind (r.runAt code p) (fun x => (f x.1).runAt code x.2) = _
  rw [h]
  rfl
theorem dr_map {α β : Type} {r : Decoder α} {f : α → β} {code : ByteArray} {p q : Nat} {a : α} (h : r.runAt code p = .ok (a, q)) : (f <$> r).runAt code p = .ok (f a, q) := by
  show Except.bind (r.runAt code p) (fun x => .ok (f x.1, x.2)) = _
  rw [h]
  rfl
theorem dr_dec {code : ByteArray} {pc q n : Nat} {ins : Instr} (h : (Decoder.instr pc).runAt code pc = .ok (ins, q)) (e : q = pc + n) : decode code pc = .ok (ins, n) := by
  show Except.bind ((Decoder.instr pc).runAt code pc) (fun x => .ok (x.1, x.2 - pc)) = _
  rw [h, e]
  show Except.ok (ins, pc + n - pc) = _
  rw [Nat.add_sub_cancel_left]
theorem dr_u2 {code : ByteArray} {p a b : Nat} (h : Bt code p a) (g : Bt code (p + 1) b) : (Reader.u2 : Decoder Nat).runAt code p = .ok (a * 256 + b, p + 1 + 1) := (dr_bind (dr_u1 h)).trans (dr_bind (dr_u1 g))
theorem dr_s1 {code : ByteArray} {p a : Nat} (h : Bt code p a) : (Reader.s1 : Decoder Int).runAt code p = .ok (Reader.signed 8 a, p + 1) := dr_map (dr_u1 h)
theorem dr_s2 {code : ByteArray} {p a b : Nat} (h : Bt code p a) (g : Bt code (p + 1) b) : (Reader.s2 : Decoder Int).runAt code p = .ok (Reader.signed 16 (a * 256 + b), p + 1 + 1) := dr_map (dr_u2 h g)
theorem op_46 {code : ByteArray} {pc : Nat} (h : Bt code pc 46) : decode code pc = .ok (.iaload, 1) := dr_dec (dr_bind (dr_u1 h)) rfl
theorem op_47 {code : ByteArray} {pc : Nat} (h : Bt code pc 47) : decode code pc = .ok (.laload, 1) := dr_dec (dr_bind (dr_u1 h)) rfl
theorem op_50 {code : ByteArray} {pc : Nat} (h : Bt code pc 50) : decode code pc = .ok (.aaload, 1) := dr_dec (dr_bind (dr_u1 h)) rfl
theorem op_51 {code : ByteArray} {pc : Nat} (h : Bt code pc 51) : decode code pc = .ok (.baload, 1) := dr_dec (dr_bind (dr_u1 h)) rfl
theorem op_52 {code : ByteArray} {pc : Nat} (h : Bt code pc 52) : decode code pc = .ok (.caload, 1) := dr_dec (dr_bind (dr_u1 h)) rfl
theorem op_79 {code : ByteArray} {pc : Nat} (h : Bt code pc 79) : decode code pc = .ok (.iastore, 1) := dr_dec (dr_bind (dr_u1 h)) rfl
theorem op_80 {code : ByteArray} {pc : Nat} (h : Bt code pc 80) : decode code pc = .ok (.lastore, 1) := dr_dec (dr_bind (dr_u1 h)) rfl
theorem op_83 {code : ByteArray} {pc : Nat} (h : Bt code pc 83) : decode code pc = .ok (.aastore, 1) := dr_dec (dr_bind (dr_u1 h)) rfl
theorem op_84 {code : ByteArray} {pc : Nat} (h : Bt code pc 84) : decode code pc = .ok (.bastore, 1) := dr_dec (dr_bind (dr_u1 h)) rfl
theorem op_85 {code : ByteArray} {pc : Nat} (h : Bt code pc 85) : decode code pc = .ok (.castore, 1) := dr_dec (dr_bind (dr_u1 h)) rfl
theorem op_87 {code : ByteArray} {pc : Nat} (h : Bt code pc 87) : decode code pc = .ok (.pop, 1) := dr_dec (dr_bind (dr_u1 h)) rfl
theorem op_88 {code : ByteArray} {pc : Nat} (h : Bt code pc 88) : decode code pc = .ok (.pop2, 1) := dr_dec (dr_bind (dr_u1 h)) rfl
theorem op_89 {code : ByteArray} {pc : Nat} (h : Bt code pc 89) : decode code pc = .ok (.dup, 1) := dr_dec (dr_bind (dr_u1 h)) rfl
theorem op_92 {code : ByteArray} {pc : Nat} (h : Bt code pc 92) : decode code pc = .ok (.dup2, 1) := dr_dec (dr_bind (dr_u1 h)) rfl
theorem op_96 {code : ByteArray} {pc : Nat} (h : Bt code pc 96) : decode code pc = .ok (.iadd, 1) := dr_dec (dr_bind (dr_u1 h)) rfl
theorem op_97 {code : ByteArray} {pc : Nat} (h : Bt code pc 97) : decode code pc = .ok (.ladd, 1) := dr_dec (dr_bind (dr_u1 h)) rfl
theorem op_100 {code : ByteArray} {pc : Nat} (h : Bt code pc 100) : decode code pc = .ok (.isub, 1) := dr_dec (dr_bind (dr_u1 h)) rfl
theorem op_101 {code : ByteArray} {pc : Nat} (h : Bt code pc 101) : decode code pc = .ok (.lsub, 1) := dr_dec (dr_bind (dr_u1 h)) rfl
theorem op_104 {code : ByteArray} {pc : Nat} (h : Bt code pc 104) : decode code pc = .ok (.imul, 1) := dr_dec (dr_bind (dr_u1 h)) rfl
theorem op_105 {code : ByteArray} {pc : Nat} (h : Bt code pc 105) : decode code pc = .ok (.lmul, 1) := dr_dec (dr_bind (dr_u1 h)) rfl
theorem op_108 {code : ByteArray} {pc : Nat} (h : Bt code pc 108) : decode code pc = .ok (.idiv, 1) := dr_dec (dr_bind (dr_u1 h)) rfl
theorem op_109 {code : ByteArray} {pc : Nat} (h : Bt code pc 109) : decode code pc = .ok (.ldiv, 1) := dr_dec (dr_bind (dr_u1 h)) rfl
theorem op_112 {code : ByteArray} {pc : Nat} (h : Bt code pc 112) : decode code pc = .ok (.irem, 1) := dr_dec (dr_bind (dr_u1 h)) rfl
theorem op_113 {code : ByteArray} {pc : Nat} (h : Bt code pc 113) : decode code pc = .ok (.lrem, 1) := dr_dec (dr_bind (dr_u1 h)) rfl
theorem op_116 {code : ByteArray} {pc : Nat} (h : Bt code pc 116) : decode code pc = .ok (.ineg, 1) := dr_dec (dr_bind (dr_u1 h)) rfl
theorem op_120 {code : ByteArray} {pc : Nat} (h : Bt code pc 120) : decode code pc = .ok (.ishl, 1) := dr_dec (dr_bind (dr_u1 h)) rfl
theorem op_121 {code : ByteArray} {pc : Nat} (h : Bt code pc 121) : decode code pc = .ok (.lshl, 1) := dr_dec (dr_bind (dr_u1 h)) rfl
theorem op_122 {code : ByteArray} {pc : Nat} (h : Bt code pc 122) : decode code pc = .ok (.ishr, 1) := dr_dec (dr_bind (dr_u1 h)) rfl
theorem op_124 {code : ByteArray} {pc : Nat} (h : Bt code pc 124) : decode code pc = .ok (.iushr, 1) := dr_dec (dr_bind (dr_u1 h)) rfl
theorem op_126 {code : ByteArray} {pc : Nat} (h : Bt code pc 126) : decode code pc = .ok (.iand, 1) := dr_dec (dr_bind (dr_u1 h)) rfl
theorem op_127 {code : ByteArray} {pc : Nat} (h : Bt code pc 127) : decode code pc = .ok (.land, 1) := dr_dec (dr_bind (dr_u1 h)) rfl
theorem op_128 {code : ByteArray} {pc : Nat} (h : Bt code pc 128) : decode code pc = .ok (.ior, 1) := dr_dec (dr_bind (dr_u1 h)) rfl
theorem op_129 {code : ByteArray} {pc : Nat} (h : Bt code pc 129) : decode code pc = .ok (.lor, 1) := dr_dec (dr_bind (dr_u1 h)) rfl
theorem op_130 {code : ByteArray} {pc : Nat} (h : Bt code pc 130) : decode code pc = .ok (.ixor, 1) := dr_dec (dr_bind (dr_u1 h)) rfl
theorem op_133 {code : ByteArray} {pc : Nat} (h : Bt code pc 133) : decode code pc = .ok (.i2l, 1) := dr_dec (dr_bind (dr_u1 h)) rfl
theorem op_136 {code : ByteArray} {pc : Nat} (h : Bt code pc 136) : decode code pc = .ok (.l2i, 1) := dr_dec (dr_bind (dr_u1 h)) rfl
theorem op_145 {code : ByteArray} {pc : Nat} (h : Bt code pc 145) : decode code pc = .ok (.i2b, 1) := dr_dec (dr_bind (dr_u1 h)) rfl
theorem op_146 {code : ByteArray} {pc : Nat} (h : Bt code pc 146) : decode code pc = .ok (.i2c, 1) := dr_dec (dr_bind (dr_u1 h)) rfl
theorem op_147 {code : ByteArray} {pc : Nat} (h : Bt code pc 147) : decode code pc = .ok (.i2s, 1) := dr_dec (dr_bind (dr_u1 h)) rfl
theorem op_148 {code : ByteArray} {pc : Nat} (h : Bt code pc 148) : decode code pc = .ok (.lcmp, 1) := dr_dec (dr_bind (dr_u1 h)) rfl
theorem op_172 {code : ByteArray} {pc : Nat} (h : Bt code pc 172) : decode code pc = .ok (.ireturn, 1) := dr_dec (dr_bind (dr_u1 h)) rfl
theorem op_173 {code : ByteArray} {pc : Nat} (h : Bt code pc 173) : decode code pc = .ok (.lreturn, 1) := dr_dec (dr_bind (dr_u1 h)) rfl
theorem op_176 {code : ByteArray} {pc : Nat} (h : Bt code pc 176) : decode code pc = .ok (.areturn, 1) := dr_dec (dr_bind (dr_u1 h)) rfl
theorem op_177 {code : ByteArray} {pc : Nat} (h : Bt code pc 177) : decode code pc = .ok (.return_, 1) := dr_dec (dr_bind (dr_u1 h)) rfl
theorem op_190 {code : ByteArray} {pc : Nat} (h : Bt code pc 190) : decode code pc = .ok (.arraylength, 1) := dr_dec (dr_bind (dr_u1 h)) rfl
theorem op_42 {code : ByteArray} {pc : Nat} (h : Bt code pc 42) : decode code pc = .ok (.aload_n 0, 1) := dr_dec (dr_bind (dr_u1 h)) rfl
theorem op_43 {code : ByteArray} {pc : Nat} (h : Bt code pc 43) : decode code pc = .ok (.aload_n 1, 1) := dr_dec (dr_bind (dr_u1 h)) rfl
theorem op_44 {code : ByteArray} {pc : Nat} (h : Bt code pc 44) : decode code pc = .ok (.aload_n 2, 1) := dr_dec (dr_bind (dr_u1 h)) rfl
theorem op_45 {code : ByteArray} {pc : Nat} (h : Bt code pc 45) : decode code pc = .ok (.aload_n 3, 1) := dr_dec (dr_bind (dr_u1 h)) rfl
theorem op_75 {code : ByteArray} {pc : Nat} (h : Bt code pc 75) : decode code pc = .ok (.astore_n 0, 1) := dr_dec (dr_bind (dr_u1 h)) rfl
theorem op_76 {code : ByteArray} {pc : Nat} (h : Bt code pc 76) : decode code pc = .ok (.astore_n 1, 1) := dr_dec (dr_bind (dr_u1 h)) rfl
theorem op_77 {code : ByteArray} {pc : Nat} (h : Bt code pc 77) : decode code pc = .ok (.astore_n 2, 1) := dr_dec (dr_bind (dr_u1 h)) rfl
theorem op_78 {code : ByteArray} {pc : Nat} (h : Bt code pc 78) : decode code pc = .ok (.astore_n 3, 1) := dr_dec (dr_bind (dr_u1 h)) rfl
theorem op_26 {code : ByteArray} {pc : Nat} (h : Bt code pc 26) : decode code pc = .ok (.iload_n 0, 1) := dr_dec (dr_bind (dr_u1 h)) rfl
theorem op_27 {code : ByteArray} {pc : Nat} (h : Bt code pc 27) : decode code pc = .ok (.iload_n 1, 1) := dr_dec (dr_bind (dr_u1 h)) rfl
theorem op_28 {code : ByteArray} {pc : Nat} (h : Bt code pc 28) : decode code pc = .ok (.iload_n 2, 1) := dr_dec (dr_bind (dr_u1 h)) rfl
theorem op_29 {code : ByteArray} {pc : Nat} (h : Bt code pc 29) : decode code pc = .ok (.iload_n 3, 1) := dr_dec (dr_bind (dr_u1 h)) rfl
theorem op_30 {code : ByteArray} {pc : Nat} (h : Bt code pc 30) : decode code pc = .ok (.lload_n 0, 1) := dr_dec (dr_bind (dr_u1 h)) rfl
theorem op_31 {code : ByteArray} {pc : Nat} (h : Bt code pc 31) : decode code pc = .ok (.lload_n 1, 1) := dr_dec (dr_bind (dr_u1 h)) rfl
theorem op_32 {code : ByteArray} {pc : Nat} (h : Bt code pc 32) : decode code pc = .ok (.lload_n 2, 1) := dr_dec (dr_bind (dr_u1 h)) rfl
theorem op_33 {code : ByteArray} {pc : Nat} (h : Bt code pc 33) : decode code pc = .ok (.lload_n 3, 1) := dr_dec (dr_bind (dr_u1 h)) rfl
theorem op_59 {code : ByteArray} {pc : Nat} (h : Bt code pc 59) : decode code pc = .ok (.istore_n 0, 1) := dr_dec (dr_bind (dr_u1 h)) rfl
theorem op_60 {code : ByteArray} {pc : Nat} (h : Bt code pc 60) : decode code pc = .ok (.istore_n 1, 1) := dr_dec (dr_bind (dr_u1 h)) rfl
theorem op_61 {code : ByteArray} {pc : Nat} (h : Bt code pc 61) : decode code pc = .ok (.istore_n 2, 1) := dr_dec (dr_bind (dr_u1 h)) rfl
theorem op_62 {code : ByteArray} {pc : Nat} (h : Bt code pc 62) : decode code pc = .ok (.istore_n 3, 1) := dr_dec (dr_bind (dr_u1 h)) rfl
theorem op_63 {code : ByteArray} {pc : Nat} (h : Bt code pc 63) : decode code pc = .ok (.lstore_n 0, 1) := dr_dec (dr_bind (dr_u1 h)) rfl
theorem op_64 {code : ByteArray} {pc : Nat} (h : Bt code pc 64) : decode code pc = .ok (.lstore_n 1, 1) := dr_dec (dr_bind (dr_u1 h)) rfl
theorem op_65 {code : ByteArray} {pc : Nat} (h : Bt code pc 65) : decode code pc = .ok (.lstore_n 2, 1) := dr_dec (dr_bind (dr_u1 h)) rfl
theorem op_66 {code : ByteArray} {pc : Nat} (h : Bt code pc 66) : decode code pc = .ok (.lstore_n 3, 1) := dr_dec (dr_bind (dr_u1 h)) rfl
theorem op_2 {code : ByteArray} {pc : Nat} (h : Bt code pc 2) : decode code pc = .ok (.iconst (-1), 1) := dr_dec (dr_bind (dr_u1 h)) rfl
theorem op_3 {code : ByteArray} {pc : Nat} (h : Bt code pc 3) : decode code pc = .ok (.iconst 0, 1) := dr_dec (dr_bind (dr_u1 h)) rfl
theorem op_4 {code : ByteArray} {pc : Nat} (h : Bt code pc 4) : decode code pc = .ok (.iconst 1, 1) := dr_dec (dr_bind (dr_u1 h)) rfl
theorem op_5 {code : ByteArray} {pc : Nat} (h : Bt code pc 5) : decode code pc = .ok (.iconst 2, 1) := dr_dec (dr_bind (dr_u1 h)) rfl
theorem op_6 {code : ByteArray} {pc : Nat} (h : Bt code pc 6) : decode code pc = .ok (.iconst 3, 1) := dr_dec (dr_bind (dr_u1 h)) rfl
theorem op_7 {code : ByteArray} {pc : Nat} (h : Bt code pc 7) : decode code pc = .ok (.iconst 4, 1) := dr_dec (dr_bind (dr_u1 h)) rfl
theorem op_8 {code : ByteArray} {pc : Nat} (h : Bt code pc 8) : decode code pc = .ok (.iconst 5, 1) := dr_dec (dr_bind (dr_u1 h)) rfl
theorem op_9 {code : ByteArray} {pc : Nat} (h : Bt code pc 9) : decode code pc = .ok (.lconst 0, 1) := dr_dec (dr_bind (dr_u1 h)) rfl
theorem op_10 {code : ByteArray} {pc : Nat} (h : Bt code pc 10) : decode code pc = .ok (.lconst 1, 1) := dr_dec (dr_bind (dr_u1 h)) rfl
theorem op_18 {code : ByteArray} {pc a : Nat} (h : Bt code pc 18) (h1 : Bt code (pc + 1) a) : decode code pc = .ok (.ldc a, 2) := dr_dec ((dr_bind (dr_u1 h)).trans (dr_bind (dr_u1 h1))) rfl
theorem op_21 {code : ByteArray} {pc a : Nat} (h : Bt code pc 21) (h1 : Bt code (pc + 1) a) : decode code pc = .ok (.iload a, 2) := dr_dec ((dr_bind (dr_u1 h)).trans (dr_bind (dr_u1 h1))) rfl
theorem op_22 {code : ByteArray} {pc a : Nat} (h : Bt code pc 22) (h1 : Bt code (pc + 1) a) : decode code pc = .ok (.lload a, 2) := dr_dec ((dr_bind (dr_u1 h)).trans (dr_bind (dr_u1 h1))) rfl
theorem op_25 {code : ByteArray} {pc a : Nat} (h : Bt code pc 25) (h1 : Bt code (pc + 1) a) : decode code pc = .ok (.aload a, 2) := dr_dec ((dr_bind (dr_u1 h)).trans (dr_bind (dr_u1 h1))) rfl
theorem op_54 {code : ByteArray} {pc a : Nat} (h : Bt code pc 54) (h1 : Bt code (pc + 1) a) : decode code pc = .ok (.istore a, 2) := dr_dec ((dr_bind (dr_u1 h)).trans (dr_bind (dr_u1 h1))) rfl
theorem op_55 {code : ByteArray} {pc a : Nat} (h : Bt code pc 55) (h1 : Bt code (pc + 1) a) : decode code pc = .ok (.lstore a, 2) := dr_dec ((dr_bind (dr_u1 h)).trans (dr_bind (dr_u1 h1))) rfl
theorem op_58 {code : ByteArray} {pc a : Nat} (h : Bt code pc 58) (h1 : Bt code (pc + 1) a) : decode code pc = .ok (.astore a, 2) := dr_dec ((dr_bind (dr_u1 h)).trans (dr_bind (dr_u1 h1))) rfl
theorem op_16 {code : ByteArray} {pc a : Nat} (h : Bt code pc 16) (h1 : Bt code (pc + 1) a) : decode code pc = .ok (.bipush (Reader.signed 8 a), 2) := dr_dec ((dr_bind (dr_u1 h)).trans (dr_bind (dr_s1 h1))) rfl
theorem op_19 {code : ByteArray} {pc a b : Nat} (h : Bt code pc 19) (h1 : Bt code (pc + 1) a) (h2 : Bt code (pc + 1 + 1) b) : decode code pc = .ok (.ldc_w (a * 256 + b), 3) := dr_dec ((dr_bind (dr_u1 h)).trans (dr_bind (dr_u2 h1 h2))) rfl
theorem op_20 {code : ByteArray} {pc a b : Nat} (h : Bt code pc 20) (h1 : Bt code (pc + 1) a) (h2 : Bt code (pc + 1 + 1) b) : decode code pc = .ok (.ldc2_w (a * 256 + b), 3) := dr_dec ((dr_bind (dr_u1 h)).trans (dr_bind (dr_u2 h1 h2))) rfl
theorem op_178 {code : ByteArray} {pc a b : Nat} (h : Bt code pc 178) (h1 : Bt code (pc + 1) a) (h2 : Bt code (pc + 1 + 1) b) : decode code pc = .ok (.getstatic (a * 256 + b), 3) := dr_dec ((dr_bind (dr_u1 h)).trans (dr_bind (dr_u2 h1 h2))) rfl
theorem op_180 {code : ByteArray} {pc a b : Nat} (h : Bt code pc 180) (h1 : Bt code (pc + 1) a) (h2 : Bt code (pc + 1 + 1) b) : decode code pc = .ok (.getfield (a * 256 + b), 3) := dr_dec ((dr_bind (dr_u1 h)).trans (dr_bind (dr_u2 h1 h2))) rfl
theorem op_181 {code : ByteArray} {pc a b : Nat} (h : Bt code pc 181) (h1 : Bt code (pc + 1) a) (h2 : Bt code (pc + 1 + 1) b) : decode code pc = .ok (.putfield (a * 256 + b), 3) := dr_dec ((dr_bind (dr_u1 h)).trans (dr_bind (dr_u2 h1 h2))) rfl
theorem op_182 {code : ByteArray} {pc a b : Nat} (h : Bt code pc 182) (h1 : Bt code (pc + 1) a) (h2 : Bt code (pc + 1 + 1) b) : decode code pc = .ok (.invokevirtual (a * 256 + b), 3) := dr_dec ((dr_bind (dr_u1 h)).trans (dr_bind (dr_u2 h1 h2))) rfl
theorem op_183 {code : ByteArray} {pc a b : Nat} (h : Bt code pc 183) (h1 : Bt code (pc + 1) a) (h2 : Bt code (pc + 1 + 1) b) : decode code pc = .ok (.invokespecial (a * 256 + b), 3) := dr_dec ((dr_bind (dr_u1 h)).trans (dr_bind (dr_u2 h1 h2))) rfl
theorem op_184 {code : ByteArray} {pc a b : Nat} (h : Bt code pc 184) (h1 : Bt code (pc + 1) a) (h2 : Bt code (pc + 1 + 1) b) : decode code pc = .ok (.invokestatic (a * 256 + b), 3) := dr_dec ((dr_bind (dr_u1 h)).trans (dr_bind (dr_u2 h1 h2))) rfl
theorem op_187 {code : ByteArray} {pc a b : Nat} (h : Bt code pc 187) (h1 : Bt code (pc + 1) a) (h2 : Bt code (pc + 1 + 1) b) : decode code pc = .ok (.new (a * 256 + b), 3) := dr_dec ((dr_bind (dr_u1 h)).trans (dr_bind (dr_u2 h1 h2))) rfl
theorem op_189 {code : ByteArray} {pc a b : Nat} (h : Bt code pc 189) (h1 : Bt code (pc + 1) a) (h2 : Bt code (pc + 1 + 1) b) : decode code pc = .ok (.anewarray (a * 256 + b), 3) := dr_dec ((dr_bind (dr_u1 h)).trans (dr_bind (dr_u2 h1 h2))) rfl
theorem op_17 {code : ByteArray} {pc a b : Nat} (h : Bt code pc 17) (h1 : Bt code (pc + 1) a) (h2 : Bt code (pc + 1 + 1) b) : decode code pc = .ok (.sipush (Reader.signed 16 (a * 256 + b)), 3) := dr_dec ((dr_bind (dr_u1 h)).trans (dr_bind (dr_s2 h1 h2))) rfl
theorem op_153 {code : ByteArray} {pc a b : Nat} (h : Bt code pc 153) (h1 : Bt code (pc + 1) a) (h2 : Bt code (pc + 1 + 1) b) : decode code pc = .ok (.ifCond .eq (Reader.signed 16 (a * 256 + b)), 3) := dr_dec ((dr_bind (dr_u1 h)).trans (dr_bind (dr_s2 h1 h2))) rfl
theorem op_154 {code : ByteArray} {pc a b : Nat} (h : Bt code pc 154) (h1 : Bt code (pc + 1) a) (h2 : Bt code (pc + 1 + 1) b) : decode code pc = .ok (.ifCond .ne (Reader.signed 16 (a * 256 + b)), 3) := dr_dec ((dr_bind (dr_u1 h)).trans (dr_bind (dr_s2 h1 h2))) rfl
theorem op_155 {code : ByteArray} {pc a b : Nat} (h : Bt code pc 155) (h1 : Bt code (pc + 1) a) (h2 : Bt code (pc + 1 + 1) b) : decode code pc = .ok (.ifCond .lt (Reader.signed 16 (a * 256 + b)), 3) := dr_dec ((dr_bind (dr_u1 h)).trans (dr_bind (dr_s2 h1 h2))) rfl
theorem op_156 {code : ByteArray} {pc a b : Nat} (h : Bt code pc 156) (h1 : Bt code (pc + 1) a) (h2 : Bt code (pc + 1 + 1) b) : decode code pc = .ok (.ifCond .ge (Reader.signed 16 (a * 256 + b)), 3) := dr_dec ((dr_bind (dr_u1 h)).trans (dr_bind (dr_s2 h1 h2))) rfl
theorem op_157 {code : ByteArray} {pc a b : Nat} (h : Bt code pc 157) (h1 : Bt code (pc + 1) a) (h2 : Bt code (pc + 1 + 1) b) : decode code pc = .ok (.ifCond .gt (Reader.signed 16 (a * 256 + b)), 3) := dr_dec ((dr_bind (dr_u1 h)).trans (dr_bind (dr_s2 h1 h2))) rfl
theorem op_158 {code : ByteArray} {pc a b : Nat} (h : Bt code pc 158) (h1 : Bt code (pc + 1) a) (h2 : Bt code (pc + 1 + 1) b) : decode code pc = .ok (.ifCond .le (Reader.signed 16 (a * 256 + b)), 3) := dr_dec ((dr_bind (dr_u1 h)).trans (dr_bind (dr_s2 h1 h2))) rfl
theorem op_159 {code : ByteArray} {pc a b : Nat} (h : Bt code pc 159) (h1 : Bt code (pc + 1) a) (h2 : Bt code (pc + 1 + 1) b) : decode code pc = .ok (.if_icmp .eq (Reader.signed 16 (a * 256 + b)), 3) := dr_dec ((dr_bind (dr_u1 h)).trans (dr_bind (dr_s2 h1 h2))) rfl
theorem op_160 {code : ByteArray} {pc a b : Nat} (h : Bt code pc 160) (h1 : Bt code (pc + 1) a) (h2 : Bt code (pc + 1 + 1) b) : decode code pc = .ok (.if_icmp .ne (Reader.signed 16 (a * 256 + b)), 3) := dr_dec ((dr_bind (dr_u1 h)).trans (dr_bind (dr_s2 h1 h2))) rfl
theorem op_161 {code : ByteArray} {pc a b : Nat} (h : Bt code pc 161) (h1 : Bt code (pc + 1) a) (h2 : Bt code (pc + 1 + 1) b) : decode code pc = .ok (.if_icmp .lt (Reader.signed 16 (a * 256 + b)), 3) := dr_dec ((dr_bind (dr_u1 h)).trans (dr_bind (dr_s2 h1 h2))) rfl
theorem op_162 {code : ByteArray} {pc a b : Nat} (h : Bt code pc 162) (h1 : Bt code (pc + 1) a) (h2 : Bt code (pc + 1 + 1) b) : decode code pc = .ok (.if_icmp .ge (Reader.signed 16 (a * 256 + b)), 3) := dr_dec ((dr_bind (dr_u1 h)).trans (dr_bind (dr_s2 h1 h2))) rfl
theorem op_163 {code : ByteArray} {pc a b : Nat} (h : Bt code pc 163) (h1 : Bt code (pc + 1) a) (h2 : Bt code (pc + 1 + 1) b) : decode code pc = .ok (.if_icmp .gt (Reader.signed 16 (a * 256 + b)), 3) := dr_dec ((dr_bind (dr_u1 h)).trans (dr_bind (dr_s2 h1 h2))) rfl
theorem op_164 {code : ByteArray} {pc a b : Nat} (h : Bt code pc 164) (h1 : Bt code (pc + 1) a) (h2 : Bt code (pc + 1 + 1) b) : decode code pc = .ok (.if_icmp .le (Reader.signed 16 (a * 256 + b)), 3) := dr_dec ((dr_bind (dr_u1 h)).trans (dr_bind (dr_s2 h1 h2))) rfl
theorem op_167 {code : ByteArray} {pc a b : Nat} (h : Bt code pc 167) (h1 : Bt code (pc + 1) a) (h2 : Bt code (pc + 1 + 1) b) : decode code pc = .ok (.goto (Reader.signed 16 (a * 256 + b)), 3) := dr_dec ((dr_bind (dr_u1 h)).trans (dr_bind (dr_s2 h1 h2))) rfl
theorem op_132 {code : ByteArray} {pc a b : Nat} (h : Bt code pc 132) (h1 : Bt code (pc + 1) a) (h2 : Bt code (pc + 1 + 1) b) : decode code pc = .ok (.iinc a (Reader.signed 8 b), 3) := dr_dec ((dr_bind (dr_u1 h)).trans ((dr_bind (dr_u1 h1)).trans (dr_bind (dr_s1 h2)))) rfl
theorem op_188_4 {code : ByteArray} {pc : Nat} (h : Bt code pc 188) (h1 : Bt code (pc + 1) 4) : decode code pc = .ok (.newarray .boolean, 2) := dr_dec ((dr_bind (dr_u1 h)).trans (dr_bind (dr_u1 h1))) rfl
theorem op_188_5 {code : ByteArray} {pc : Nat} (h : Bt code pc 188) (h1 : Bt code (pc + 1) 5) : decode code pc = .ok (.newarray .char, 2) := dr_dec ((dr_bind (dr_u1 h)).trans (dr_bind (dr_u1 h1))) rfl
theorem op_188_6 {code : ByteArray} {pc : Nat} (h : Bt code pc 188) (h1 : Bt code (pc + 1) 6) : decode code pc = .ok (.newarray .float, 2) := dr_dec ((dr_bind (dr_u1 h)).trans (dr_bind (dr_u1 h1))) rfl
theorem op_188_7 {code : ByteArray} {pc : Nat} (h : Bt code pc 188) (h1 : Bt code (pc + 1) 7) : decode code pc = .ok (.newarray .double, 2) := dr_dec ((dr_bind (dr_u1 h)).trans (dr_bind (dr_u1 h1))) rfl
theorem op_188_8 {code : ByteArray} {pc : Nat} (h : Bt code pc 188) (h1 : Bt code (pc + 1) 8) : decode code pc = .ok (.newarray .byte, 2) := dr_dec ((dr_bind (dr_u1 h)).trans (dr_bind (dr_u1 h1))) rfl
theorem op_188_9 {code : ByteArray} {pc : Nat} (h : Bt code pc 188) (h1 : Bt code (pc + 1) 9) : decode code pc = .ok (.newarray .short, 2) := dr_dec ((dr_bind (dr_u1 h)).trans (dr_bind (dr_u1 h1))) rfl
theorem op_188_10 {code : ByteArray} {pc : Nat} (h : Bt code pc 188) (h1 : Bt code (pc + 1) 10) : decode code pc = .ok (.newarray .int, 2) := dr_dec ((dr_bind (dr_u1 h)).trans (dr_bind (dr_u1 h1))) rfl
theorem op_188_11 {code : ByteArray} {pc : Nat} (h : Bt code pc 188) (h1 : Bt code (pc + 1) 11) : decode code pc = .ok (.newarray .long, 2) := dr_dec ((dr_bind (dr_u1 h)).trans (dr_bind (dr_u1 h1))) rfl
def cnD : Jvm.ClassFile.Cond → Nat
  | .eq => 0 | .ne => 1 | .lt => 2 | .ge => 3 | .gt => 4 | .le => 5
def atD : ArrayType → Nat
  | .boolean => 4 | .char => 5 | .float => 6 | .double => 7 | .byte => 8 | .short => 9 | .int => 10 | .long => 11
/-- whether an instruction of a length stands at the head of a row of bytes -/
def okD (ins : Instr) (len : Nat) (L : List UInt8) : Bool := match ins with
  | .iaload => (match L with | b :: _ => Nat.beq len 1 && Nat.beq b.toNat 46 | _ => false)
  | .laload => (match L with | b :: _ => Nat.beq len 1 && Nat.beq b.toNat 47 | _ => false)
  | .aaload => (match L with | b :: _ => Nat.beq len 1 && Nat.beq b.toNat 50 | _ => false)
  | .baload => (match L with | b :: _ => Nat.beq len 1 && Nat.beq b.toNat 51 | _ => false)
  | .caload => (match L with | b :: _ => Nat.beq len 1 && Nat.beq b.toNat 52 | _ => false)
  | .iastore => (match L with | b :: _ => Nat.beq len 1 && Nat.beq b.toNat 79 | _ => false)
  | .lastore => (match L with | b :: _ => Nat.beq len 1 && Nat.beq b.toNat 80 | _ => false)
  | .aastore => (match L with | b :: _ => Nat.beq len 1 && Nat.beq b.toNat 83 | _ => false)
  | .bastore => (match L with | b :: _ => Nat.beq len 1 && Nat.beq b.toNat 84 | _ => false)
  | .castore => (match L with | b :: _ => Nat.beq len 1 && Nat.beq b.toNat 85 | _ => false)
  | .pop => (match L with | b :: _ => Nat.beq len 1 && Nat.beq b.toNat 87 | _ => false)
  | .pop2 => (match L with | b :: _ => Nat.beq len 1 && Nat.beq b.toNat 88 | _ => false)
  | .dup => (match L with | b :: _ => Nat.beq len 1 && Nat.beq b.toNat 89 | _ => false)
  | .dup2 => (match L with | b :: _ => Nat.beq len 1 && Nat.beq b.toNat 92 | _ => false)
  | .iadd => (match L with | b :: _ => Nat.beq len 1 && Nat.beq b.toNat 96 | _ => false)
  | .ladd => (match L with | b :: _ => Nat.beq len 1 && Nat.beq b.toNat 97 | _ => false)
  | .isub => (match L with | b :: _ => Nat.beq len 1 && Nat.beq b.toNat 100 | _ => false)
  | .lsub => (match L with | b :: _ => Nat.beq len 1 && Nat.beq b.toNat 101 | _ => false)
  | .imul => (match L with | b :: _ => Nat.beq len 1 && Nat.beq b.toNat 104 | _ => false)
  | .lmul => (match L with | b :: _ => Nat.beq len 1 && Nat.beq b.toNat 105 | _ => false)
  | .idiv => (match L with | b :: _ => Nat.beq len 1 && Nat.beq b.toNat 108 | _ => false)
  | .ldiv => (match L with | b :: _ => Nat.beq len 1 && Nat.beq b.toNat 109 | _ => false)
  | .irem => (match L with | b :: _ => Nat.beq len 1 && Nat.beq b.toNat 112 | _ => false)
  | .lrem => (match L with | b :: _ => Nat.beq len 1 && Nat.beq b.toNat 113 | _ => false)
  | .ineg => (match L with | b :: _ => Nat.beq len 1 && Nat.beq b.toNat 116 | _ => false)
  | .ishl => (match L with | b :: _ => Nat.beq len 1 && Nat.beq b.toNat 120 | _ => false)
  | .lshl => (match L with | b :: _ => Nat.beq len 1 && Nat.beq b.toNat 121 | _ => false)
  | .ishr => (match L with | b :: _ => Nat.beq len 1 && Nat.beq b.toNat 122 | _ => false)
  | .iushr => (match L with | b :: _ => Nat.beq len 1 && Nat.beq b.toNat 124 | _ => false)
  | .iand => (match L with | b :: _ => Nat.beq len 1 && Nat.beq b.toNat 126 | _ => false)
  | .land => (match L with | b :: _ => Nat.beq len 1 && Nat.beq b.toNat 127 | _ => false)
  | .ior => (match L with | b :: _ => Nat.beq len 1 && Nat.beq b.toNat 128 | _ => false)
  | .lor => (match L with | b :: _ => Nat.beq len 1 && Nat.beq b.toNat 129 | _ => false)
  | .ixor => (match L with | b :: _ => Nat.beq len 1 && Nat.beq b.toNat 130 | _ => false)
  | .i2l => (match L with | b :: _ => Nat.beq len 1 && Nat.beq b.toNat 133 | _ => false)
  | .l2i => (match L with | b :: _ => Nat.beq len 1 && Nat.beq b.toNat 136 | _ => false)
  | .i2b => (match L with | b :: _ => Nat.beq len 1 && Nat.beq b.toNat 145 | _ => false)
  | .i2c => (match L with | b :: _ => Nat.beq len 1 && Nat.beq b.toNat 146 | _ => false)
  | .i2s => (match L with | b :: _ => Nat.beq len 1 && Nat.beq b.toNat 147 | _ => false)
  | .lcmp => (match L with | b :: _ => Nat.beq len 1 && Nat.beq b.toNat 148 | _ => false)
  | .ireturn => (match L with | b :: _ => Nat.beq len 1 && Nat.beq b.toNat 172 | _ => false)
  | .lreturn => (match L with | b :: _ => Nat.beq len 1 && Nat.beq b.toNat 173 | _ => false)
  | .areturn => (match L with | b :: _ => Nat.beq len 1 && Nat.beq b.toNat 176 | _ => false)
  | .return_ => (match L with | b :: _ => Nat.beq len 1 && Nat.beq b.toNat 177 | _ => false)
  | .arraylength => (match L with | b :: _ => Nat.beq len 1 && Nat.beq b.toNat 190 | _ => false)
  | .aload_n k => (match L with | b :: _ => Nat.beq len 1 && Nat.beq b.toNat (42 + k.val) | _ => false)
  | .astore_n k => (match L with | b :: _ => Nat.beq len 1 && Nat.beq b.toNat (75 + k.val) | _ => false)
  | .iload_n k => (match L with | b :: _ => Nat.beq len 1 && Nat.beq b.toNat (26 + k.val) | _ => false)
  | .lload_n k => (match L with | b :: _ => Nat.beq len 1 && Nat.beq b.toNat (30 + k.val) | _ => false)
  | .istore_n k => (match L with | b :: _ => Nat.beq len 1 && Nat.beq b.toNat (59 + k.val) | _ => false)
  | .lstore_n k => (match L with | b :: _ => Nat.beq len 1 && Nat.beq b.toNat (63 + k.val) | _ => false)
  | .iconst i => (match L with | b :: _ => Nat.beq len 1 && Nat.ble 2 b.toNat && Nat.ble b.toNat 8 && decide (i = (b.toNat : Int) - 3) | _ => false)
  | .lconst k => (match L with | b :: _ => Nat.beq len 1 && Nat.beq b.toNat (9 + k.val) | _ => false)
  | .ldc x => (match L with | b :: a :: _ => Nat.beq len 2 && Nat.beq b.toNat 18 && Nat.beq x a.toNat | _ => false)
  | .iload x => (match L with | b :: a :: _ => Nat.beq len 2 && Nat.beq b.toNat 21 && Nat.beq x a.toNat | _ => false)
  | .lload x => (match L with | b :: a :: _ => Nat.beq len 2 && Nat.beq b.toNat 22 && Nat.beq x a.toNat | _ => false)
  | .aload x => (match L with | b :: a :: _ => Nat.beq len 2 && Nat.beq b.toNat 25 && Nat.beq x a.toNat | _ => false)
  | .istore x => (match L with | b :: a :: _ => Nat.beq len 2 && Nat.beq b.toNat 54 && Nat.beq x a.toNat | _ => false)
  | .lstore x => (match L with | b :: a :: _ => Nat.beq len 2 && Nat.beq b.toNat 55 && Nat.beq x a.toNat | _ => false)
  | .astore x => (match L with | b :: a :: _ => Nat.beq len 2 && Nat.beq b.toNat 58 && Nat.beq x a.toNat | _ => false)
  | .bipush x => (match L with | b :: a :: _ => Nat.beq len 2 && Nat.beq b.toNat 16 && decide (x = Reader.signed 8 a.toNat) | _ => false)
  | .ldc_w x => (match L with | b :: a :: c :: _ => Nat.beq len 3 && Nat.beq b.toNat 19 && Nat.beq x (a.toNat * 256 + c.toNat) | _ => false)
  | .ldc2_w x => (match L with | b :: a :: c :: _ => Nat.beq len 3 && Nat.beq b.toNat 20 && Nat.beq x (a.toNat * 256 + c.toNat) | _ => false)
  | .getstatic x => (match L with | b :: a :: c :: _ => Nat.beq len 3 && Nat.beq b.toNat 178 && Nat.beq x (a.toNat * 256 + c.toNat) | _ => false)
  | .getfield x => (match L with | b :: a :: c :: _ => Nat.beq len 3 && Nat.beq b.toNat 180 && Nat.beq x (a.toNat * 256 + c.toNat) | _ => false)
  | .putfield x => (match L with | b :: a :: c :: _ => Nat.beq len 3 && Nat.beq b.toNat 181 && Nat.beq x (a.toNat * 256 + c.toNat) | _ => false)
  | .invokevirtual x => (match L with | b :: a :: c :: _ => Nat.beq len 3 && Nat.beq b.toNat 182 && Nat.beq x (a.toNat * 256 + c.toNat) | _ => false)
  | .invokespecial x => (match L with | b :: a :: c :: _ => Nat.beq len 3 && Nat.beq b.toNat 183 && Nat.beq x (a.toNat * 256 + c.toNat) | _ => false)
  | .invokestatic x => (match L with | b :: a :: c :: _ => Nat.beq len 3 && Nat.beq b.toNat 184 && Nat.beq x (a.toNat * 256 + c.toNat) | _ => false)
  | .new x => (match L with | b :: a :: c :: _ => Nat.beq len 3 && Nat.beq b.toNat 187 && Nat.beq x (a.toNat * 256 + c.toNat) | _ => false)
  | .anewarray x => (match L with | b :: a :: c :: _ => Nat.beq len 3 && Nat.beq b.toNat 189 && Nat.beq x (a.toNat * 256 + c.toNat) | _ => false)
  | .sipush x => (match L with | b :: a :: c :: _ => Nat.beq len 3 && Nat.beq b.toNat 17 && decide (x = Reader.signed 16 (a.toNat * 256 + c.toNat)) | _ => false)
  | .goto x => (match L with | b :: a :: c :: _ => Nat.beq len 3 && Nat.beq b.toNat 167 && decide (x = Reader.signed 16 (a.toNat * 256 + c.toNat)) | _ => false)
  | .ifCond d x => (match L with | b :: a :: c :: _ => Nat.beq len 3 && Nat.beq b.toNat (153 + cnD d) && decide (x = Reader.signed 16 (a.toNat * 256 + c.toNat)) | _ => false)
  | .if_icmp d x => (match L with | b :: a :: c :: _ => Nat.beq len 3 && Nat.beq b.toNat (159 + cnD d) && decide (x = Reader.signed 16 (a.toNat * 256 + c.toNat)) | _ => false)
  | .iinc x y => (match L with | b :: a :: c :: _ => Nat.beq len 3 && Nat.beq b.toNat 132 && Nat.beq x a.toNat && decide (y = Reader.signed 8 c.toNat) | _ => false)
  | .newarray t => (match L with | b :: a :: _ => Nat.beq len 2 && Nat.beq b.toNat 188 && Nat.beq a.toNat (atD t) | _ => false)
  | _ => false
/-- the bytes of a code from a place on -/
def WdL (code : ByteArray) (p : Nat) (L : List UInt8) : Prop := ∀ k b, L[k]? = some b → Bt code (p + k) b.toNat
theorem wd_h {code : ByteArray} {p : Nat} {b : UInt8} {L : List UInt8} (h : WdL code p (b :: L)) : Bt code p b.toNat := h 0 b rfl
theorem wd_t {code : ByteArray} {p : Nat} {b : UInt8} {L : List UInt8} (h : WdL code p (b :: L)) : WdL code (p + 1) L := fun k c e => by
  have w := h (k + 1) c e
  rw [show p + (k + 1) = p + 1 + k by omega] at w
  exact w
theorem wd_d {code : ByteArray} : ∀ (n : Nat) {p : Nat} {L : List UInt8}, WdL code p L → WdL code (p + n) (L.drop n)
  | 0, _, _, h => h
  | n + 1, p, [], _ => fun k b e => by cases n <;> cases k <;> cases e
  | n + 1, p, b :: L, h => by
    have w := wd_d n (wd_t h)
    rw [show p + (n + 1) = p + 1 + n by omega]
    exact w
theorem beq_n {a b : Nat} (h : Nat.beq a b = true) : a = b := Nat.eq_of_beq_eq_true h
theorem and_e {a b : Bool} (h : (a && b) = true) : a = true ∧ b = true := by
  cases a <;> cases b <;> first | exact ⟨rfl, rfl⟩ | exact absurd h (by decide)
theorem bt_c {code : ByteArray} {p a b : Nat} (h : Bt code p a) (e : a = b) : Bt code p b := by rw [← e]; exact h
theorem od_iaload {code : ByteArray} {pc len : Nat} {L : List UInt8} (w : WdL code pc L) (h : okD .iaload len L = true) : decode code pc = .ok (.iaload, len) := by
  cases L with
  | nil => exact absurd h (by intro z; cases z)
  | cons b L =>
    obtain ⟨h1, h2⟩ := and_e h
    rw [beq_n h1]
    exact op_46 (bt_c (wd_h w) (beq_n h2))
theorem od_laload {code : ByteArray} {pc len : Nat} {L : List UInt8} (w : WdL code pc L) (h : okD .laload len L = true) : decode code pc = .ok (.laload, len) := by
  cases L with
  | nil => exact absurd h (by intro z; cases z)
  | cons b L =>
    obtain ⟨h1, h2⟩ := and_e h
    rw [beq_n h1]
    exact op_47 (bt_c (wd_h w) (beq_n h2))
theorem od_aaload {code : ByteArray} {pc len : Nat} {L : List UInt8} (w : WdL code pc L) (h : okD .aaload len L = true) : decode code pc = .ok (.aaload, len) := by
  cases L with
  | nil => exact absurd h (by intro z; cases z)
  | cons b L =>
    obtain ⟨h1, h2⟩ := and_e h
    rw [beq_n h1]
    exact op_50 (bt_c (wd_h w) (beq_n h2))
theorem od_baload {code : ByteArray} {pc len : Nat} {L : List UInt8} (w : WdL code pc L) (h : okD .baload len L = true) : decode code pc = .ok (.baload, len) := by
  cases L with
  | nil => exact absurd h (by intro z; cases z)
  | cons b L =>
    obtain ⟨h1, h2⟩ := and_e h
    rw [beq_n h1]
    exact op_51 (bt_c (wd_h w) (beq_n h2))
theorem od_caload {code : ByteArray} {pc len : Nat} {L : List UInt8} (w : WdL code pc L) (h : okD .caload len L = true) : decode code pc = .ok (.caload, len) := by
  cases L with
  | nil => exact absurd h (by intro z; cases z)
  | cons b L =>
    obtain ⟨h1, h2⟩ := and_e h
    rw [beq_n h1]
    exact op_52 (bt_c (wd_h w) (beq_n h2))
theorem od_iastore {code : ByteArray} {pc len : Nat} {L : List UInt8} (w : WdL code pc L) (h : okD .iastore len L = true) : decode code pc = .ok (.iastore, len) := by
  cases L with
  | nil => exact absurd h (by intro z; cases z)
  | cons b L =>
    obtain ⟨h1, h2⟩ := and_e h
    rw [beq_n h1]
    exact op_79 (bt_c (wd_h w) (beq_n h2))
theorem od_lastore {code : ByteArray} {pc len : Nat} {L : List UInt8} (w : WdL code pc L) (h : okD .lastore len L = true) : decode code pc = .ok (.lastore, len) := by
  cases L with
  | nil => exact absurd h (by intro z; cases z)
  | cons b L =>
    obtain ⟨h1, h2⟩ := and_e h
    rw [beq_n h1]
    exact op_80 (bt_c (wd_h w) (beq_n h2))
theorem od_aastore {code : ByteArray} {pc len : Nat} {L : List UInt8} (w : WdL code pc L) (h : okD .aastore len L = true) : decode code pc = .ok (.aastore, len) := by
  cases L with
  | nil => exact absurd h (by intro z; cases z)
  | cons b L =>
    obtain ⟨h1, h2⟩ := and_e h
    rw [beq_n h1]
    exact op_83 (bt_c (wd_h w) (beq_n h2))
theorem od_bastore {code : ByteArray} {pc len : Nat} {L : List UInt8} (w : WdL code pc L) (h : okD .bastore len L = true) : decode code pc = .ok (.bastore, len) := by
  cases L with
  | nil => exact absurd h (by intro z; cases z)
  | cons b L =>
    obtain ⟨h1, h2⟩ := and_e h
    rw [beq_n h1]
    exact op_84 (bt_c (wd_h w) (beq_n h2))
theorem od_castore {code : ByteArray} {pc len : Nat} {L : List UInt8} (w : WdL code pc L) (h : okD .castore len L = true) : decode code pc = .ok (.castore, len) := by
  cases L with
  | nil => exact absurd h (by intro z; cases z)
  | cons b L =>
    obtain ⟨h1, h2⟩ := and_e h
    rw [beq_n h1]
    exact op_85 (bt_c (wd_h w) (beq_n h2))
theorem od_pop {code : ByteArray} {pc len : Nat} {L : List UInt8} (w : WdL code pc L) (h : okD .pop len L = true) : decode code pc = .ok (.pop, len) := by
  cases L with
  | nil => exact absurd h (by intro z; cases z)
  | cons b L =>
    obtain ⟨h1, h2⟩ := and_e h
    rw [beq_n h1]
    exact op_87 (bt_c (wd_h w) (beq_n h2))
theorem od_pop2 {code : ByteArray} {pc len : Nat} {L : List UInt8} (w : WdL code pc L) (h : okD .pop2 len L = true) : decode code pc = .ok (.pop2, len) := by
  cases L with
  | nil => exact absurd h (by intro z; cases z)
  | cons b L =>
    obtain ⟨h1, h2⟩ := and_e h
    rw [beq_n h1]
    exact op_88 (bt_c (wd_h w) (beq_n h2))
theorem od_dup {code : ByteArray} {pc len : Nat} {L : List UInt8} (w : WdL code pc L) (h : okD .dup len L = true) : decode code pc = .ok (.dup, len) := by
  cases L with
  | nil => exact absurd h (by intro z; cases z)
  | cons b L =>
    obtain ⟨h1, h2⟩ := and_e h
    rw [beq_n h1]
    exact op_89 (bt_c (wd_h w) (beq_n h2))
theorem od_dup2 {code : ByteArray} {pc len : Nat} {L : List UInt8} (w : WdL code pc L) (h : okD .dup2 len L = true) : decode code pc = .ok (.dup2, len) := by
  cases L with
  | nil => exact absurd h (by intro z; cases z)
  | cons b L =>
    obtain ⟨h1, h2⟩ := and_e h
    rw [beq_n h1]
    exact op_92 (bt_c (wd_h w) (beq_n h2))
theorem od_iadd {code : ByteArray} {pc len : Nat} {L : List UInt8} (w : WdL code pc L) (h : okD .iadd len L = true) : decode code pc = .ok (.iadd, len) := by
  cases L with
  | nil => exact absurd h (by intro z; cases z)
  | cons b L =>
    obtain ⟨h1, h2⟩ := and_e h
    rw [beq_n h1]
    exact op_96 (bt_c (wd_h w) (beq_n h2))
theorem od_ladd {code : ByteArray} {pc len : Nat} {L : List UInt8} (w : WdL code pc L) (h : okD .ladd len L = true) : decode code pc = .ok (.ladd, len) := by
  cases L with
  | nil => exact absurd h (by intro z; cases z)
  | cons b L =>
    obtain ⟨h1, h2⟩ := and_e h
    rw [beq_n h1]
    exact op_97 (bt_c (wd_h w) (beq_n h2))
theorem od_isub {code : ByteArray} {pc len : Nat} {L : List UInt8} (w : WdL code pc L) (h : okD .isub len L = true) : decode code pc = .ok (.isub, len) := by
  cases L with
  | nil => exact absurd h (by intro z; cases z)
  | cons b L =>
    obtain ⟨h1, h2⟩ := and_e h
    rw [beq_n h1]
    exact op_100 (bt_c (wd_h w) (beq_n h2))
theorem od_lsub {code : ByteArray} {pc len : Nat} {L : List UInt8} (w : WdL code pc L) (h : okD .lsub len L = true) : decode code pc = .ok (.lsub, len) := by
  cases L with
  | nil => exact absurd h (by intro z; cases z)
  | cons b L =>
    obtain ⟨h1, h2⟩ := and_e h
    rw [beq_n h1]
    exact op_101 (bt_c (wd_h w) (beq_n h2))
theorem od_imul {code : ByteArray} {pc len : Nat} {L : List UInt8} (w : WdL code pc L) (h : okD .imul len L = true) : decode code pc = .ok (.imul, len) := by
  cases L with
  | nil => exact absurd h (by intro z; cases z)
  | cons b L =>
    obtain ⟨h1, h2⟩ := and_e h
    rw [beq_n h1]
    exact op_104 (bt_c (wd_h w) (beq_n h2))
theorem od_lmul {code : ByteArray} {pc len : Nat} {L : List UInt8} (w : WdL code pc L) (h : okD .lmul len L = true) : decode code pc = .ok (.lmul, len) := by
  cases L with
  | nil => exact absurd h (by intro z; cases z)
  | cons b L =>
    obtain ⟨h1, h2⟩ := and_e h
    rw [beq_n h1]
    exact op_105 (bt_c (wd_h w) (beq_n h2))
theorem od_idiv {code : ByteArray} {pc len : Nat} {L : List UInt8} (w : WdL code pc L) (h : okD .idiv len L = true) : decode code pc = .ok (.idiv, len) := by
  cases L with
  | nil => exact absurd h (by intro z; cases z)
  | cons b L =>
    obtain ⟨h1, h2⟩ := and_e h
    rw [beq_n h1]
    exact op_108 (bt_c (wd_h w) (beq_n h2))
theorem od_ldiv {code : ByteArray} {pc len : Nat} {L : List UInt8} (w : WdL code pc L) (h : okD .ldiv len L = true) : decode code pc = .ok (.ldiv, len) := by
  cases L with
  | nil => exact absurd h (by intro z; cases z)
  | cons b L =>
    obtain ⟨h1, h2⟩ := and_e h
    rw [beq_n h1]
    exact op_109 (bt_c (wd_h w) (beq_n h2))
theorem od_irem {code : ByteArray} {pc len : Nat} {L : List UInt8} (w : WdL code pc L) (h : okD .irem len L = true) : decode code pc = .ok (.irem, len) := by
  cases L with
  | nil => exact absurd h (by intro z; cases z)
  | cons b L =>
    obtain ⟨h1, h2⟩ := and_e h
    rw [beq_n h1]
    exact op_112 (bt_c (wd_h w) (beq_n h2))
theorem od_lrem {code : ByteArray} {pc len : Nat} {L : List UInt8} (w : WdL code pc L) (h : okD .lrem len L = true) : decode code pc = .ok (.lrem, len) := by
  cases L with
  | nil => exact absurd h (by intro z; cases z)
  | cons b L =>
    obtain ⟨h1, h2⟩ := and_e h
    rw [beq_n h1]
    exact op_113 (bt_c (wd_h w) (beq_n h2))
theorem od_ineg {code : ByteArray} {pc len : Nat} {L : List UInt8} (w : WdL code pc L) (h : okD .ineg len L = true) : decode code pc = .ok (.ineg, len) := by
  cases L with
  | nil => exact absurd h (by intro z; cases z)
  | cons b L =>
    obtain ⟨h1, h2⟩ := and_e h
    rw [beq_n h1]
    exact op_116 (bt_c (wd_h w) (beq_n h2))
theorem od_ishl {code : ByteArray} {pc len : Nat} {L : List UInt8} (w : WdL code pc L) (h : okD .ishl len L = true) : decode code pc = .ok (.ishl, len) := by
  cases L with
  | nil => exact absurd h (by intro z; cases z)
  | cons b L =>
    obtain ⟨h1, h2⟩ := and_e h
    rw [beq_n h1]
    exact op_120 (bt_c (wd_h w) (beq_n h2))
theorem od_lshl {code : ByteArray} {pc len : Nat} {L : List UInt8} (w : WdL code pc L) (h : okD .lshl len L = true) : decode code pc = .ok (.lshl, len) := by
  cases L with
  | nil => exact absurd h (by intro z; cases z)
  | cons b L =>
    obtain ⟨h1, h2⟩ := and_e h
    rw [beq_n h1]
    exact op_121 (bt_c (wd_h w) (beq_n h2))
theorem od_ishr {code : ByteArray} {pc len : Nat} {L : List UInt8} (w : WdL code pc L) (h : okD .ishr len L = true) : decode code pc = .ok (.ishr, len) := by
  cases L with
  | nil => exact absurd h (by intro z; cases z)
  | cons b L =>
    obtain ⟨h1, h2⟩ := and_e h
    rw [beq_n h1]
    exact op_122 (bt_c (wd_h w) (beq_n h2))
theorem od_iushr {code : ByteArray} {pc len : Nat} {L : List UInt8} (w : WdL code pc L) (h : okD .iushr len L = true) : decode code pc = .ok (.iushr, len) := by
  cases L with
  | nil => exact absurd h (by intro z; cases z)
  | cons b L =>
    obtain ⟨h1, h2⟩ := and_e h
    rw [beq_n h1]
    exact op_124 (bt_c (wd_h w) (beq_n h2))
theorem od_iand {code : ByteArray} {pc len : Nat} {L : List UInt8} (w : WdL code pc L) (h : okD .iand len L = true) : decode code pc = .ok (.iand, len) := by
  cases L with
  | nil => exact absurd h (by intro z; cases z)
  | cons b L =>
    obtain ⟨h1, h2⟩ := and_e h
    rw [beq_n h1]
    exact op_126 (bt_c (wd_h w) (beq_n h2))
theorem od_land {code : ByteArray} {pc len : Nat} {L : List UInt8} (w : WdL code pc L) (h : okD .land len L = true) : decode code pc = .ok (.land, len) := by
  cases L with
  | nil => exact absurd h (by intro z; cases z)
  | cons b L =>
    obtain ⟨h1, h2⟩ := and_e h
    rw [beq_n h1]
    exact op_127 (bt_c (wd_h w) (beq_n h2))
theorem od_ior {code : ByteArray} {pc len : Nat} {L : List UInt8} (w : WdL code pc L) (h : okD .ior len L = true) : decode code pc = .ok (.ior, len) := by
  cases L with
  | nil => exact absurd h (by intro z; cases z)
  | cons b L =>
    obtain ⟨h1, h2⟩ := and_e h
    rw [beq_n h1]
    exact op_128 (bt_c (wd_h w) (beq_n h2))
theorem od_lor {code : ByteArray} {pc len : Nat} {L : List UInt8} (w : WdL code pc L) (h : okD .lor len L = true) : decode code pc = .ok (.lor, len) := by
  cases L with
  | nil => exact absurd h (by intro z; cases z)
  | cons b L =>
    obtain ⟨h1, h2⟩ := and_e h
    rw [beq_n h1]
    exact op_129 (bt_c (wd_h w) (beq_n h2))
theorem od_ixor {code : ByteArray} {pc len : Nat} {L : List UInt8} (w : WdL code pc L) (h : okD .ixor len L = true) : decode code pc = .ok (.ixor, len) := by
  cases L with
  | nil => exact absurd h (by intro z; cases z)
  | cons b L =>
    obtain ⟨h1, h2⟩ := and_e h
    rw [beq_n h1]
    exact op_130 (bt_c (wd_h w) (beq_n h2))
theorem od_i2l {code : ByteArray} {pc len : Nat} {L : List UInt8} (w : WdL code pc L) (h : okD .i2l len L = true) : decode code pc = .ok (.i2l, len) := by
  cases L with
  | nil => exact absurd h (by intro z; cases z)
  | cons b L =>
    obtain ⟨h1, h2⟩ := and_e h
    rw [beq_n h1]
    exact op_133 (bt_c (wd_h w) (beq_n h2))
theorem od_l2i {code : ByteArray} {pc len : Nat} {L : List UInt8} (w : WdL code pc L) (h : okD .l2i len L = true) : decode code pc = .ok (.l2i, len) := by
  cases L with
  | nil => exact absurd h (by intro z; cases z)
  | cons b L =>
    obtain ⟨h1, h2⟩ := and_e h
    rw [beq_n h1]
    exact op_136 (bt_c (wd_h w) (beq_n h2))
theorem od_i2b {code : ByteArray} {pc len : Nat} {L : List UInt8} (w : WdL code pc L) (h : okD .i2b len L = true) : decode code pc = .ok (.i2b, len) := by
  cases L with
  | nil => exact absurd h (by intro z; cases z)
  | cons b L =>
    obtain ⟨h1, h2⟩ := and_e h
    rw [beq_n h1]
    exact op_145 (bt_c (wd_h w) (beq_n h2))
theorem od_i2c {code : ByteArray} {pc len : Nat} {L : List UInt8} (w : WdL code pc L) (h : okD .i2c len L = true) : decode code pc = .ok (.i2c, len) := by
  cases L with
  | nil => exact absurd h (by intro z; cases z)
  | cons b L =>
    obtain ⟨h1, h2⟩ := and_e h
    rw [beq_n h1]
    exact op_146 (bt_c (wd_h w) (beq_n h2))
theorem od_i2s {code : ByteArray} {pc len : Nat} {L : List UInt8} (w : WdL code pc L) (h : okD .i2s len L = true) : decode code pc = .ok (.i2s, len) := by
  cases L with
  | nil => exact absurd h (by intro z; cases z)
  | cons b L =>
    obtain ⟨h1, h2⟩ := and_e h
    rw [beq_n h1]
    exact op_147 (bt_c (wd_h w) (beq_n h2))
theorem od_lcmp {code : ByteArray} {pc len : Nat} {L : List UInt8} (w : WdL code pc L) (h : okD .lcmp len L = true) : decode code pc = .ok (.lcmp, len) := by
  cases L with
  | nil => exact absurd h (by intro z; cases z)
  | cons b L =>
    obtain ⟨h1, h2⟩ := and_e h
    rw [beq_n h1]
    exact op_148 (bt_c (wd_h w) (beq_n h2))
theorem od_ireturn {code : ByteArray} {pc len : Nat} {L : List UInt8} (w : WdL code pc L) (h : okD .ireturn len L = true) : decode code pc = .ok (.ireturn, len) := by
  cases L with
  | nil => exact absurd h (by intro z; cases z)
  | cons b L =>
    obtain ⟨h1, h2⟩ := and_e h
    rw [beq_n h1]
    exact op_172 (bt_c (wd_h w) (beq_n h2))
theorem od_lreturn {code : ByteArray} {pc len : Nat} {L : List UInt8} (w : WdL code pc L) (h : okD .lreturn len L = true) : decode code pc = .ok (.lreturn, len) := by
  cases L with
  | nil => exact absurd h (by intro z; cases z)
  | cons b L =>
    obtain ⟨h1, h2⟩ := and_e h
    rw [beq_n h1]
    exact op_173 (bt_c (wd_h w) (beq_n h2))
theorem od_areturn {code : ByteArray} {pc len : Nat} {L : List UInt8} (w : WdL code pc L) (h : okD .areturn len L = true) : decode code pc = .ok (.areturn, len) := by
  cases L with
  | nil => exact absurd h (by intro z; cases z)
  | cons b L =>
    obtain ⟨h1, h2⟩ := and_e h
    rw [beq_n h1]
    exact op_176 (bt_c (wd_h w) (beq_n h2))
theorem od_return_ {code : ByteArray} {pc len : Nat} {L : List UInt8} (w : WdL code pc L) (h : okD .return_ len L = true) : decode code pc = .ok (.return_, len) := by
  cases L with
  | nil => exact absurd h (by intro z; cases z)
  | cons b L =>
    obtain ⟨h1, h2⟩ := and_e h
    rw [beq_n h1]
    exact op_177 (bt_c (wd_h w) (beq_n h2))
theorem od_arraylength {code : ByteArray} {pc len : Nat} {L : List UInt8} (w : WdL code pc L) (h : okD .arraylength len L = true) : decode code pc = .ok (.arraylength, len) := by
  cases L with
  | nil => exact absurd h (by intro z; cases z)
  | cons b L =>
    obtain ⟨h1, h2⟩ := and_e h
    rw [beq_n h1]
    exact op_190 (bt_c (wd_h w) (beq_n h2))
theorem od_aload_n {code : ByteArray} {pc len : Nat} {L : List UInt8} (k : Fin 4) (w : WdL code pc L) (h : okD (.aload_n k) len L = true) : decode code pc = .ok (.aload_n k, len) := by
  cases L with
  | nil => exact absurd h (by intro z; cases z)
  | cons b L =>
    obtain ⟨h1, h2⟩ := and_e h
    rw [beq_n h1]
    have e := bt_c (wd_h w) (beq_n h2)
    obtain ⟨k, hk⟩ := k
    have z : k = 0 ∨ k = 1 ∨ k = 2 ∨ k = 3 := by omega
    rcases z with z | z | z | z <;> subst z
    · exact op_42 e
    · exact op_43 e
    · exact op_44 e
    · exact op_45 e
theorem od_astore_n {code : ByteArray} {pc len : Nat} {L : List UInt8} (k : Fin 4) (w : WdL code pc L) (h : okD (.astore_n k) len L = true) : decode code pc = .ok (.astore_n k, len) := by
  cases L with
  | nil => exact absurd h (by intro z; cases z)
  | cons b L =>
    obtain ⟨h1, h2⟩ := and_e h
    rw [beq_n h1]
    have e := bt_c (wd_h w) (beq_n h2)
    obtain ⟨k, hk⟩ := k
    have z : k = 0 ∨ k = 1 ∨ k = 2 ∨ k = 3 := by omega
    rcases z with z | z | z | z <;> subst z
    · exact op_75 e
    · exact op_76 e
    · exact op_77 e
    · exact op_78 e
theorem od_iload_n {code : ByteArray} {pc len : Nat} {L : List UInt8} (k : Fin 4) (w : WdL code pc L) (h : okD (.iload_n k) len L = true) : decode code pc = .ok (.iload_n k, len) := by
  cases L with
  | nil => exact absurd h (by intro z; cases z)
  | cons b L =>
    obtain ⟨h1, h2⟩ := and_e h
    rw [beq_n h1]
    have e := bt_c (wd_h w) (beq_n h2)
    obtain ⟨k, hk⟩ := k
    have z : k = 0 ∨ k = 1 ∨ k = 2 ∨ k = 3 := by omega
    rcases z with z | z | z | z <;> subst z
    · exact op_26 e
    · exact op_27 e
    · exact op_28 e
    · exact op_29 e
theorem od_lload_n {code : ByteArray} {pc len : Nat} {L : List UInt8} (k : Fin 4) (w : WdL code pc L) (h : okD (.lload_n k) len L = true) : decode code pc = .ok (.lload_n k, len) := by
  cases L with
  | nil => exact absurd h (by intro z; cases z)
  | cons b L =>
    obtain ⟨h1, h2⟩ := and_e h
    rw [beq_n h1]
    have e := bt_c (wd_h w) (beq_n h2)
    obtain ⟨k, hk⟩ := k
    have z : k = 0 ∨ k = 1 ∨ k = 2 ∨ k = 3 := by omega
    rcases z with z | z | z | z <;> subst z
    · exact op_30 e
    · exact op_31 e
    · exact op_32 e
    · exact op_33 e
theorem od_istore_n {code : ByteArray} {pc len : Nat} {L : List UInt8} (k : Fin 4) (w : WdL code pc L) (h : okD (.istore_n k) len L = true) : decode code pc = .ok (.istore_n k, len) := by
  cases L with
  | nil => exact absurd h (by intro z; cases z)
  | cons b L =>
    obtain ⟨h1, h2⟩ := and_e h
    rw [beq_n h1]
    have e := bt_c (wd_h w) (beq_n h2)
    obtain ⟨k, hk⟩ := k
    have z : k = 0 ∨ k = 1 ∨ k = 2 ∨ k = 3 := by omega
    rcases z with z | z | z | z <;> subst z
    · exact op_59 e
    · exact op_60 e
    · exact op_61 e
    · exact op_62 e
theorem od_lstore_n {code : ByteArray} {pc len : Nat} {L : List UInt8} (k : Fin 4) (w : WdL code pc L) (h : okD (.lstore_n k) len L = true) : decode code pc = .ok (.lstore_n k, len) := by
  cases L with
  | nil => exact absurd h (by intro z; cases z)
  | cons b L =>
    obtain ⟨h1, h2⟩ := and_e h
    rw [beq_n h1]
    have e := bt_c (wd_h w) (beq_n h2)
    obtain ⟨k, hk⟩ := k
    have z : k = 0 ∨ k = 1 ∨ k = 2 ∨ k = 3 := by omega
    rcases z with z | z | z | z <;> subst z
    · exact op_63 e
    · exact op_64 e
    · exact op_65 e
    · exact op_66 e
theorem od_lconst {code : ByteArray} {pc len : Nat} {L : List UInt8} (k : Fin 2) (w : WdL code pc L) (h : okD (.lconst k) len L = true) : decode code pc = .ok (.lconst k, len) := by
  cases L with
  | nil => exact absurd h (by intro z; cases z)
  | cons b L =>
    obtain ⟨h1, h2⟩ := and_e h
    rw [beq_n h1]
    have e := bt_c (wd_h w) (beq_n h2)
    obtain ⟨k, hk⟩ := k
    have z : k = 0 ∨ k = 1 := by omega
    rcases z with z | z <;> subst z
    · exact op_9 e
    · exact op_10 e
theorem od_iconst {code : ByteArray} {pc len : Nat} {L : List UInt8} (i : Int) (w : WdL code pc L) (h : okD (.iconst i) len L = true) : decode code pc = .ok (.iconst i, len) := by
  cases L with
  | nil => exact absurd h (by intro z; cases z)
  | cons b L =>
    obtain ⟨h, h4⟩ := and_e h
    obtain ⟨h, h3⟩ := and_e h
    obtain ⟨h1, h2⟩ := and_e h
    rw [beq_n h1]
    have e := wd_h w
    have h2 := Nat.le_of_ble_eq_true h2
    have h3 := Nat.le_of_ble_eq_true h3
    have h4 := of_decide_eq_true h4
    generalize b.toNat = x at e h2 h3 h4
    have z : x = 2 ∨ x = 3 ∨ x = 4 ∨ x = 5 ∨ x = 6 ∨ x = 7 ∨ x = 8 := by omega
    rcases z with z | z | z | z | z | z | z <;> subst z <;> subst h4
    · exact op_2 e
    · exact op_3 e
    · exact op_4 e
    · exact op_5 e
    · exact op_6 e
    · exact op_7 e
    · exact op_8 e
theorem od_ldc {code : ByteArray} {pc len : Nat} {L : List UInt8} (x : Nat) (w : WdL code pc L) (h : okD (.ldc x) len L = true) : decode code pc = .ok (.ldc x, len) := by
  cases L with
  | nil => exact absurd h (by intro z; cases z)
  | cons b L =>
  cases L with
  | nil => exact absurd h (by intro z; cases z)
  | cons a L =>
    obtain ⟨h, h3⟩ := and_e h
    obtain ⟨h1, h2⟩ := and_e h
    rw [beq_n h1, beq_n h3]
    exact op_18 (bt_c (wd_h w) (beq_n h2)) (wd_h (wd_t w))
theorem od_iload {code : ByteArray} {pc len : Nat} {L : List UInt8} (x : Nat) (w : WdL code pc L) (h : okD (.iload x) len L = true) : decode code pc = .ok (.iload x, len) := by
  cases L with
  | nil => exact absurd h (by intro z; cases z)
  | cons b L =>
  cases L with
  | nil => exact absurd h (by intro z; cases z)
  | cons a L =>
    obtain ⟨h, h3⟩ := and_e h
    obtain ⟨h1, h2⟩ := and_e h
    rw [beq_n h1, beq_n h3]
    exact op_21 (bt_c (wd_h w) (beq_n h2)) (wd_h (wd_t w))
theorem od_lload {code : ByteArray} {pc len : Nat} {L : List UInt8} (x : Nat) (w : WdL code pc L) (h : okD (.lload x) len L = true) : decode code pc = .ok (.lload x, len) := by
  cases L with
  | nil => exact absurd h (by intro z; cases z)
  | cons b L =>
  cases L with
  | nil => exact absurd h (by intro z; cases z)
  | cons a L =>
    obtain ⟨h, h3⟩ := and_e h
    obtain ⟨h1, h2⟩ := and_e h
    rw [beq_n h1, beq_n h3]
    exact op_22 (bt_c (wd_h w) (beq_n h2)) (wd_h (wd_t w))
theorem od_aload {code : ByteArray} {pc len : Nat} {L : List UInt8} (x : Nat) (w : WdL code pc L) (h : okD (.aload x) len L = true) : decode code pc = .ok (.aload x, len) := by
  cases L with
  | nil => exact absurd h (by intro z; cases z)
  | cons b L =>
  cases L with
  | nil => exact absurd h (by intro z; cases z)
  | cons a L =>
    obtain ⟨h, h3⟩ := and_e h
    obtain ⟨h1, h2⟩ := and_e h
    rw [beq_n h1, beq_n h3]
    exact op_25 (bt_c (wd_h w) (beq_n h2)) (wd_h (wd_t w))
theorem od_istore {code : ByteArray} {pc len : Nat} {L : List UInt8} (x : Nat) (w : WdL code pc L) (h : okD (.istore x) len L = true) : decode code pc = .ok (.istore x, len) := by
  cases L with
  | nil => exact absurd h (by intro z; cases z)
  | cons b L =>
  cases L with
  | nil => exact absurd h (by intro z; cases z)
  | cons a L =>
    obtain ⟨h, h3⟩ := and_e h
    obtain ⟨h1, h2⟩ := and_e h
    rw [beq_n h1, beq_n h3]
    exact op_54 (bt_c (wd_h w) (beq_n h2)) (wd_h (wd_t w))
theorem od_lstore {code : ByteArray} {pc len : Nat} {L : List UInt8} (x : Nat) (w : WdL code pc L) (h : okD (.lstore x) len L = true) : decode code pc = .ok (.lstore x, len) := by
  cases L with
  | nil => exact absurd h (by intro z; cases z)
  | cons b L =>
  cases L with
  | nil => exact absurd h (by intro z; cases z)
  | cons a L =>
    obtain ⟨h, h3⟩ := and_e h
    obtain ⟨h1, h2⟩ := and_e h
    rw [beq_n h1, beq_n h3]
    exact op_55 (bt_c (wd_h w) (beq_n h2)) (wd_h (wd_t w))
theorem od_astore {code : ByteArray} {pc len : Nat} {L : List UInt8} (x : Nat) (w : WdL code pc L) (h : okD (.astore x) len L = true) : decode code pc = .ok (.astore x, len) := by
  cases L with
  | nil => exact absurd h (by intro z; cases z)
  | cons b L =>
  cases L with
  | nil => exact absurd h (by intro z; cases z)
  | cons a L =>
    obtain ⟨h, h3⟩ := and_e h
    obtain ⟨h1, h2⟩ := and_e h
    rw [beq_n h1, beq_n h3]
    exact op_58 (bt_c (wd_h w) (beq_n h2)) (wd_h (wd_t w))
theorem od_bipush {code : ByteArray} {pc len : Nat} {L : List UInt8} (x : Int) (w : WdL code pc L) (h : okD (.bipush x) len L = true) : decode code pc = .ok (.bipush x, len) := by
  cases L with
  | nil => exact absurd h (by intro z; cases z)
  | cons b L =>
  cases L with
  | nil => exact absurd h (by intro z; cases z)
  | cons a L =>
    obtain ⟨h, h3⟩ := and_e h
    obtain ⟨h1, h2⟩ := and_e h
    rw [beq_n h1, of_decide_eq_true h3]
    exact op_16 (bt_c (wd_h w) (beq_n h2)) (wd_h (wd_t w))
theorem od_ldc_w {code : ByteArray} {pc len : Nat} {L : List UInt8} (x : Nat) (w : WdL code pc L) (h : okD (.ldc_w x) len L = true) : decode code pc = .ok (.ldc_w x, len) := by
  cases L with
  | nil => exact absurd h (by intro z; cases z)
  | cons b L =>
  cases L with
  | nil => exact absurd h (by intro z; cases z)
  | cons a L =>
  cases L with
  | nil => exact absurd h (by intro z; cases z)
  | cons c L =>
    obtain ⟨h, h3⟩ := and_e h
    obtain ⟨h1, h2⟩ := and_e h
    rw [beq_n h1, beq_n h3]
    exact op_19 (bt_c (wd_h w) (beq_n h2)) (wd_h (wd_t w)) (wd_h (wd_t (wd_t w)))
theorem od_ldc2_w {code : ByteArray} {pc len : Nat} {L : List UInt8} (x : Nat) (w : WdL code pc L) (h : okD (.ldc2_w x) len L = true) : decode code pc = .ok (.ldc2_w x, len) := by
  cases L with
  | nil => exact absurd h (by intro z; cases z)
  | cons b L =>
  cases L with
  | nil => exact absurd h (by intro z; cases z)
  | cons a L =>
  cases L with
  | nil => exact absurd h (by intro z; cases z)
  | cons c L =>
    obtain ⟨h, h3⟩ := and_e h
    obtain ⟨h1, h2⟩ := and_e h
    rw [beq_n h1, beq_n h3]
    exact op_20 (bt_c (wd_h w) (beq_n h2)) (wd_h (wd_t w)) (wd_h (wd_t (wd_t w)))
theorem od_getstatic {code : ByteArray} {pc len : Nat} {L : List UInt8} (x : Nat) (w : WdL code pc L) (h : okD (.getstatic x) len L = true) : decode code pc = .ok (.getstatic x, len) := by
  cases L with
  | nil => exact absurd h (by intro z; cases z)
  | cons b L =>
  cases L with
  | nil => exact absurd h (by intro z; cases z)
  | cons a L =>
  cases L with
  | nil => exact absurd h (by intro z; cases z)
  | cons c L =>
    obtain ⟨h, h3⟩ := and_e h
    obtain ⟨h1, h2⟩ := and_e h
    rw [beq_n h1, beq_n h3]
    exact op_178 (bt_c (wd_h w) (beq_n h2)) (wd_h (wd_t w)) (wd_h (wd_t (wd_t w)))
theorem od_getfield {code : ByteArray} {pc len : Nat} {L : List UInt8} (x : Nat) (w : WdL code pc L) (h : okD (.getfield x) len L = true) : decode code pc = .ok (.getfield x, len) := by
  cases L with
  | nil => exact absurd h (by intro z; cases z)
  | cons b L =>
  cases L with
  | nil => exact absurd h (by intro z; cases z)
  | cons a L =>
  cases L with
  | nil => exact absurd h (by intro z; cases z)
  | cons c L =>
    obtain ⟨h, h3⟩ := and_e h
    obtain ⟨h1, h2⟩ := and_e h
    rw [beq_n h1, beq_n h3]
    exact op_180 (bt_c (wd_h w) (beq_n h2)) (wd_h (wd_t w)) (wd_h (wd_t (wd_t w)))
theorem od_putfield {code : ByteArray} {pc len : Nat} {L : List UInt8} (x : Nat) (w : WdL code pc L) (h : okD (.putfield x) len L = true) : decode code pc = .ok (.putfield x, len) := by
  cases L with
  | nil => exact absurd h (by intro z; cases z)
  | cons b L =>
  cases L with
  | nil => exact absurd h (by intro z; cases z)
  | cons a L =>
  cases L with
  | nil => exact absurd h (by intro z; cases z)
  | cons c L =>
    obtain ⟨h, h3⟩ := and_e h
    obtain ⟨h1, h2⟩ := and_e h
    rw [beq_n h1, beq_n h3]
    exact op_181 (bt_c (wd_h w) (beq_n h2)) (wd_h (wd_t w)) (wd_h (wd_t (wd_t w)))
theorem od_invokevirtual {code : ByteArray} {pc len : Nat} {L : List UInt8} (x : Nat) (w : WdL code pc L) (h : okD (.invokevirtual x) len L = true) : decode code pc = .ok (.invokevirtual x, len) := by
  cases L with
  | nil => exact absurd h (by intro z; cases z)
  | cons b L =>
  cases L with
  | nil => exact absurd h (by intro z; cases z)
  | cons a L =>
  cases L with
  | nil => exact absurd h (by intro z; cases z)
  | cons c L =>
    obtain ⟨h, h3⟩ := and_e h
    obtain ⟨h1, h2⟩ := and_e h
    rw [beq_n h1, beq_n h3]
    exact op_182 (bt_c (wd_h w) (beq_n h2)) (wd_h (wd_t w)) (wd_h (wd_t (wd_t w)))
theorem od_invokespecial {code : ByteArray} {pc len : Nat} {L : List UInt8} (x : Nat) (w : WdL code pc L) (h : okD (.invokespecial x) len L = true) : decode code pc = .ok (.invokespecial x, len) := by
  cases L with
  | nil => exact absurd h (by intro z; cases z)
  | cons b L =>
  cases L with
  | nil => exact absurd h (by intro z; cases z)
  | cons a L =>
  cases L with
  | nil => exact absurd h (by intro z; cases z)
  | cons c L =>
    obtain ⟨h, h3⟩ := and_e h
    obtain ⟨h1, h2⟩ := and_e h
    rw [beq_n h1, beq_n h3]
    exact op_183 (bt_c (wd_h w) (beq_n h2)) (wd_h (wd_t w)) (wd_h (wd_t (wd_t w)))
theorem od_invokestatic {code : ByteArray} {pc len : Nat} {L : List UInt8} (x : Nat) (w : WdL code pc L) (h : okD (.invokestatic x) len L = true) : decode code pc = .ok (.invokestatic x, len) := by
  cases L with
  | nil => exact absurd h (by intro z; cases z)
  | cons b L =>
  cases L with
  | nil => exact absurd h (by intro z; cases z)
  | cons a L =>
  cases L with
  | nil => exact absurd h (by intro z; cases z)
  | cons c L =>
    obtain ⟨h, h3⟩ := and_e h
    obtain ⟨h1, h2⟩ := and_e h
    rw [beq_n h1, beq_n h3]
    exact op_184 (bt_c (wd_h w) (beq_n h2)) (wd_h (wd_t w)) (wd_h (wd_t (wd_t w)))
theorem od_new {code : ByteArray} {pc len : Nat} {L : List UInt8} (x : Nat) (w : WdL code pc L) (h : okD (.new x) len L = true) : decode code pc = .ok (.new x, len) := by
  cases L with
  | nil => exact absurd h (by intro z; cases z)
  | cons b L =>
  cases L with
  | nil => exact absurd h (by intro z; cases z)
  | cons a L =>
  cases L with
  | nil => exact absurd h (by intro z; cases z)
  | cons c L =>
    obtain ⟨h, h3⟩ := and_e h
    obtain ⟨h1, h2⟩ := and_e h
    rw [beq_n h1, beq_n h3]
    exact op_187 (bt_c (wd_h w) (beq_n h2)) (wd_h (wd_t w)) (wd_h (wd_t (wd_t w)))
theorem od_anewarray {code : ByteArray} {pc len : Nat} {L : List UInt8} (x : Nat) (w : WdL code pc L) (h : okD (.anewarray x) len L = true) : decode code pc = .ok (.anewarray x, len) := by
  cases L with
  | nil => exact absurd h (by intro z; cases z)
  | cons b L =>
  cases L with
  | nil => exact absurd h (by intro z; cases z)
  | cons a L =>
  cases L with
  | nil => exact absurd h (by intro z; cases z)
  | cons c L =>
    obtain ⟨h, h3⟩ := and_e h
    obtain ⟨h1, h2⟩ := and_e h
    rw [beq_n h1, beq_n h3]
    exact op_189 (bt_c (wd_h w) (beq_n h2)) (wd_h (wd_t w)) (wd_h (wd_t (wd_t w)))
theorem od_sipush {code : ByteArray} {pc len : Nat} {L : List UInt8} (x : Int) (w : WdL code pc L) (h : okD (.sipush x) len L = true) : decode code pc = .ok (.sipush x, len) := by
  cases L with
  | nil => exact absurd h (by intro z; cases z)
  | cons b L =>
  cases L with
  | nil => exact absurd h (by intro z; cases z)
  | cons a L =>
  cases L with
  | nil => exact absurd h (by intro z; cases z)
  | cons c L =>
    obtain ⟨h, h3⟩ := and_e h
    obtain ⟨h1, h2⟩ := and_e h
    rw [beq_n h1, of_decide_eq_true h3]
    exact op_17 (bt_c (wd_h w) (beq_n h2)) (wd_h (wd_t w)) (wd_h (wd_t (wd_t w)))
theorem od_goto {code : ByteArray} {pc len : Nat} {L : List UInt8} (x : Int) (w : WdL code pc L) (h : okD (.goto x) len L = true) : decode code pc = .ok (.goto x, len) := by
  cases L with
  | nil => exact absurd h (by intro z; cases z)
  | cons b L =>
  cases L with
  | nil => exact absurd h (by intro z; cases z)
  | cons a L =>
  cases L with
  | nil => exact absurd h (by intro z; cases z)
  | cons c L =>
    obtain ⟨h, h3⟩ := and_e h
    obtain ⟨h1, h2⟩ := and_e h
    rw [beq_n h1, of_decide_eq_true h3]
    exact op_167 (bt_c (wd_h w) (beq_n h2)) (wd_h (wd_t w)) (wd_h (wd_t (wd_t w)))
theorem od_ifCond {code : ByteArray} {pc len : Nat} {L : List UInt8} (d : Jvm.ClassFile.Cond) (x : Int) (w : WdL code pc L) (h : okD (.ifCond d x) len L = true) : decode code pc = .ok (.ifCond d x, len) := by
  cases L with
  | nil => exact absurd h (by intro z; cases z)
  | cons b L =>
  cases L with
  | nil => exact absurd h (by intro z; cases z)
  | cons a L =>
  cases L with
  | nil => exact absurd h (by intro z; cases z)
  | cons c L =>
    obtain ⟨h, h3⟩ := and_e h
    obtain ⟨h1, h2⟩ := and_e h
    rw [beq_n h1, of_decide_eq_true h3]
    have e := bt_c (wd_h w) (beq_n h2)
    cases d
    · exact op_153 e (wd_h (wd_t w)) (wd_h (wd_t (wd_t w)))
    · exact op_154 e (wd_h (wd_t w)) (wd_h (wd_t (wd_t w)))
    · exact op_155 e (wd_h (wd_t w)) (wd_h (wd_t (wd_t w)))
    · exact op_156 e (wd_h (wd_t w)) (wd_h (wd_t (wd_t w)))
    · exact op_157 e (wd_h (wd_t w)) (wd_h (wd_t (wd_t w)))
    · exact op_158 e (wd_h (wd_t w)) (wd_h (wd_t (wd_t w)))
theorem od_if_icmp {code : ByteArray} {pc len : Nat} {L : List UInt8} (d : Jvm.ClassFile.Cond) (x : Int) (w : WdL code pc L) (h : okD (.if_icmp d x) len L = true) : decode code pc = .ok (.if_icmp d x, len) := by
  cases L with
  | nil => exact absurd h (by intro z; cases z)
  | cons b L =>
  cases L with
  | nil => exact absurd h (by intro z; cases z)
  | cons a L =>
  cases L with
  | nil => exact absurd h (by intro z; cases z)
  | cons c L =>
    obtain ⟨h, h3⟩ := and_e h
    obtain ⟨h1, h2⟩ := and_e h
    rw [beq_n h1, of_decide_eq_true h3]
    have e := bt_c (wd_h w) (beq_n h2)
    cases d
    · exact op_159 e (wd_h (wd_t w)) (wd_h (wd_t (wd_t w)))
    · exact op_160 e (wd_h (wd_t w)) (wd_h (wd_t (wd_t w)))
    · exact op_161 e (wd_h (wd_t w)) (wd_h (wd_t (wd_t w)))
    · exact op_162 e (wd_h (wd_t w)) (wd_h (wd_t (wd_t w)))
    · exact op_163 e (wd_h (wd_t w)) (wd_h (wd_t (wd_t w)))
    · exact op_164 e (wd_h (wd_t w)) (wd_h (wd_t (wd_t w)))
theorem od_iinc {code : ByteArray} {pc len : Nat} {L : List UInt8} (x : Nat) (y : Int) (w : WdL code pc L) (h : okD (.iinc x y) len L = true) : decode code pc = .ok (.iinc x y, len) := by
  cases L with
  | nil => exact absurd h (by intro z; cases z)
  | cons b L =>
  cases L with
  | nil => exact absurd h (by intro z; cases z)
  | cons a L =>
  cases L with
  | nil => exact absurd h (by intro z; cases z)
  | cons c L =>
    obtain ⟨h, h4⟩ := and_e h
    obtain ⟨h, h3⟩ := and_e h
    obtain ⟨h1, h2⟩ := and_e h
    rw [beq_n h1, beq_n h3, of_decide_eq_true h4]
    exact op_132 (bt_c (wd_h w) (beq_n h2)) (wd_h (wd_t w)) (wd_h (wd_t (wd_t w)))
theorem od_newarray {code : ByteArray} {pc len : Nat} {L : List UInt8} (t : ArrayType) (w : WdL code pc L) (h : okD (.newarray t) len L = true) : decode code pc = .ok (.newarray t, len) := by
  cases L with
  | nil => exact absurd h (by intro z; cases z)
  | cons b L =>
  cases L with
  | nil => exact absurd h (by intro z; cases z)
  | cons a L =>
    obtain ⟨h, h3⟩ := and_e h
    obtain ⟨h1, h2⟩ := and_e h
    rw [beq_n h1]
    have e := bt_c (wd_h w) (beq_n h2)
    have f := bt_c (wd_h (wd_t w)) (beq_n h3)
    cases t
    · exact op_188_4 e f
    · exact op_188_5 e f
    · exact op_188_6 e f
    · exact op_188_7 e f
    · exact op_188_8 e f
    · exact op_188_9 e f
    · exact op_188_10 e f
    · exact op_188_11 e f
theorem okD_ok {code : ByteArray} {pc len : Nat} {L : List UInt8} (ins : Instr) (w : WdL code pc L) (h : okD ins len L = true) : decode code pc = .ok (ins, len) := by
  cases ins with
  | iaload => exact od_iaload w h
  | laload => exact od_laload w h
  | aaload => exact od_aaload w h
  | baload => exact od_baload w h
  | caload => exact od_caload w h
  | iastore => exact od_iastore w h
  | lastore => exact od_lastore w h
  | aastore => exact od_aastore w h
  | bastore => exact od_bastore w h
  | castore => exact od_castore w h
  | pop => exact od_pop w h
  | pop2 => exact od_pop2 w h
  | dup => exact od_dup w h
  | dup2 => exact od_dup2 w h
  | iadd => exact od_iadd w h
  | ladd => exact od_ladd w h
  | isub => exact od_isub w h
  | lsub => exact od_lsub w h
  | imul => exact od_imul w h
  | lmul => exact od_lmul w h
  | idiv => exact od_idiv w h
  | ldiv => exact od_ldiv w h
  | irem => exact od_irem w h
  | lrem => exact od_lrem w h
  | ineg => exact od_ineg w h
  | ishl => exact od_ishl w h
  | lshl => exact od_lshl w h
  | ishr => exact od_ishr w h
  | iushr => exact od_iushr w h
  | iand => exact od_iand w h
  | land => exact od_land w h
  | ior => exact od_ior w h
  | lor => exact od_lor w h
  | ixor => exact od_ixor w h
  | i2l => exact od_i2l w h
  | l2i => exact od_l2i w h
  | i2b => exact od_i2b w h
  | i2c => exact od_i2c w h
  | i2s => exact od_i2s w h
  | lcmp => exact od_lcmp w h
  | ireturn => exact od_ireturn w h
  | lreturn => exact od_lreturn w h
  | areturn => exact od_areturn w h
  | return_ => exact od_return_ w h
  | arraylength => exact od_arraylength w h
  | aload_n k => exact od_aload_n k w h
  | astore_n k => exact od_astore_n k w h
  | iload_n k => exact od_iload_n k w h
  | lload_n k => exact od_lload_n k w h
  | istore_n k => exact od_istore_n k w h
  | lstore_n k => exact od_lstore_n k w h
  | lconst k => exact od_lconst k w h
  | iconst k => exact od_iconst k w h
  | bipush k => exact od_bipush k w h
  | sipush k => exact od_sipush k w h
  | goto k => exact od_goto k w h
  | newarray k => exact od_newarray k w h
  | ldc k => exact od_ldc k w h
  | iload k => exact od_iload k w h
  | lload k => exact od_lload k w h
  | aload k => exact od_aload k w h
  | istore k => exact od_istore k w h
  | lstore k => exact od_lstore k w h
  | astore k => exact od_astore k w h
  | ldc_w k => exact od_ldc_w k w h
  | ldc2_w k => exact od_ldc2_w k w h
  | getstatic k => exact od_getstatic k w h
  | getfield k => exact od_getfield k w h
  | putfield k => exact od_putfield k w h
  | invokevirtual k => exact od_invokevirtual k w h
  | invokespecial k => exact od_invokespecial k w h
  | invokestatic k => exact od_invokestatic k w h
  | new k => exact od_new k w h
  | anewarray k => exact od_anewarray k w h
  | ifCond d k => exact od_ifCond d k w h
  | if_icmp d k => exact od_if_icmp d k w h
  | iinc d k => exact od_iinc d k w h
  | _ => exact absurd h (by intro z; cases z)
/-- the whole of a method: rows one behind the other -/
def chkD (code : ByteArray) : Nat → List UInt8 → List Ent → Bool
  | _, _, [] => true
  | pc, L, e :: r => Nat.beq e.1 pc && (okD e.2.1 e.2.2.1 L || decide (decode code pc = .ok (e.2.1, e.2.2.1))) && chkD code (pc + e.2.2.1) (L.drop e.2.2.1) r
theorem chkD_r {code : ByteArray} : ∀ (r : List Ent) {pc : Nat} {L : List UInt8}, WdL code pc L → chkD code pc L r = true → ∀ e ∈ r, decode code e.1 = .ok (e.2.1, e.2.2.1)
  | [], _, _, _, _, e, he => by cases he
  | e :: r, pc, L, w, h, x, hx => by
    obtain ⟨h, h3⟩ := and_e h
    obtain ⟨h1, h2⟩ := and_e h
    have e1 := beq_n h1
    rcases List.mem_cons.mp hx with z | z
    · subst z
      rw [e1]
      cases y : okD x.2.1 x.2.2.1 L with
      | true => exact okD_ok _ w y
      | false =>
        rw [y] at h2
        exact of_decide_eq_true h2
    · exact chkD_r r (wd_d e.2.2.1 w) h3 x z
theorem wd_0 (code : ByteArray) : WdL code 0 code.data.toList := fun k b e => by
  rw [Nat.zero_add]
  obtain ⟨h, g⟩ := List.getElem?_eq_some_iff.mp e
  refine ⟨by rw [Array.length_toList] at h; exact h, ?_⟩
  rw [← g]
  rfl
theorem chkD_ok {code : ByteArray} {r : List Ent} (h : chkD code 0 code.data.toList r = true) : ∀ e ∈ r, decode code e.1 = .ok (e.2.1, e.2.2.1) := chkD_r r (wd_0 code) h
