set_option maxRecDepth 100000 in
theorem kf_1 : ∀ p, (kDcF p).1 1 = (Pure.pure (Jvm.ClassFile.Instr.aconst_null)) := fun _ => rfl
set_option maxRecDepth 100000 in
theorem kf_2 : ∀ p, (kDcF p).1 2 = (Pure.pure (Jvm.ClassFile.Instr.iconst (-1))) := fun _ => rfl
set_option maxRecDepth 100000 in
theorem kf_3 : ∀ p, (kDcF p).1 3 = (Pure.pure (Jvm.ClassFile.Instr.iconst 0)) := fun _ => rfl
set_option maxRecDepth 100000 in
theorem kf_4 : ∀ p, (kDcF p).1 4 = (Pure.pure (Jvm.ClassFile.Instr.iconst 1)) := fun _ => rfl
set_option maxRecDepth 100000 in
theorem kf_5 : ∀ p, (kDcF p).1 5 = (Pure.pure (Jvm.ClassFile.Instr.iconst 2)) := fun _ => rfl
set_option maxRecDepth 100000 in
theorem kf_6 : ∀ p, (kDcF p).1 6 = (Pure.pure (Jvm.ClassFile.Instr.iconst 3)) := fun _ => rfl
set_option maxRecDepth 100000 in
theorem kf_7 : ∀ p, (kDcF p).1 7 = (Pure.pure (Jvm.ClassFile.Instr.iconst 4)) := fun _ => rfl
set_option maxRecDepth 100000 in
theorem kf_8 : ∀ p, (kDcF p).1 8 = (Pure.pure (Jvm.ClassFile.Instr.iconst 5)) := fun _ => rfl
set_option maxRecDepth 100000 in
theorem kf_9 : ∀ p, (kDcF p).1 9 = (Pure.pure (Jvm.ClassFile.Instr.lconst 0)) := fun _ => rfl
set_option maxRecDepth 100000 in
theorem kf_10 : ∀ p, (kDcF p).1 10 = (Pure.pure (Jvm.ClassFile.Instr.lconst 1)) := fun _ => rfl
set_option maxRecDepth 100000 in
theorem kf_16 : ∀ p, (kDcF p).1 16 = (Jvm.ClassFile.Reader.s1 >>= fun x => Pure.pure (Jvm.ClassFile.Instr.bipush x)) := fun _ => rfl
set_option maxRecDepth 100000 in
theorem kf_17 : ∀ p, (kDcF p).1 17 = (Jvm.ClassFile.Reader.s2 >>= fun x => Pure.pure (Jvm.ClassFile.Instr.sipush x)) := fun _ => rfl
set_option maxRecDepth 100000 in
theorem kf_18 : ∀ p, (kDcF p).1 18 = (Jvm.ClassFile.Reader.u1 >>= fun x => Pure.pure (Jvm.ClassFile.Instr.ldc x)) := fun _ => rfl
set_option maxRecDepth 100000 in
theorem kf_19 : ∀ p, (kDcF p).1 19 = (Jvm.ClassFile.Reader.u2 >>= fun x => Pure.pure (Jvm.ClassFile.Instr.ldc_w x)) := fun _ => rfl
set_option maxRecDepth 100000 in
theorem kf_20 : ∀ p, (kDcF p).1 20 = (Jvm.ClassFile.Reader.u2 >>= fun x => Pure.pure (Jvm.ClassFile.Instr.ldc2_w x)) := fun _ => rfl
set_option maxRecDepth 100000 in
theorem kf_21 : ∀ p, (kDcF p).1 21 = (Jvm.ClassFile.Reader.u1 >>= fun x => Pure.pure (Jvm.ClassFile.Instr.iload x)) := fun _ => rfl
set_option maxRecDepth 100000 in
theorem kf_22 : ∀ p, (kDcF p).1 22 = (Jvm.ClassFile.Reader.u1 >>= fun x => Pure.pure (Jvm.ClassFile.Instr.lload x)) := fun _ => rfl
set_option maxRecDepth 100000 in
theorem kf_25 : ∀ p, (kDcF p).1 25 = (Jvm.ClassFile.Reader.u1 >>= fun x => Pure.pure (Jvm.ClassFile.Instr.aload x)) := fun _ => rfl
set_option maxRecDepth 100000 in
theorem kf_26 : ∀ p, (kDcF p).1 26 = (Pure.pure (Jvm.ClassFile.Instr.iload_n 0)) := fun _ => rfl
set_option maxRecDepth 100000 in
theorem kf_27 : ∀ p, (kDcF p).1 27 = (Pure.pure (Jvm.ClassFile.Instr.iload_n 1)) := fun _ => rfl
set_option maxRecDepth 100000 in
theorem kf_28 : ∀ p, (kDcF p).1 28 = (Pure.pure (Jvm.ClassFile.Instr.iload_n 2)) := fun _ => rfl
set_option maxRecDepth 100000 in
theorem kf_29 : ∀ p, (kDcF p).1 29 = (Pure.pure (Jvm.ClassFile.Instr.iload_n 3)) := fun _ => rfl
set_option maxRecDepth 100000 in
theorem kf_30 : ∀ p, (kDcF p).1 30 = (Pure.pure (Jvm.ClassFile.Instr.lload_n 0)) := fun _ => rfl
set_option maxRecDepth 100000 in
theorem kf_31 : ∀ p, (kDcF p).1 31 = (Pure.pure (Jvm.ClassFile.Instr.lload_n 1)) := fun _ => rfl
set_option maxRecDepth 100000 in
theorem kf_32 : ∀ p, (kDcF p).1 32 = (Pure.pure (Jvm.ClassFile.Instr.lload_n 2)) := fun _ => rfl
set_option maxRecDepth 100000 in
theorem kf_33 : ∀ p, (kDcF p).1 33 = (Pure.pure (Jvm.ClassFile.Instr.lload_n 3)) := fun _ => rfl
set_option maxRecDepth 100000 in
theorem kf_42 : ∀ p, (kDcF p).1 42 = (Pure.pure (Jvm.ClassFile.Instr.aload_n 0)) := fun _ => rfl
set_option maxRecDepth 100000 in
theorem kf_43 : ∀ p, (kDcF p).1 43 = (Pure.pure (Jvm.ClassFile.Instr.aload_n 1)) := fun _ => rfl
set_option maxRecDepth 100000 in
theorem kf_44 : ∀ p, (kDcF p).1 44 = (Pure.pure (Jvm.ClassFile.Instr.aload_n 2)) := fun _ => rfl
set_option maxRecDepth 100000 in
theorem kf_45 : ∀ p, (kDcF p).1 45 = (Pure.pure (Jvm.ClassFile.Instr.aload_n 3)) := fun _ => rfl
set_option maxRecDepth 100000 in
theorem kf_46 : ∀ p, (kDcF p).1 46 = (Pure.pure (Jvm.ClassFile.Instr.iaload)) := fun _ => rfl
set_option maxRecDepth 100000 in
theorem kf_47 : ∀ p, (kDcF p).1 47 = (Pure.pure (Jvm.ClassFile.Instr.laload)) := fun _ => rfl
set_option maxRecDepth 100000 in
theorem kf_50 : ∀ p, (kDcF p).1 50 = (Pure.pure (Jvm.ClassFile.Instr.aaload)) := fun _ => rfl
set_option maxRecDepth 100000 in
theorem kf_51 : ∀ p, (kDcF p).1 51 = (Pure.pure (Jvm.ClassFile.Instr.baload)) := fun _ => rfl
set_option maxRecDepth 100000 in
theorem kf_52 : ∀ p, (kDcF p).1 52 = (Pure.pure (Jvm.ClassFile.Instr.caload)) := fun _ => rfl
set_option maxRecDepth 100000 in
theorem kf_54 : ∀ p, (kDcF p).1 54 = (Jvm.ClassFile.Reader.u1 >>= fun x => Pure.pure (Jvm.ClassFile.Instr.istore x)) := fun _ => rfl
set_option maxRecDepth 100000 in
theorem kf_55 : ∀ p, (kDcF p).1 55 = (Jvm.ClassFile.Reader.u1 >>= fun x => Pure.pure (Jvm.ClassFile.Instr.lstore x)) := fun _ => rfl
set_option maxRecDepth 100000 in
theorem kf_58 : ∀ p, (kDcF p).1 58 = (Jvm.ClassFile.Reader.u1 >>= fun x => Pure.pure (Jvm.ClassFile.Instr.astore x)) := fun _ => rfl
set_option maxRecDepth 100000 in
theorem kf_59 : ∀ p, (kDcF p).1 59 = (Pure.pure (Jvm.ClassFile.Instr.istore_n 0)) := fun _ => rfl
set_option maxRecDepth 100000 in
theorem kf_60 : ∀ p, (kDcF p).1 60 = (Pure.pure (Jvm.ClassFile.Instr.istore_n 1)) := fun _ => rfl
set_option maxRecDepth 100000 in
theorem kf_61 : ∀ p, (kDcF p).1 61 = (Pure.pure (Jvm.ClassFile.Instr.istore_n 2)) := fun _ => rfl
set_option maxRecDepth 100000 in
theorem kf_62 : ∀ p, (kDcF p).1 62 = (Pure.pure (Jvm.ClassFile.Instr.istore_n 3)) := fun _ => rfl
set_option maxRecDepth 100000 in
theorem kf_63 : ∀ p, (kDcF p).1 63 = (Pure.pure (Jvm.ClassFile.Instr.lstore_n 0)) := fun _ => rfl
set_option maxRecDepth 100000 in
theorem kf_65 : ∀ p, (kDcF p).1 65 = (Pure.pure (Jvm.ClassFile.Instr.lstore_n 2)) := fun _ => rfl
set_option maxRecDepth 100000 in
theorem kf_66 : ∀ p, (kDcF p).1 66 = (Pure.pure (Jvm.ClassFile.Instr.lstore_n 3)) := fun _ => rfl
set_option maxRecDepth 100000 in
theorem kf_76 : ∀ p, (kDcF p).1 76 = (Pure.pure (Jvm.ClassFile.Instr.astore_n 1)) := fun _ => rfl
set_option maxRecDepth 100000 in
theorem kf_77 : ∀ p, (kDcF p).1 77 = (Pure.pure (Jvm.ClassFile.Instr.astore_n 2)) := fun _ => rfl
set_option maxRecDepth 100000 in
theorem kf_78 : ∀ p, (kDcF p).1 78 = (Pure.pure (Jvm.ClassFile.Instr.astore_n 3)) := fun _ => rfl
set_option maxRecDepth 100000 in
theorem kf_79 : ∀ p, (kDcF p).1 79 = (Pure.pure (Jvm.ClassFile.Instr.iastore)) := fun _ => rfl
set_option maxRecDepth 100000 in
theorem kf_80 : ∀ p, (kDcF p).1 80 = (Pure.pure (Jvm.ClassFile.Instr.lastore)) := fun _ => rfl
set_option maxRecDepth 100000 in
theorem kf_83 : ∀ p, (kDcF p).1 83 = (Pure.pure (Jvm.ClassFile.Instr.aastore)) := fun _ => rfl
set_option maxRecDepth 100000 in
theorem kf_84 : ∀ p, (kDcF p).1 84 = (Pure.pure (Jvm.ClassFile.Instr.bastore)) := fun _ => rfl
set_option maxRecDepth 100000 in
theorem kf_85 : ∀ p, (kDcF p).1 85 = (Pure.pure (Jvm.ClassFile.Instr.castore)) := fun _ => rfl
set_option maxRecDepth 100000 in
theorem kf_87 : ∀ p, (kDcF p).1 87 = (Pure.pure (Jvm.ClassFile.Instr.pop)) := fun _ => rfl
set_option maxRecDepth 100000 in
theorem kf_88 : ∀ p, (kDcF p).1 88 = (Pure.pure (Jvm.ClassFile.Instr.pop2)) := fun _ => rfl
set_option maxRecDepth 100000 in
theorem kf_89 : ∀ p, (kDcF p).1 89 = (Pure.pure (Jvm.ClassFile.Instr.dup)) := fun _ => rfl
set_option maxRecDepth 100000 in
theorem kf_92 : ∀ p, (kDcF p).1 92 = (Pure.pure (Jvm.ClassFile.Instr.dup2)) := fun _ => rfl
set_option maxRecDepth 100000 in
theorem kf_96 : ∀ p, (kDcF p).1 96 = (Pure.pure (Jvm.ClassFile.Instr.iadd)) := fun _ => rfl
set_option maxRecDepth 100000 in
theorem kf_97 : ∀ p, (kDcF p).1 97 = (Pure.pure (Jvm.ClassFile.Instr.ladd)) := fun _ => rfl
set_option maxRecDepth 100000 in
theorem kf_100 : ∀ p, (kDcF p).1 100 = (Pure.pure (Jvm.ClassFile.Instr.isub)) := fun _ => rfl
set_option maxRecDepth 100000 in
theorem kf_101 : ∀ p, (kDcF p).1 101 = (Pure.pure (Jvm.ClassFile.Instr.lsub)) := fun _ => rfl
set_option maxRecDepth 100000 in
theorem kf_104 : ∀ p, (kDcF p).1 104 = (Pure.pure (Jvm.ClassFile.Instr.imul)) := fun _ => rfl
set_option maxRecDepth 100000 in
theorem kf_105 : ∀ p, (kDcF p).1 105 = (Pure.pure (Jvm.ClassFile.Instr.lmul)) := fun _ => rfl
set_option maxRecDepth 100000 in
theorem kf_108 : ∀ p, (kDcF p).1 108 = (Pure.pure (Jvm.ClassFile.Instr.idiv)) := fun _ => rfl
set_option maxRecDepth 100000 in
theorem kf_109 : ∀ p, (kDcF p).1 109 = (Pure.pure (Jvm.ClassFile.Instr.ldiv)) := fun _ => rfl
set_option maxRecDepth 100000 in
theorem kf_113 : ∀ p, (kDcF p).1 113 = (Pure.pure (Jvm.ClassFile.Instr.lrem)) := fun _ => rfl
set_option maxRecDepth 100000 in
theorem kf_116 : ∀ p, (kDcF p).1 116 = (Pure.pure (Jvm.ClassFile.Instr.ineg)) := fun _ => rfl
set_option maxRecDepth 100000 in
theorem kf_120 : ∀ p, (kDcF p).1 120 = (Pure.pure (Jvm.ClassFile.Instr.ishl)) := fun _ => rfl
set_option maxRecDepth 100000 in
theorem kf_121 : ∀ p, (kDcF p).1 121 = (Pure.pure (Jvm.ClassFile.Instr.lshl)) := fun _ => rfl
set_option maxRecDepth 100000 in
theorem kf_122 : ∀ p, (kDcF p).1 122 = (Pure.pure (Jvm.ClassFile.Instr.ishr)) := fun _ => rfl
set_option maxRecDepth 100000 in
theorem kf_124 : ∀ p, (kDcF p).1 124 = (Pure.pure (Jvm.ClassFile.Instr.iushr)) := fun _ => rfl
set_option maxRecDepth 100000 in
theorem kf_125 : ∀ p, (kDcF p).1 125 = (Pure.pure (Jvm.ClassFile.Instr.lushr)) := fun _ => rfl
set_option maxRecDepth 100000 in
theorem kf_126 : ∀ p, (kDcF p).1 126 = (Pure.pure (Jvm.ClassFile.Instr.iand)) := fun _ => rfl
set_option maxRecDepth 100000 in
theorem kf_127 : ∀ p, (kDcF p).1 127 = (Pure.pure (Jvm.ClassFile.Instr.land)) := fun _ => rfl
set_option maxRecDepth 100000 in
theorem kf_128 : ∀ p, (kDcF p).1 128 = (Pure.pure (Jvm.ClassFile.Instr.ior)) := fun _ => rfl
set_option maxRecDepth 100000 in
theorem kf_129 : ∀ p, (kDcF p).1 129 = (Pure.pure (Jvm.ClassFile.Instr.lor)) := fun _ => rfl
set_option maxRecDepth 100000 in
theorem kf_130 : ∀ p, (kDcF p).1 130 = (Pure.pure (Jvm.ClassFile.Instr.ixor)) := fun _ => rfl
set_option maxRecDepth 100000 in
theorem kf_132 : ∀ p, (kDcF p).1 132 = (Jvm.ClassFile.Reader.u1 >>= fun x => Jvm.ClassFile.Reader.s1 >>= fun y => Pure.pure (Jvm.ClassFile.Instr.iinc x y)) := fun _ => rfl
set_option maxRecDepth 100000 in
theorem kf_133 : ∀ p, (kDcF p).1 133 = (Pure.pure (Jvm.ClassFile.Instr.i2l)) := fun _ => rfl
set_option maxRecDepth 100000 in
theorem kf_136 : ∀ p, (kDcF p).1 136 = (Pure.pure (Jvm.ClassFile.Instr.l2i)) := fun _ => rfl
set_option maxRecDepth 100000 in
theorem kf_145 : ∀ p, (kDcF p).1 145 = (Pure.pure (Jvm.ClassFile.Instr.i2b)) := fun _ => rfl
set_option maxRecDepth 100000 in
theorem kf_146 : ∀ p, (kDcF p).1 146 = (Pure.pure (Jvm.ClassFile.Instr.i2c)) := fun _ => rfl
set_option maxRecDepth 100000 in
theorem kf_148 : ∀ p, (kDcF p).1 148 = (Pure.pure (Jvm.ClassFile.Instr.lcmp)) := fun _ => rfl
set_option maxRecDepth 100000 in
theorem kf_153 : ∀ p, (kDcF p).1 153 = (Jvm.ClassFile.Reader.s2 >>= fun x => Pure.pure (Jvm.ClassFile.Instr.ifCond .eq x)) := fun _ => rfl
set_option maxRecDepth 100000 in
theorem kf_154 : ∀ p, (kDcF p).1 154 = (Jvm.ClassFile.Reader.s2 >>= fun x => Pure.pure (Jvm.ClassFile.Instr.ifCond .ne x)) := fun _ => rfl
set_option maxRecDepth 100000 in
theorem kf_155 : ∀ p, (kDcF p).1 155 = (Jvm.ClassFile.Reader.s2 >>= fun x => Pure.pure (Jvm.ClassFile.Instr.ifCond .lt x)) := fun _ => rfl
set_option maxRecDepth 100000 in
theorem kf_156 : ∀ p, (kDcF p).1 156 = (Jvm.ClassFile.Reader.s2 >>= fun x => Pure.pure (Jvm.ClassFile.Instr.ifCond .ge x)) := fun _ => rfl
set_option maxRecDepth 100000 in
theorem kf_158 : ∀ p, (kDcF p).1 158 = (Jvm.ClassFile.Reader.s2 >>= fun x => Pure.pure (Jvm.ClassFile.Instr.ifCond .le x)) := fun _ => rfl
set_option maxRecDepth 100000 in
theorem kf_159 : ∀ p, (kDcF p).1 159 = (Jvm.ClassFile.Reader.s2 >>= fun x => Pure.pure (Jvm.ClassFile.Instr.if_icmp .eq x)) := fun _ => rfl
set_option maxRecDepth 100000 in
theorem kf_160 : ∀ p, (kDcF p).1 160 = (Jvm.ClassFile.Reader.s2 >>= fun x => Pure.pure (Jvm.ClassFile.Instr.if_icmp .ne x)) := fun _ => rfl
set_option maxRecDepth 100000 in
theorem kf_161 : ∀ p, (kDcF p).1 161 = (Jvm.ClassFile.Reader.s2 >>= fun x => Pure.pure (Jvm.ClassFile.Instr.if_icmp .lt x)) := fun _ => rfl
set_option maxRecDepth 100000 in
theorem kf_162 : ∀ p, (kDcF p).1 162 = (Jvm.ClassFile.Reader.s2 >>= fun x => Pure.pure (Jvm.ClassFile.Instr.if_icmp .ge x)) := fun _ => rfl
set_option maxRecDepth 100000 in
theorem kf_163 : ∀ p, (kDcF p).1 163 = (Jvm.ClassFile.Reader.s2 >>= fun x => Pure.pure (Jvm.ClassFile.Instr.if_icmp .gt x)) := fun _ => rfl
set_option maxRecDepth 100000 in
theorem kf_164 : ∀ p, (kDcF p).1 164 = (Jvm.ClassFile.Reader.s2 >>= fun x => Pure.pure (Jvm.ClassFile.Instr.if_icmp .le x)) := fun _ => rfl
set_option maxRecDepth 100000 in
theorem kf_167 : ∀ p, (kDcF p).1 167 = (Jvm.ClassFile.Reader.s2 >>= fun x => Pure.pure (Jvm.ClassFile.Instr.goto x)) := fun _ => rfl
set_option maxRecDepth 100000 in
theorem kf_172 : ∀ p, (kDcF p).1 172 = (Pure.pure (Jvm.ClassFile.Instr.ireturn)) := fun _ => rfl
set_option maxRecDepth 100000 in
theorem kf_173 : ∀ p, (kDcF p).1 173 = (Pure.pure (Jvm.ClassFile.Instr.lreturn)) := fun _ => rfl
set_option maxRecDepth 100000 in
theorem kf_176 : ∀ p, (kDcF p).1 176 = (Pure.pure (Jvm.ClassFile.Instr.areturn)) := fun _ => rfl
set_option maxRecDepth 100000 in
theorem kf_177 : ∀ p, (kDcF p).1 177 = (Pure.pure (Jvm.ClassFile.Instr.return_)) := fun _ => rfl
set_option maxRecDepth 100000 in
theorem kf_178 : ∀ p, (kDcF p).1 178 = (Jvm.ClassFile.Reader.u2 >>= fun x => Pure.pure (Jvm.ClassFile.Instr.getstatic x)) := fun _ => rfl
set_option maxRecDepth 100000 in
theorem kf_180 : ∀ p, (kDcF p).1 180 = (Jvm.ClassFile.Reader.u2 >>= fun x => Pure.pure (Jvm.ClassFile.Instr.getfield x)) := fun _ => rfl
set_option maxRecDepth 100000 in
theorem kf_181 : ∀ p, (kDcF p).1 181 = (Jvm.ClassFile.Reader.u2 >>= fun x => Pure.pure (Jvm.ClassFile.Instr.putfield x)) := fun _ => rfl
set_option maxRecDepth 100000 in
theorem kf_182 : ∀ p, (kDcF p).1 182 = (Jvm.ClassFile.Reader.u2 >>= fun x => Pure.pure (Jvm.ClassFile.Instr.invokevirtual x)) := fun _ => rfl
set_option maxRecDepth 100000 in
theorem kf_183 : ∀ p, (kDcF p).1 183 = (Jvm.ClassFile.Reader.u2 >>= fun x => Pure.pure (Jvm.ClassFile.Instr.invokespecial x)) := fun _ => rfl
set_option maxRecDepth 100000 in
theorem kf_184 : ∀ p, (kDcF p).1 184 = (Jvm.ClassFile.Reader.u2 >>= fun x => Pure.pure (Jvm.ClassFile.Instr.invokestatic x)) := fun _ => rfl
set_option maxRecDepth 100000 in
theorem kf_187 : ∀ p, (kDcF p).1 187 = (Jvm.ClassFile.Reader.u2 >>= fun x => Pure.pure (Jvm.ClassFile.Instr.new x)) := fun _ => rfl
set_option maxRecDepth 100000 in
theorem kf_189 : ∀ p, (kDcF p).1 189 = (Jvm.ClassFile.Reader.u2 >>= fun x => Pure.pure (Jvm.ClassFile.Instr.anewarray x)) := fun _ => rfl
set_option maxRecDepth 100000 in
theorem kf_190 : ∀ p, (kDcF p).1 190 = (Pure.pure (Jvm.ClassFile.Instr.arraylength)) := fun _ => rfl
set_option maxRecDepth 100000 in
theorem kf_191 : ∀ p, (kDcF p).1 191 = (Pure.pure (Jvm.ClassFile.Instr.athrow)) := fun _ => rfl
set_option maxRecDepth 100000 in
theorem kf_192 : ∀ p, (kDcF p).1 192 = (Jvm.ClassFile.Reader.u2 >>= fun x => Pure.pure (Jvm.ClassFile.Instr.checkcast x)) := fun _ => rfl
set_option maxRecDepth 100000 in
theorem kf_198 : ∀ p, (kDcF p).1 198 = (Jvm.ClassFile.Reader.s2 >>= fun x => Pure.pure (Jvm.ClassFile.Instr.ifnull x)) := fun _ => rfl
set_option maxRecDepth 100000 in
theorem kf_199 : ∀ p, (kDcF p).1 199 = (Jvm.ClassFile.Reader.s2 >>= fun x => Pure.pure (Jvm.ClassFile.Instr.ifnonnull x)) := fun _ => rfl
