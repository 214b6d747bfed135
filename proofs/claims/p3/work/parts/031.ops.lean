set_option maxRecDepth 100000 in
theorem kf_4 : ∀ p, (kDcF p).1 4 = (Pure.pure (Jvm.ClassFile.Instr.iconst 1)) := fun _ => rfl
set_option maxRecDepth 100000 in
theorem kf_21 : ∀ p, (kDcF p).1 21 = (Jvm.ClassFile.Reader.u1 >>= fun x => Pure.pure (Jvm.ClassFile.Instr.iload x)) := fun _ => rfl
set_option maxRecDepth 100000 in
theorem kf_42 : ∀ p, (kDcF p).1 42 = (Pure.pure (Jvm.ClassFile.Instr.aload_n 0)) := fun _ => rfl
set_option maxRecDepth 100000 in
theorem kf_43 : ∀ p, (kDcF p).1 43 = (Pure.pure (Jvm.ClassFile.Instr.aload_n 1)) := fun _ => rfl
set_option maxRecDepth 100000 in
theorem kf_44 : ∀ p, (kDcF p).1 44 = (Pure.pure (Jvm.ClassFile.Instr.aload_n 2)) := fun _ => rfl
set_option maxRecDepth 100000 in
theorem kf_46 : ∀ p, (kDcF p).1 46 = (Pure.pure (Jvm.ClassFile.Instr.iaload)) := fun _ => rfl
set_option maxRecDepth 100000 in
theorem kf_87 : ∀ p, (kDcF p).1 87 = (Pure.pure (Jvm.ClassFile.Instr.pop)) := fun _ => rfl
set_option maxRecDepth 100000 in
theorem kf_96 : ∀ p, (kDcF p).1 96 = (Pure.pure (Jvm.ClassFile.Instr.iadd)) := fun _ => rfl
set_option maxRecDepth 100000 in
theorem kf_132 : ∀ p, (kDcF p).1 132 = (Jvm.ClassFile.Reader.u1 >>= fun x => Jvm.ClassFile.Reader.s1 >>= fun y => Pure.pure (Jvm.ClassFile.Instr.iinc x y)) := fun _ => rfl
set_option maxRecDepth 100000 in
theorem kf_167 : ∀ p, (kDcF p).1 167 = (Jvm.ClassFile.Reader.s2 >>= fun x => Pure.pure (Jvm.ClassFile.Instr.goto x)) := fun _ => rfl
set_option maxRecDepth 100000 in
theorem kf_182 : ∀ p, (kDcF p).1 182 = (Jvm.ClassFile.Reader.u2 >>= fun x => Pure.pure (Jvm.ClassFile.Instr.invokevirtual x)) := fun _ => rfl
