/-! how long an instruction is -/
def zln : Instr → Nat
  | .iconst _ => 1 | .bipush _ => 2 | .sipush _ => 3 | .lconst _ => 1 | .fconst _ => 1 | .dconst _ => 1 | .ldc _ => 2 | .ldc_w _ => 3 | .ldc2_w _ => 3
  | .iload _ => 2 | .lload _ => 2 | .fload _ => 2 | .dload _ => 2 | .aload _ => 2 | .iload_n _ => 1 | .lload_n _ => 1 | .fload_n _ => 1 | .dload_n _ => 1 | .aload_n _ => 1
  | .istore _ => 2 | .lstore _ => 2 | .fstore _ => 2 | .dstore _ => 2 | .astore _ => 2 | .istore_n _ => 1 | .lstore_n _ => 1 | .fstore_n _ => 1 | .dstore_n _ => 1 | .astore_n _ => 1
  | .iinc _ _ => 3 | .ifCond _ _ => 3 | .if_icmp _ _ => 3 | .goto _ => 3 | .tableswitch .. => 0 | .lookupswitch .. => 0
  | .getfield _ => 3 | .putfield _ => 3 | .getstatic _ => 3 | .invokestatic _ => 3 | .invokevirtual _ => 3 | .invokespecial _ => 3 | .new _ => 3 | .newarray _ => 2 | .anewarray _ => 3
  | .iadd => 1 | .isub => 1 | .imul => 1 | .iand => 1 | .ior => 1 | .ixor => 1 | .ishl => 1 | .ishr => 1 | .iushr => 1 | .idiv => 1 | .irem => 1 | .ineg => 1 | .ladd => 1 | .lmul => 1 | .lor => 1 | .lxor => 1 | .lshl => 1 | .lushr => 1
  | .i2l => 1 | .i2c => 1 | .i2f => 1 | .i2d => 1 | .f2i => 1 | .d2l => 1 | .fmul => 1 | .fdiv => 1 | .fsub => 1 | .dmul => 1 | .ddiv => 1 | .dsub => 1 | .fcmp _ => 1 | .dcmp _ => 1 | .lcmp => 1
  | .dup => 1 | .pop => 1 | .dup2 => 1 | .iaload => 1 | .caload => 1 | .aaload => 1 | .iastore => 1 | .castore => 1 | .arraylength => 1 | .ireturn => 1 | .lreturn => 1 | .freturn => 1 | .dreturn => 1 | .areturn => 1 | .return_ => 1 | .athrow => 1
  | _ => 0
set_option maxRecDepth 200000 in
theorem zln_all : ztab.all (fun t => t.all (fun e => Nat.beq (zln e.2.1) 0 || Nat.beq (zln e.2.1) e.2.2.1)) = true := by decide +kernel
