/-! any instruction of the abstract machine -/
section JR
variable {p : Program} {l : Launch} {e : Env} {R : Room} {s : State} {m : MethodId} {args : Array Value} {below : List Frame} {meth : Method} {c : Code} {H : Heap} {locs : List Loc} {cells slots : Nat} {Q : State → Prop}
variable {cc : ByteArray} {pc : Nat} {ls : Array Slot} {D : va_G} {cl : List vw_C} {A : Nat → Prop} {tys : List (ClassId × FieldType)} {ws : va_W}
variable {G : jm_G} {tx : List String} {tb : List jm_M} {Wd : List Cond} {own nm : String} {nL b Ln : Nat} {xs : Nat → Int32} {sa : Nat → Nat} {L : jm_L} {st S : List Value} {h : jm_H}
set_option maxHeartbeats 4000000 in
theorem jr_step {ee : jm_I} {q : jm_S} (hE : jr_E p c cc nL s args own nm m meth R) (hK : jr_K tx G.2.1 b G.2.2.1 G.2.2.2 sa A s) (hC : jr_cls cl G) (hcl50 : cl[50]? = none) (hk : jm_kind ee = 0) (hW : ∀ w ∈ Wd, w ∈ lw_tbl) (he : jm_okb cl tx tb Wd own nm cc nL ee = true) (hst : jm_stp G ee L st h = some q)
    (hI : jr_I D cl A b sa s h H locs ws tys) (hL : jr_L b sa ws L ls nL) (hS : jr_S b sa ws st S) (hroom : cells + q.2.2.2.2.1 ≤ R.cells + h.2.1 ∧ slots + q.2.2.2.2.2 ≤ R.slots + h.2.2) (k : jr_go p l e R s m args below meth c D cl A nL b sa ws tys h cells slots Q q) : W p l e R s m args below meth c H locs cells slots Q (F0 m ee.1 ls S) := by
  obtain ⟨pc, i, np, x, y, z, w, v, bs⟩ := ee
  cases i
  case aaload => exact jr_aaload hE hK hC hW he hst hI hL hS hroom k
  case aastore => exact jr_aastore hE hK hC hW he hst hI hL hS hroom k
  case arraylength => exact jr_arraylength hE hK hC hW he hst hI hL hS hroom k
  case baload => exact jr_baload hE hK hC hW he hst hI hL hS hroom k
  case bastore => exact jr_bastore hE hK hC hW he hst hI hL hS hroom k
  case dup => exact jr_dup hE hK hC hW he hst hI hL hS hroom k
  case dup2 => exact jr_dup2 hE hK hC hW he hst hI hL hS hroom k
  case i2b => exact jr_i2b hE hK hC hW he hst hI hL hS hroom k
  case i2c => exact jr_i2c hE hK hC hW he hst hI hL hS hroom k
  case i2l => exact jr_i2l hE hK hC hW he hst hI hL hS hroom k
  case iadd => exact jr_iadd hE hK hC hW he hst hI hL hS hroom k
  case iaload => exact jr_iaload hE hK hC hW he hst hI hL hS hroom k
  case iand => exact jr_iand hE hK hC hW he hst hI hL hS hroom k
  case iastore => exact jr_iastore hE hK hC hW he hst hI hL hS hroom k
  case idiv => exact jr_idiv hE hK hC hW he hst hI hL hS hroom k
  case imul => exact jr_imul hE hK hC hW he hst hI hL hS hroom k
  case ior => exact jr_ior hE hK hC hW he hst hI hL hS hroom k
  case irem => exact jr_irem hE hK hC hW he hst hI hL hS hroom k
  case ishl => exact jr_ishl hE hK hC hW he hst hI hL hS hroom k
  case ishr => exact jr_ishr hE hK hC hW he hst hI hL hS hroom k
  case isub => exact jr_isub hE hK hC hW he hst hI hL hS hroom k
  case iushr => exact jr_iushr hE hK hC hW he hst hI hL hS hroom k
  case ladd => exact jr_ladd hE hK hC hW he hst hI hL hS hroom k
  case laload => exact jr_laload hE hK hC hW he hst hI hL hS hroom k
  case lastore => exact jr_lastore hE hK hC hW he hst hI hL hS hroom k
  case lcmp => exact jr_lcmp hE hK hC hW he hst hI hL hS hroom k
  case ldiv => exact jr_ldiv hE hK hC hW he hst hI hL hS hroom k
  case lmul => exact jr_lmul hE hK hC hW he hst hI hL hS hroom k
  case lrem => exact jr_lrem hE hK hC hW he hst hI hL hS hroom k
  case lsub => exact jr_lsub hE hK hC hW he hst hI hL hS hroom k
  case pop => exact jr_pop hE hK hC hW he hst hI hL hS hroom k
  case aload => exact jr_aload hE hK hC hW he hst hI hL hS hroom k
  case aload_n => exact jr_aload_n hE hK hC hW he hst hI hL hS hroom k
  case astore => exact jr_astore hE hK hC hW he hst hI hL hS hroom k
  case astore_n => exact jr_astore_n hE hK hC hW he hst hI hL hS hroom k
  case bipush => exact jr_bipush hE hK hC hW he hst hI hL hS hroom k
  case iconst => exact jr_iconst hE hK hC hW he hst hI hL hS hroom k
  case iinc => exact jr_iinc hE hK hC hW he hst hI hL hS hroom k
  case iload => exact jr_iload hE hK hC hW he hst hI hL hS hroom k
  case iload_n => exact jr_iload_n hE hK hC hW he hst hI hL hS hroom k
  case istore => exact jr_istore hE hK hC hW he hst hI hL hS hroom k
  case istore_n => exact jr_istore_n hE hK hC hW he hst hI hL hS hroom k
  case lconst => exact jr_lconst hE hK hC hW he hst hI hL hS hroom k
  case ldc => exact jr_ldc hE hK hC hW he hst hI hL hS hroom k
  case ldc_w => exact jr_ldc_w hE hK hC hW he hst hI hL hS hroom k
  case ldc2_w => exact jr_ldc2_w hE hK hC hW he hst hI hL hS hroom k
  case lload => exact jr_lload hE hK hC hW he hst hI hL hS hroom k
  case lload_n => exact jr_lload_n hE hK hC hW he hst hI hL hS hroom k
  case lstore => exact jr_lstore hE hK hC hW he hst hI hL hS hroom k
  case lstore_n => exact jr_lstore_n hE hK hC hW he hst hI hL hS hroom k
  case sipush => exact jr_sipush hE hK hC hW he hst hI hL hS hroom k
  case goto => exact jr_goto hE hK hC hW he hst hI hL hS hroom k
  case ifnonnull => exact jr_ifnonnull hE hK hC hW he hst hI hL hS hroom k
  case ifnull => exact jr_ifnull hE hK hC hW he hst hI hL hS hroom k
  case getstatic => exact jr_getstatic hE hK hC hW he hst hI hL hS hroom k
  case putfield => exact jr_putfield hE hK hC hW he hst hI hL hS hroom k
  case tableswitch => exact jr_tableswitch hE hK hC hW he hst hI hL hS hroom k
  case lookupswitch => exact jr_lookupswitch hE hK hC hW he hst hI hL hS hroom k
  case multianewarray => exact jr_multianewarray hE hK hC hW he hst hI hL hS hroom k
  case getfield => exact jr_getfield hE hK hC hcl50 hW he hst hI hL hS hroom k
  case new => exact jr_new hE hK hC (by intro h20; simp [jm_kind, h20] at hk) hW he hst hI hL hS hroom k
  case anewarray => exact jr_anewarray hE hK hC hW he hst hI hL hS hroom k
  case invokespecial => exact jr_objinit hE hK hC hW he hst hI hL hS hroom k
  case invokestatic => exact jr_math hE hK hC hW he hst hI hL hS hroom k
  case ifCond cnd off => cases cnd <;> first | exact jr_if_eq hE hK hC hW he hst hI hL hS hroom k | exact jr_if_ne hE hK hC hW he hst hI hL hS hroom k | exact jr_if_lt hE hK hC hW he hst hI hL hS hroom k | exact jr_if_ge hE hK hC hW he hst hI hL hS hroom k | exact jr_if_gt hE hK hC hW he hst hI hL hS hroom k | exact jr_if_le hE hK hC hW he hst hI hL hS hroom k
  case if_icmp cnd off => cases cnd <;> first | exact jr_icmp_eq hE hK hC hW he hst hI hL hS hroom k | exact jr_icmp_ne hE hK hC hW he hst hI hL hS hroom k | exact jr_icmp_lt hE hK hC hW he hst hI hL hS hroom k | exact jr_icmp_ge hE hK hC hW he hst hI hL hS hroom k | exact jr_icmp_gt hE hK hC hW he hst hI hL hS hroom k | exact jr_icmp_le hE hK hC hW he hst hI hL hS hroom k
  case newarray t => cases t <;> first | exact jr_newarray_int hE hK hC hW he hst hI hL hS hroom k | exact jr_newarray_byte hE hK hC hW he hst hI hL hS hroom k | exact jr_newarray_long hE hK hC hW he hst hI hL hS hroom k | (simp [jm_stp] at hst; done)
  all_goals (simp [jm_stp] at hst; done)
end JR
