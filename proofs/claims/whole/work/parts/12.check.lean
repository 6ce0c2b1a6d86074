/-! the linked code against the class files' own: what is checked of an instruction -/
def p_c (j ip : Nat) : Nat := ((h_lk j).getD ip (0, .nop, 0, 0)).1
def o_w (i : Nat) (w : Cond) : Bool := decide (lw_tbl[i]? = some w)
def o_n (j ip pc len k : Nat) : Bool := decide (len = k) && decide (p_c j (ip + 1) = pc + k)
def o_t (j pc : Nat) (t off : Int) : Bool := decide ((pc : Int) + off = ((p_c j t.toNat : Nat) : Int))
def o_rt : Option FieldType → Nat
  | none => 0
  | some .int => 1
  | some .boolean => 1
  | _ => 2
def o_ref : FieldType → Bool
  | .object _ => true
  | .array _ => true
  | _ => false
/-- a callee: its number of arguments, its receiver's kind, its answer's kind, how deep it calls -/
def o_c (j j' q kind na : Nat) : Bool := decide (j' < 185) && decide (q / 64 = kind) && decide (q / 4 % 16 = na) && decide (q % 4 = o_rt (h_mt j').2.2.1) && decide ((h_mt j').2.2.2.1 < (h_mt j).2.2.2.1) && decide (na ≤ (h_cd j').2)
def o_ps (y : MethodName) : Nat := match parseMethodDescriptor y.desc with
  | some d => d.parameters.length
  | none => 1000
def o_k (j ip pc : Nat) (L R : Instr) (len wi : Nat) : Bool := match L, R with
  | .nop, _ => true
  | .iconst v, .iconst w => decide (Int32.ofInt w = Int32.ofInt v) && o_n j ip pc len 1
  | .iconst v, .bipush w => decide ((Int8.ofInt w).toInt32 = Int32.ofInt v) && o_n j ip pc len 2
  | .iconst v, .sipush w => decide ((Int16.ofInt w).toInt32 = Int32.ofInt v) && o_n j ip pc len 3
  | .iconst v, .ldc i => o_w wi (.constant (h_mt j).1.cls i (Int32.ofInt v)) && o_n j ip pc len 2
  | .iconst v, .ldc_w i => o_w wi (.constant (h_mt j).1.cls i (Int32.ofInt v)) && o_n j ip pc len 3
  | .aconst_null, .aconst_null => o_n j ip pc len 1
  | .iload i, .iload k => decide (i = k) && o_n j ip pc len 2
  | .iload i, .iload_n k => decide (k.val = i) && o_n j ip pc len 1
  | .aload i, .aload k => decide (i = k) && o_n j ip pc len 2
  | .aload i, .aload_n k => decide (k.val = i) && o_n j ip pc len 1
  | .istore i, .istore k => decide (i = k) && decide (i < (h_cd j).2) && o_n j ip pc len 2
  | .istore i, .istore_n k => decide (k.val = i) && decide (i < (h_cd j).2) && o_n j ip pc len 1
  | .astore i, .astore k => decide (i = k) && decide (i < (h_cd j).2) && o_n j ip pc len 2
  | .astore i, .astore_n k => decide (k.val = i) && decide (i < (h_cd j).2) && o_n j ip pc len 1
  | .iinc i v, .iinc k w => decide (i = k) && decide (v = w) && decide (i < (h_cd j).2) && o_n j ip pc len 3
  | .iadd, .iadd => o_n j ip pc len 1
  | .isub, .isub => o_n j ip pc len 1
  | .imul, .imul => o_n j ip pc len 1
  | .iand, .iand => o_n j ip pc len 1
  | .ior, .ior => o_n j ip pc len 1
  | .ixor, .ixor => o_n j ip pc len 1
  | .idiv, .idiv => o_n j ip pc len 1
  | .irem, .irem => o_n j ip pc len 1
  | .ishl, .ishl => o_n j ip pc len 1
  | .ishr, .ishr => o_n j ip pc len 1
  | .iushr, .iushr => o_n j ip pc len 1
  | .dup, .dup => o_n j ip pc len 1
  | .dup2, .dup2 => o_n j ip pc len 1
  | .goto t, .goto o => decide (len = 3) && o_t j pc t o
  | .if_icmp c t, .if_icmp d o => decide (c = d) && o_n j ip pc len 3 && o_t j pc t o
  | .ifCond c t, .ifCond d o => decide (c = d) && o_n j ip pc len 3 && o_t j pc t o
  | .ifnull t, .ifnull o => o_n j ip pc len 3 && o_t j pc t o
  | .ifnonnull t, .ifnonnull o => o_n j ip pc len 3 && o_t j pc t o
  | .if_acmp c t, .if_acmp d o => decide (c = d) && o_n j ip pc len 3 && o_t j pc t o
  | .tableswitch d lo hi ts, .tableswitch d' lo' hi' os => decide (lo = lo') && decide (hi = hi') && decide (0 ≤ lo) && decide (hi < 1000) && decide (lo + ts.toList.length = hi + 1) && o_t j pc d d' && decide (ts.toList.length = os.toList.length) && (ts.toList.zip os.toList).all (fun q => o_t j pc q.1 q.2)
  | .fload f, .getfield i => decide (f / 64 < 8) && decide (f % 64 < h_N (f / 64)) && s_ii (s_ty (f / 64) (f % 64)) && o_w wi (.fieldLink (h_mt j).1.cls i (s_T (f / 64) (f % 64)).1 (s_T (f / 64) (f % 64)).2.1 (s_T (f / 64) (f % 64)).2.2.1) && o_n j ip pc len 3
  | .dload f, .getfield i => decide (f / 64 < 8) && decide (f % 64 < h_N (f / 64)) && !(s_ii (s_ty (f / 64) (f % 64))) && o_w wi (.fieldLink (h_mt j).1.cls i (s_T (f / 64) (f % 64)).1 (s_T (f / 64) (f % 64)).2.1 (s_T (f / 64) (f % 64)).2.2.1) && o_n j ip pc len 3
  | .fstore f, .putfield i => decide (f / 64 < 8) && decide (f % 64 < h_N (f / 64)) && decide (s_ty (f / 64) (f % 64) = .int) && o_w wi (.fieldLink (h_mt j).1.cls i (s_T (f / 64) (f % 64)).1 (s_T (f / 64) (f % 64)).2.1 (s_T (f / 64) (f % 64)).2.2.1) && (!((s_T (f / 64) (f % 64)).2.2.2) || (decide ((h_mt j).1.name = "<init>") && decide ((s_T (f / 64) (f % 64)).1 = (h_mt j).1.cls))) && o_n j ip pc len 3
  | .lstore f, .putfield i => decide (f / 64 < 8) && decide (f % 64 < h_N (f / 64)) && decide (s_ty (f / 64) (f % 64) = .boolean) && o_w wi (.fieldLink (h_mt j).1.cls i (s_T (f / 64) (f % 64)).1 (s_T (f / 64) (f % 64)).2.1 (s_T (f / 64) (f % 64)).2.2.1) && (!((s_T (f / 64) (f % 64)).2.2.2) || (decide ((h_mt j).1.name = "<init>") && decide ((s_T (f / 64) (f % 64)).1 = (h_mt j).1.cls))) && o_n j ip pc len 3
  | .dstore f, .putfield i => decide (f / 64 < 8) && decide (f % 64 < h_N (f / 64)) && o_ref (s_ty (f / 64) (f % 64)) && o_w wi (.fieldLink (h_mt j).1.cls i (s_T (f / 64) (f % 64)).1 (s_T (f / 64) (f % 64)).2.1 (s_T (f / 64) (f % 64)).2.2.1) && (!((s_T (f / 64) (f % 64)).2.2.2) || (decide ((h_mt j).1.name = "<init>") && decide ((s_T (f / 64) (f % 64)).1 = (h_mt j).1.cls))) && o_n j ip pc len 3
  | .iaload, .iaload => o_n j ip pc len 1
  | .baload, .baload => o_n j ip pc len 1
  | .aaload, .aaload => o_n j ip pc len 1
  | .iastore, .iastore => o_n j ip pc len 1
  | .bastore, .bastore => o_n j ip pc len 1
  | .aastore, .aastore => o_n j ip pc len 1
  | .arraylength, .arraylength => o_n j ip pc len 1
  | .new t, .new i => decide (t < 8) && o_w wi (.classLink (h_mt j).1.cls i (s_R t)) && o_n j ip pc len 3
  | .newarray a, .newarray b => decide (a = b) && o_n j ip pc len 2
  | .anewarray t, .anewarray i => ((decide (t = 11) && o_w wi (.classLink (h_mt j).1.cls i RX2)) || (decide (t = 12) && o_w wi (.classLink (h_mt j).1.cls i RX1))) && o_n j ip pc len 3
  | .multianewarray _ _, .multianewarray i 2 => o_w wi (.classLink (h_mt j).1.cls i "[[I") && o_n j ip pc len 4
  | .getstatic t, .getstatic i => ((decide (t = 1) && o_w wi (.fieldLink (h_mt j).1.cls i RX0 "START" "[I")) || (decide (t = 2) && o_w wi (.fieldLink (h_mt j).1.cls i RX0 "ROUND" "[I")) || (decide (t = 3) && o_w wi (.fieldLink (h_mt j).1.cls i RX7 "K" "[I"))) && o_n j ip pc len 3
  | .pop, .invokespecial i => o_w wi (.methodLink (h_mt j).1.cls i Lib.objectInit) && o_n j ip pc len 3
  | .d2f, .invokestatic i => o_w wi (.methodLink (h_mt j).1.cls i arraycopyName) && o_n j ip pc len 3
  | .invokeinterface j' q, .invokevirtual i => o_w wi (.methodLink (h_mt j).1.cls i (h_mt j').1) && o_c j j' q (q / 64) (1 + o_ps (h_mt j').1) && decide (1 ≤ q / 64) && decide (q / 64 ≤ 8) && decide (s_R (q / 64 - 1) = (h_mt j').1.cls) && o_w (h_mt j').2.2.2.2.2.1 (.instanceMethod (h_mt j').1) && o_w (h_mt j').2.2.2.2.2.2.1 (.selects (h_mt j').1.cls (h_mt j').1 (h_mt j').1) && o_n j ip pc len 3
  | .invokeinterface j' q, .invokestatic i => (o_w wi (.methodLink (h_mt j).1.cls i (h_mt j').1) || o_w wi (.methodLinkNest (h_mt j).1.cls i (h_mt j').1 RX6)) && o_c j j' q 0 (o_ps (h_mt j').1) && o_w (h_mt j').2.2.2.2.2.1 (.static (h_mt j').1) && o_n j ip pc len 3
  | .invokeinterface j' q, .invokespecial i => (o_w wi (.methodLink (h_mt j).1.cls i (h_mt j').1) || o_w wi (.methodLinkNest (h_mt j).1.cls i (h_mt j').1 RX6)) && o_c j j' q (q / 64) (1 + o_ps (h_mt j').1) && decide (1 ≤ q / 64) && decide (q / 64 ≤ 8) && decide ((h_mt j').1.name = "<init>") && decide ((h_mt j').2.2.1 = none) && o_w (h_mt j').2.2.2.2.2.1 (.instanceMethod (h_mt j').1) && o_n j ip pc len 3
  | .ireturn, .ireturn => decide (len = 1) && decide ((h_mt j).2.2.1 = some .int)
  | .lreturn, .ireturn => decide (len = 1) && decide ((h_mt j).2.2.1 = some .boolean)
  | .areturn, .areturn => decide (len = 1) && (match (h_mt j).2.2.1 with
    | some t => o_ref t
    | none => false)
  | .return_, .return_ => decide (len = 1) && decide ((h_mt j).2.2.1 = none)
  | _, _ => false
def o_at (j ip : Nat) : Bool := match (h_lk j)[ip]? with
  | some (pc, R, len, wi) => decide (decode (h_mt j).2.1 pc = .ok (R, len)) && o_k j ip pc (a_nth (h_cd j).1 ip) R len wi
  | none => false
def o_all (j : Nat) : Bool := decide ((h_cd j).1.length = (h_lk j).length) && (List.range (h_cd j).1.length).all fun ip => o_at j ip
/-- what is checked of a method -/
def o_m (j : Nat) : Bool := plainName (h_mt j).1.cls && decide ((h_mt j).1.cls ≠ "java/lang/invoke/MethodHandle") && decide ((h_mt j).1.cls ≠ "java/lang/invoke/VarHandle") && o_w (h_mt j).2.2.2.2.2.2.2 (.initialized (h_mt j).1.cls) && decide (o_ps (h_mt j).1 < 1000) && decide (1 ≤ (h_mt j).2.2.2.1) && decide ((h_cd j).2 ≤ 20)
def o_cw (j : Nat) : Prop := lw_tbl[(h_mt j).2.2.2.2.1]? = some (.code (h_mt j).1 (h_mt j).2.1 (h_cd j).2 (h_mt j).2.2.1)
