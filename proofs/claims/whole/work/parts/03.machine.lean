/-! THE SMALL MACHINE: the system's own code over a small heap of numbered cells (0 is null), pure. -/
abbrev mV : Type := Int32 ⊕ Nat
/-- cells, their slots in all; of each cell its kind, its length, its ints, its references -/
abbrev mM : Type := Nat × Nat × (Nat → Nat) × (Nat → Nat) × (Nat → Nat → Int32) × (Nat → Nat → Nat)
def h_n (M : mM) : Nat := M.1
def h_v (M : mM) : Nat := M.2.1
def h_k (M : mM) (a : Nat) : Nat := M.2.2.1 a
def h_l (M : mM) (a : Nat) : Nat := M.2.2.2.1 a
def h_i (M : mM) (a k : Nat) : Int32 := M.2.2.2.2.1 a k
def h_r (M : mM) (a k : Nat) : Nat := M.2.2.2.2.2 a k
def h_si (M : mM) (a k : Nat) (x : Int32) : mM := (h_n M, h_v M, h_k M, h_l M, fun b j => if b = a ∧ j = k then x else h_i M b j, h_r M)
def h_sr (M : mM) (a k r : Nat) : mM := (h_n M, h_v M, h_k M, h_l M, h_i M, fun b j => if b = a ∧ j = k then r else h_r M b j)
def h_al (M : mM) (t n : Nat) : mM := (h_n M + 1, h_v M + n, fun b => if b = h_n M + 1 then t else h_k M b, fun b => if b = h_n M + 1 then n else h_l M b, fun b j => if b = h_n M + 1 then 0 else h_i M b j, fun b j => if b = h_n M + 1 then 0 else h_r M b j)
def h_cp (M : mM) (a s b d n : Nat) : mM := (h_n M, h_v M, h_k M, h_l M, fun c j => if c = b ∧ d ≤ j ∧ j < d + n then h_i M a (s + (j - d)) else h_i M c j, h_r M)
/-- new int[N][K]: the outer array first, then its rows -/
def h_mn (M : mM) (N K : Nat) : mM := (h_n M + 1 + N, h_v M + N + N * K, fun b => if b = h_n M + 1 then 13 else if h_n M + 1 < b ∧ b ≤ h_n M + 1 + N then 9 else h_k M b, fun b => if b = h_n M + 1 then N else if h_n M + 1 < b ∧ b ≤ h_n M + 1 + N then K else h_l M b, fun b j => if h_n M < b ∧ b ≤ h_n M + 1 + N then 0 else h_i M b j, fun b j => if b = h_n M + 1 then (if j < N then h_n M + 2 + j else 0) else if h_n M + 1 < b ∧ b ≤ h_n M + 1 + N then 0 else h_r M b j)
/-- how many fields an object of a class has -/
def h_N : Nat → Nat
  | 0 => 4
  | 1 => 5
  | 2 => 9
  | 3 => 8
  | 4 => 11
  | 5 => 3
  | 6 => 7
  | 7 => 32
  | _ => 0
abbrev h_in (i : Int32) (n : Nat) : Prop := ¬ (i < 0 ∨ n ≤ i.toNatClampNeg)
abbrev mL : Type := List (Option mV)
abbrev mC : Type := Nat × mL × List mV × mM
abbrev mR : Type := Option mV × mM
/-- what an instruction does: the next place, a call (method, arguments, kind of answer, the stack below), the end -/
abbrev mA : Type := mC ⊕ (Nat × List mV × Nat × List mV) ⊕ Option mR
def a_f : mA := .inr (.inr none)
def a_g (c : Prop) [Decidable c] (x : mA) : mA := if c then x else a_f
def a_nth : List Instr → Nat → Instr
  | [], _ => .nop
  | i :: _, 0 => i
  | _ :: is, n + 1 => a_nth is n
def l_get : mL → Nat → Option mV
  | [], _ => none
  | v :: _, 0 => v
  | _ :: vs, n + 1 => l_get vs n
def l_set : mL → Nat → mV → mL
  | [], _, _ => []
  | _ :: vs, 0, x => some x :: vs
  | v :: vs, n + 1, x => v :: l_set vs n x
def b_1 (st : List mV) (k : Int32 → List mV → mA) : mA := match st with
  | .inl x :: r => k x r
  | _ => a_f
def b_2 (st : List mV) (k : Int32 → Int32 → List mV → mA) : mA := match st with
  | .inl y :: .inl x :: r => k x y r
  | _ => a_f
def p_1 (st : List mV) (k : Nat → List mV → mA) : mA := match st with
  | .inr a :: r => k a r
  | _ => a_f
def p_2 (st : List mV) (k : Nat → Nat → List mV → mA) : mA := match st with
  | .inr b :: .inr a :: r => k a b r
  | _ => a_f
def p_i (st : List mV) (k : Nat → Int32 → List mV → mA) : mA := match st with
  | .inl i :: .inr a :: r => k a i r
  | _ => a_f
def p_ii (st : List mV) (k : Nat → Int32 → Int32 → List mV → mA) : mA := match st with
  | .inl x :: .inl i :: .inr a :: r => k a i x r
  | _ => a_f
def p_ir (st : List mV) (k : Nat → Int32 → Nat → List mV → mA) : mA := match st with
  | .inr v :: .inl i :: .inr a :: r => k a i v r
  | _ => a_f
def p_cp (st : List mV) (k : Nat → Int32 → Nat → Int32 → Int32 → List mV → mA) : mA := match st with
  | .inl n :: .inl d :: .inr b :: .inl s :: .inr a :: r => k a s b d n r
  | _ => a_f
def d_1 (st : List mV) (k : mV → List mV → mA) : mA := match st with
  | v :: r => k v r
  | _ => a_f
def d_2 (st : List mV) (k : mV → mV → List mV → mA) : mA := match st with
  | v :: w :: r => k v w r
  | _ => a_f
/-- the first n of the stack, the deepest first -/
def a_take : Nat → List mV → List mV → Option (List mV × List mV)
  | 0, acc, st => some (acc, st)
  | _ + 1, _, [] => none
  | n + 1, acc, v :: st => a_take n (v :: acc) st
/-- the receiver's kind is q (0: there is none) -/
def a_rec (M : mM) (q : Nat) (as : List mV) : Bool := match q, as with
  | 0, _ => true
  | q + 1, .inr a :: _ => decide (h_k M a = q + 1)
  | _, _ => false
def a_sw (x : Int32) (k : Nat → mA) (d : Int) : Int → List Int → mA
  | _, [] => k d.toNat
  | lo, t :: ts => if x = Int32.ofInt lo then k t.toNat else a_sw x k d (lo + 1) ts
def a_ret (st : List mV) (M : mM) : mA := match st with
  | [v] => .inr (.inr (some (some v, M)))
  | _ => a_f
/-- one instruction. Linked words: fload/dload get an int/a reference of a field (64 * class + field), fstore/lstore/dstore put an int/a boolean/a reference; invokeinterface j q calls method j (q = 64 * receiver's kind + 4 * arguments + kind of answer); pop is Object.<init>, d2f System.arraycopy, lreturn returns a boolean; jumps name places -/
def a_ct (C : List Instr) (ip : Nat) (ls : mL) (st : List mV) (M : mM) : mA := match a_nth C ip with
  | .iconst v => .inl (ip + 1, ls, .inl (Int32.ofInt v) :: st, M)
  | .aconst_null => .inl (ip + 1, ls, .inr 0 :: st, M)
  | .iload i => (match l_get ls i with
    | some (.inl x) => .inl (ip + 1, ls, .inl x :: st, M)
    | _ => a_f)
  | .aload i => (match l_get ls i with
    | some (.inr x) => .inl (ip + 1, ls, .inr x :: st, M)
    | _ => a_f)
  | .istore i => b_1 st fun x r => .inl (ip + 1, l_set ls i (.inl x), r, M)
  | .astore i => p_1 st fun x r => .inl (ip + 1, l_set ls i (.inr x), r, M)
  | .iinc i v => (match l_get ls i with
    | some (.inl x) => .inl (ip + 1, l_set ls i (.inl (x + Int32.ofInt v)), st, M)
    | _ => a_f)
  | .iadd => b_2 st fun x y r => .inl (ip + 1, ls, .inl (x + y) :: r, M)
  | .isub => b_2 st fun x y r => .inl (ip + 1, ls, .inl (x - y) :: r, M)
  | .imul => b_2 st fun x y r => .inl (ip + 1, ls, .inl (x * y) :: r, M)
  | .iand => b_2 st fun x y r => .inl (ip + 1, ls, .inl (x &&& y) :: r, M)
  | .ior => b_2 st fun x y r => .inl (ip + 1, ls, .inl (x ||| y) :: r, M)
  | .ixor => b_2 st fun x y r => .inl (ip + 1, ls, .inl (x ^^^ y) :: r, M)
  | .idiv => b_2 st fun x y r => a_g (¬ y = 0) (.inl (ip + 1, ls, .inl (x / y) :: r, M))
  | .irem => b_2 st fun x y r => a_g (¬ y = 0) (.inl (ip + 1, ls, .inl (x - x / y * y) :: r, M))
  | .ishl => b_2 st fun x y r => .inl (ip + 1, ls, .inl (x <<< (y &&& 31)) :: r, M)
  | .ishr => b_2 st fun x y r => .inl (ip + 1, ls, .inl (x >>> (y &&& 31)) :: r, M)
  | .iushr => b_2 st fun x y r => .inl (ip + 1, ls, .inl ((x.toUInt32 >>> (y.toUInt32 &&& Int32.toUInt32 31)).toInt32) :: r, M)
  | .dup => d_1 st fun v r => .inl (ip + 1, ls, v :: v :: r, M)
  | .dup2 => d_2 st fun v w r => .inl (ip + 1, ls, v :: w :: v :: w :: r, M)
  | .goto t => .inl (t.toNat, ls, st, M)
  | .if_icmp .eq t => b_2 st fun x y r => if x = y then .inl (t.toNat, ls, r, M) else .inl (ip + 1, ls, r, M)
  | .if_icmp .ne t => b_2 st fun x y r => if x = y then .inl (ip + 1, ls, r, M) else .inl (t.toNat, ls, r, M)
  | .if_icmp .lt t => b_2 st fun x y r => if x < y then .inl (t.toNat, ls, r, M) else .inl (ip + 1, ls, r, M)
  | .if_icmp .ge t => b_2 st fun x y r => if y ≤ x then .inl (t.toNat, ls, r, M) else .inl (ip + 1, ls, r, M)
  | .if_icmp .gt t => b_2 st fun x y r => if y < x then .inl (t.toNat, ls, r, M) else .inl (ip + 1, ls, r, M)
  | .if_icmp .le t => b_2 st fun x y r => if x ≤ y then .inl (t.toNat, ls, r, M) else .inl (ip + 1, ls, r, M)
  | .ifCond .eq t => b_1 st fun x r => if x = 0 then .inl (t.toNat, ls, r, M) else .inl (ip + 1, ls, r, M)
  | .ifCond .ne t => b_1 st fun x r => if x = 0 then .inl (ip + 1, ls, r, M) else .inl (t.toNat, ls, r, M)
  | .ifCond .lt t => b_1 st fun x r => if x < 0 then .inl (t.toNat, ls, r, M) else .inl (ip + 1, ls, r, M)
  | .ifCond .ge t => b_1 st fun x r => if 0 ≤ x then .inl (t.toNat, ls, r, M) else .inl (ip + 1, ls, r, M)
  | .ifCond .gt t => b_1 st fun x r => if 0 < x then .inl (t.toNat, ls, r, M) else .inl (ip + 1, ls, r, M)
  | .ifCond .le t => b_1 st fun x r => if x ≤ 0 then .inl (t.toNat, ls, r, M) else .inl (ip + 1, ls, r, M)
  | .ifnull t => p_1 st fun a r => if a = 0 then .inl (t.toNat, ls, r, M) else .inl (ip + 1, ls, r, M)
  | .ifnonnull t => p_1 st fun a r => if a = 0 then .inl (ip + 1, ls, r, M) else .inl (t.toNat, ls, r, M)
  | .if_acmp .eq t => p_2 st fun a b r => a_g (¬ h_k M a = 14 ∧ ¬ h_k M b = 14) (if a = b then .inl (t.toNat, ls, r, M) else .inl (ip + 1, ls, r, M))
  | .if_acmp .ne t => p_2 st fun a b r => a_g (¬ h_k M a = 14 ∧ ¬ h_k M b = 14) (if a = b then .inl (ip + 1, ls, r, M) else .inl (t.toNat, ls, r, M))
  | .tableswitch d lo _ ts => b_1 st fun x r => a_sw x (fun t => .inl (t, ls, r, M)) d lo ts.toList
  | .fload f => p_1 st fun a r => a_g (h_k M a = f / 64 + 1) (.inl (ip + 1, ls, .inl (h_i M a (f % 64)) :: r, M))
  | .dload f => p_1 st fun a r => a_g (h_k M a = f / 64 + 1) (.inl (ip + 1, ls, .inr (h_r M a (f % 64)) :: r, M))
  | .fstore f => p_i st fun a x r => a_g (h_k M a = f / 64 + 1) (.inl (ip + 1, ls, r, h_si M a (f % 64) x))
  | .lstore f => p_i st fun a x r => a_g (h_k M a = f / 64 + 1 ∧ (x = 0 ∨ x = 1)) (.inl (ip + 1, ls, r, h_si M a (f % 64) x))
  | .dstore f => p_2 st fun a v r => a_g (h_k M a = f / 64 + 1) (.inl (ip + 1, ls, r, h_sr M a (f % 64) v))
  | .iaload => p_i st fun a i r => a_g ((h_k M a = 9 ∨ h_k M a = 14) ∧ h_in i (h_l M a)) (.inl (ip + 1, ls, .inl (h_i M a i.toNatClampNeg) :: r, M))
  | .baload => p_i st fun a i r => a_g (h_k M a = 10 ∧ h_in i (h_l M a)) (.inl (ip + 1, ls, .inl (h_i M a i.toNatClampNeg) :: r, M))
  | .aaload => p_i st fun a i r => a_g ((h_k M a = 11 ∨ h_k M a = 12 ∨ h_k M a = 13) ∧ h_in i (h_l M a)) (.inl (ip + 1, ls, .inr (h_r M a i.toNatClampNeg) :: r, M))
  | .iastore => p_ii st fun a i x r => a_g (h_k M a = 9 ∧ h_in i (h_l M a)) (.inl (ip + 1, ls, r, h_si M a i.toNatClampNeg x))
  | .bastore => p_ii st fun a i x r => a_g (h_k M a = 10 ∧ h_in i (h_l M a) ∧ (x = 0 ∨ x = 1)) (.inl (ip + 1, ls, r, h_si M a i.toNatClampNeg x))
  | .aastore => p_ir st fun a i v r => a_g (((h_k M a = 11 ∧ h_k M v = 3) ∨ (h_k M a = 12 ∧ h_k M v = 2)) ∧ h_in i (h_l M a)) (.inl (ip + 1, ls, r, h_sr M a i.toNatClampNeg v))
  | .arraylength => p_1 st fun a r => a_g (9 ≤ h_k M a ∧ h_k M a ≤ 13) (.inl (ip + 1, ls, .inl (Int32.ofNat (h_l M a)) :: r, M))
  | .new t => .inl (ip + 1, ls, .inr (h_n M + 1) :: st, h_al M (t + 1) (h_N t))
  | .newarray .int => b_1 st fun x r => a_g (¬ x < 0 ∧ x.toNatClampNeg ≤ 100000) (.inl (ip + 1, ls, .inr (h_n M + 1) :: r, h_al M 9 x.toNatClampNeg))
  | .newarray .boolean => b_1 st fun x r => a_g (¬ x < 0 ∧ x.toNatClampNeg ≤ 100000) (.inl (ip + 1, ls, .inr (h_n M + 1) :: r, h_al M 10 x.toNatClampNeg))
  | .anewarray t => b_1 st fun x r => a_g (¬ x < 0 ∧ x.toNatClampNeg ≤ 100000) (.inl (ip + 1, ls, .inr (h_n M + 1) :: r, h_al M t x.toNatClampNeg))
  | .multianewarray _ _ => b_2 st fun x y r => a_g (x = 5 ∧ y = 8) (.inl (ip + 1, ls, .inr (h_n M + 1) :: r, h_mn M 5 8))
  | .getstatic t => .inl (ip + 1, ls, .inr t :: st, M)
  | .pop => p_1 st fun a r => a_g (¬ a = 0 ∧ r.length ≤ 8) (.inl (ip + 1, ls, r, M))
  | .d2f => p_cp st fun a s b d n r => a_g (((h_k M a = 9 ∨ h_k M a = 14) ∧ h_k M b = 9) ∧ (¬ s < 0 ∧ ¬ d < 0 ∧ ¬ n < 0) ∧ (s.toNatClampNeg + n.toNatClampNeg ≤ h_l M a ∧ d.toNatClampNeg + n.toNatClampNeg ≤ h_l M b) ∧ r.length ≤ 8) (.inl (ip + 1, ls, r, h_cp M a s.toNatClampNeg b d.toNatClampNeg n.toNatClampNeg))
  | .invokeinterface j q => (match a_take (q / 4 % 16) [] st with
    | some (as, r) => a_g (a_rec M (q / 64) as = true ∧ r.length ≤ 8) (.inr (.inl (j, as, q % 4, r)))
    | none => a_f)
  | .ireturn => b_1 st fun _ _ => a_ret st M
  | .lreturn => b_1 st fun x _ => a_g (x = 0 ∨ x = 1) (a_ret st M)
  | .areturn => p_1 st fun _ _ => a_ret st M
  | .return_ => (match st with
    | [] => .inr (.inr (some (none, M)))
    | _ => a_f)
  | _ => a_f
/-- the stack behind a call: nothing, an int, a reference -/
def a_push (rt : Nat) (v : Option mV) (r : List mV) : Option (List mV) := match rt, v with
  | 0, none => some r
  | 1, some (.inl x) => some (.inl x :: r)
  | 2, some (.inr x) => some (.inr x :: r)
  | _, _ => none
def a_ent (n : Nat) (as : List mV) : mL := as.map some ++ List.replicate (n - as.length) none
