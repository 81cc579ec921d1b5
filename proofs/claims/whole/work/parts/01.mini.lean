/-! A small machine: the code as a table, a state of pieces, and what holds before it so that something holds behind it. No row here speaks of a class of the claim. -/
abbrev mE : Type := (FieldType × vp_A) ⊕ (Nat × List Value)
abbrev mL : Type := List (Option Value)
/-- pc, locals, stack, cells, cells made, slots made -/
abbrev mC : Type := Nat × mL × List Value × List mE × Nat × Nat
/-- pc, instruction, its length, group, kind, three numbers, where its words stand -/
abbrev mB : Type := Nat × Instr × Nat × Nat × Nat × Nat × Nat × Nat × List Nat
/-- most cells, most slots, code, name, bytes, most locals, result, handlers, their classes, the nest's host -/
abbrev mM : Type := Nat × Nat × List mB × MethodName × ByteArray × Nat × Option FieldType × List (Nat × Nat × Nat × Nat) × List Nat × String
abbrev mO : Type := Option (List Prop × mC)
abbrev mR : Type := Option Value ⊕ Nat
/-- the script, the classes (name, fields, how many, types of fields), the room of the method -/
abbrev mS : Type := Nat × (Nat → Int32)
abbrev mK : Type := List (String × u_T × Nat × List FieldType)
/-- how long an instruction is -/
def mm_len (ins : Instr) : Nat := match ins with
  | .bipush _ => 2
  | .sipush _ => 3
  | .ldc _ => 2
  | .iload _ => 2
  | .aload _ => 2
  | .istore _ => 2
  | .astore _ => 2
  | .iinc _ _ => 3
  | .getfield _ => 3
  | .putfield _ => 3
  | .new _ => 3
  | .newarray _ => 2
  | .goto _ => 3
  | .ifCond _ _ => 3
  | .if_icmp _ _ => 3
  | .invokevirtual _ => 3
  | .invokespecial _ => 3
  | .invokestatic _ => 3
  | _ => 1
def mm_all : List Prop → Prop
  | [] => True
  | p :: ps => p ∧ mm_all ps
def mm_ld (ls : mL) (i : Nat) : Option Value := match ls[i]? with
  | some (some v) => some v
  | _ => none
def mm_st (pc len : Nat) (ls : mL) (i : Nat) (v : Value) (st : List Value) (h : List mE) (kc ks : Nat) : mO :=
  if i < ls.length then some ([], pc + len, ls.set i (some v), st, h, kc, ks) else none
def mm_const (pc : Nat) (ins : Instr) (a : Nat) (ls : mL) (st : List Value) (h : List mE) (kc ks : Nat) : mO := match ins with
  | .iconst n => some ([], pc + 1, ls, .int (Int32.ofInt n) :: st, h, kc, ks)
  | .bipush n => some ([], pc + 2, ls, .int (Int8.ofInt n).toInt32 :: st, h, kc, ks)
  | .sipush n => some ([], pc + 3, ls, .int (Int16.ofInt n).toInt32 :: st, h, kc, ks)
  | .ldc _ => some ([], pc + 2, ls, .int (Int32.ofNat a) :: st, h, kc, ks)
  | .lconst n => some ([], pc + 1, ls, .long (Int64.ofNat n.val) :: st, h, kc, ks)
  | _ => none
def mm_iload (pc len i : Nat) (ls : mL) (st : List Value) (h : List mE) (kc ks : Nat) : mO := match mm_ld ls i with
  | some (.int x) => some ([], pc + len, ls, .int x :: st, h, kc, ks)
  | _ => none
def mm_aload (pc len i : Nat) (ls : mL) (st : List Value) (h : List mE) (kc ks : Nat) : mO := match mm_ld ls i with
  | some (.ref x) => some ([], pc + len, ls, .ref x :: st, h, kc, ks)
  | some (.float x) => some ([], pc + len, ls, .float x :: st, h, kc, ks)
  | _ => none
def mm_load (pc : Nat) (ins : Instr) (ls : mL) (st : List Value) (h : List mE) (kc ks : Nat) : mO := match ins with
  | .iload_n k => mm_iload pc 1 k.val ls st h kc ks
  | .iload i => mm_iload pc 2 i ls st h kc ks
  | .aload_n k => mm_aload pc 1 k.val ls st h kc ks
  | .aload i => mm_aload pc 2 i ls st h kc ks
  | _ => none
def mm_istore (pc len i : Nat) (ls : mL) (st : List Value) (h : List mE) (kc ks : Nat) : mO := match st with
  | .int x :: r => mm_st pc len ls i (.int x) r h kc ks
  | _ => none
def mm_astore (pc len i : Nat) (ls : mL) (st : List Value) (h : List mE) (kc ks : Nat) : mO := match st with
  | .ref x :: r => mm_st pc len ls i (.ref x) r h kc ks
  | _ => none
def mm_iinc (pc i : Nat) (n : Int) (ls : mL) (st : List Value) (h : List mE) (kc ks : Nat) : mO := match mm_ld ls i with
  | some (.int x) => mm_st pc 3 ls i (.int (x + Int32.ofInt n)) st h kc ks
  | _ => none
def mm_store (pc : Nat) (ins : Instr) (ls : mL) (st : List Value) (h : List mE) (kc ks : Nat) : mO := match ins with
  | .istore_n k => mm_istore pc 1 k.val ls st h kc ks
  | .istore i => mm_istore pc 2 i ls st h kc ks
  | .astore_n k => mm_astore pc 1 k.val ls st h kc ks
  | .astore i => mm_astore pc 2 i ls st h kc ks
  | .iinc i n => mm_iinc pc i n ls st h kc ks
  | _ => none
def mm_bin (pc : Nat) (ins : Instr) (ls : mL) (x y : Int32) (r : List Value) (h : List mE) (kc ks : Nat) : mO := match ins with
  | .iadd => some ([], pc + 1, ls, .int (x + y) :: r, h, kc, ks)
  | .isub => some ([], pc + 1, ls, .int (x - y) :: r, h, kc, ks)
  | .imul => some ([], pc + 1, ls, .int (x * y) :: r, h, kc, ks)
  | .iand => some ([], pc + 1, ls, .int (x &&& y) :: r, h, kc, ks)
  | .idiv => some ([¬ y = 0], pc + 1, ls, .int (x / y) :: r, h, kc, ks)
  | .irem => some ([¬ y = 0], pc + 1, ls, .int (x - x / y * y) :: r, h, kc, ks)
  | _ => none
def mm_arith (pc : Nat) (ins : Instr) (ls : mL) (st : List Value) (h : List mE) (kc ks : Nat) : mO := match st with
  | .int y :: .int x :: r => mm_bin pc ins ls x y r h kc ks
  | _ => none
def mm_un (pc : Nat) (ins : Instr) (ls : mL) (st : List Value) (h : List mE) (kc ks : Nat) : mO := match st with
  | .int x :: r => (match ins with
    | .ineg => some ([], pc + 1, ls, .int (-x) :: r, h, kc, ks)
    | .i2l => some ([], pc + 1, ls, .long x.toInt64 :: r, h, kc, ks)
    | _ => none)
  | _ => none
def mm_c1 (v : Value) : Bool := match v with
  | .long _ => false
  | .double _ => false
  | _ => true
def mm_stk (pc : Nat) (ins : Instr) (ls : mL) (st : List Value) (h : List mE) (kc ks : Nat) : mO := match ins, st with
  | .dup, a :: r => if mm_c1 a then some ([], pc + 1, ls, a :: a :: r, h, kc, ks) else none
  | .pop, a :: r => if mm_c1 a then some ([], pc + 1, ls, r, h, kc, ks) else none
  | .dup2, a :: b :: r => if mm_c1 a && mm_c1 b then some ([], pc + 1, ls, a :: b :: a :: b :: r, h, kc, ks) else none
  | .dup_x1, a :: b :: r => if mm_c1 a && mm_c1 b then some ([], pc + 1, ls, a :: b :: a :: r, h, kc, ks) else none
  | _, _ => none
def mm_getf (pc ci k : Nat) (ls : mL) (st : List Value) (h : List mE) (kc ks : Nat) : mO := match st with
  | .ref i :: r => (match h[i]? with
    | some (.inr (cj, fs)) => (match cj == ci, fs[k]? with
      | true, some v => some ([], pc + 3, ls, v :: r, h, kc, ks)
      | _, _ => none)
    | _ => none)
  | _ => none
/-- a value that a field of this type takes as it is -/
def mm_fit (ty : FieldType) (v : Value) : Prop := match ty, v with
  | .int, .int _ => True
  | .boolean, .int x => x = 0 ∨ x = 1
  | .object _, .ref _ => True
  | .array _, .ref _ => True
  | _, _ => False
def mm_putf (K : mK) (pc ci k : Nat) (ls : mL) (st : List Value) (h : List mE) (kc ks : Nat) : mO := match st with
  | v :: .ref i :: r => (match h[i]? with
    | some (.inr (cj, fs)) => (match cj == ci, K[ci]? with
      | true, some q => (match q.2.2.2[k]? with
        | some ty => some ([mm_fit ty v, k < fs.length], pc + 3, ls, r, h.set i (.inr (cj, fs.set k v)), kc, ks)
        | none => none)
      | _, _ => none)
    | _ => none)
  | _ => none
/-- is the place within -/
def mm_in (i : Int32) (n : Nat) : Prop := 0 ≤ i ∧ i.toNatClampNeg < n
def mm_ald (sc : mS) (pc : Nat) (ins : Instr) (ls : mL) (st : List Value) (h : List mE) (kc ks : Nat) : mO := match st with
  | .int i :: .ref a :: r => (match ins, h[a]? with
    | .iaload, some (.inl (.int, n, .inl f)) => some ([mm_in i n], pc + 1, ls, .int (f i.toNatClampNeg) :: r, h, kc, ks)
    | .baload, some (.inl (.boolean, n, .inl f)) => some ([mm_in i n], pc + 1, ls, .int (f i.toNatClampNeg) :: r, h, kc, ks)
    | .laload, some (.inl (.long, n, .inr (.inl f))) => some ([mm_in i n], pc + 1, ls, .long (f i.toNatClampNeg) :: r, h, kc, ks)
    | _, _ => none)
  | .int i :: .float _ :: r => (match ins with
    | .iaload => some ([mm_in i sc.1], pc + 1, ls, .int (sc.2 i.toNatClampNeg) :: r, h, kc, ks)
    | _ => none)
  | _ => none
def mm_ast (pc : Nat) (ins : Instr) (ls : mL) (st : List Value) (h : List mE) (kc ks : Nat) : mO := match st with
  | .int x :: .int i :: .ref a :: r => (match ins, h[a]? with
    | .iastore, some (.inl (.int, n, .inl f)) => some ([mm_in i n], pc + 1, ls, r, h.set a (.inl (.int, n, .inl (upd f i.toNatClampNeg x))), kc, ks)
    | .bastore, some (.inl (.boolean, n, .inl f)) => some ([mm_in i n], pc + 1, ls, r, h.set a (.inl (.boolean, n, .inl (upd f i.toNatClampNeg (vp_nar .boolean x)))), kc, ks)
    | _, _ => none)
  | .long x :: .int i :: .ref a :: r => (match ins, h[a]? with
    | .lastore, some (.inl (.long, n, .inr (.inl f))) => some ([mm_in i n], pc + 1, ls, r, h.set a (.inl (.long, n, .inr (.inl (vp_updL f i.toNatClampNeg x)))), kc, ks)
    | _, _ => none)
  | _ => none
def mm_alen (sc : mS) (pc : Nat) (ls : mL) (st : List Value) (h : List mE) (kc ks : Nat) : mO := match st with
  | .ref a :: r => (match h[a]? with
    | some (.inl (_, x)) => some ([], pc + 1, ls, .int (Int32.ofNat x.1) :: r, h, kc, ks)
    | _ => none)
  | .float _ :: r => some ([], pc + 1, ls, .int (Int32.ofNat sc.1) :: r, h, kc, ks)
  | _ => none
def mm_new (K : mK) (mc ms pc ci : Nat) (ls : mL) (st : List Value) (h : List mE) (kc ks : Nat) : mO := match K[ci]? with
  | some q => some ([kc + 1 ≤ mc, ks + q.2.2.1 ≤ ms], pc + 3, ls, .ref h.length :: st, h ++ [.inr (ci, q.2.2.2.map defaultValue)], kc + 1, ks + q.2.2.1)
  | none => none
def mm_newa (mc ms pc : Nat) (ins : Instr) (ls : mL) (st : List Value) (h : List mE) (kc ks : Nat) : mO := match st with
  | .int n :: r => (match ins with
    | .newarray .int => some ([0 ≤ n, n.toNatClampNeg ≤ 100000, kc + 1 ≤ mc, ks + n.toNatClampNeg ≤ ms], pc + 2, ls, .ref h.length :: r, h ++ [.inl (.int, n.toNatClampNeg, .inl (fun _ => 0))], kc + 1, ks + n.toNatClampNeg)
    | .newarray .boolean => some ([0 ≤ n, n.toNatClampNeg ≤ 100000, kc + 1 ≤ mc, ks + n.toNatClampNeg ≤ ms], pc + 2, ls, .ref h.length :: r, h ++ [.inl (.boolean, n.toNatClampNeg, .inl (fun _ => 0))], kc + 1, ks + n.toNatClampNeg)
    | .newarray .long => some ([0 ≤ n, n.toNatClampNeg ≤ 100000, kc + 1 ≤ mc, ks + n.toNatClampNeg ≤ ms], pc + 2, ls, .ref h.length :: r, h ++ [.inl (.long, n.toNatClampNeg, .inr (.inl (fun _ => 0)))], kc + 1, ks + n.toNatClampNeg)
    | _ => none)
  | _ => none
def mm_math (mc ms k pc : Nat) (ls : mL) (st : List Value) (h : List mE) (kc ks : Nat) : mO := match st with
  | .int y :: .int x :: r => (match k with
    | 0 => some ([kc ≤ mc, ks ≤ ms], pc + 3, ls, .int (if x < y then y else x) :: r, h, kc, ks)
    | 1 => some ([kc ≤ mc, ks ≤ ms], pc + 3, ls, .int (if y < x then y else x) :: r, h, kc, ks)
    | _ => none)
  | _ => none
def mm_lcmp (pc : Nat) (ls : mL) (st : List Value) (h : List mE) (kc ks : Nat) : mO := match st with
  | .long y :: .long x :: r => some ([], pc + 1, ls, .int (lg_cmp x y) :: r, h, kc, ks)
  | _ => none
def mm_obj (pc : Nat) (ls : mL) (st : List Value) (h : List mE) (kc ks : Nat) : mO := match st with
  | .ref _ :: r => some ([], pc + 3, ls, r, h, kc, ks)
  | _ => none
/-- a switch -/
def mm_sw (pc : Nat) (ins : Instr) (ls : mL) (st : List Value) (h : List mE) (kc ks : Nat) : mO := match ins, st with
  | .tableswitch dflt lo hi offs, .int x :: r =>
    if x.toInt < lo ∨ hi < x.toInt then some ([(pc : Int) + dflt = (((pc : Int) + dflt).toNat : Int)], ((pc : Int) + dflt).toNat, ls, r, h, kc, ks)
    else (match offs[(x.toInt - lo).toNat]? with
      | some o => some ([(pc : Int) + o = (((pc : Int) + o).toNat : Int)], ((pc : Int) + o).toNat, ls, r, h, kc, ks)
      | none => none)
  | _, _ => none
/-- the plain instructions -/
def mm_op (sc : mS) (K : mK) (mc ms : Nat) (b : mB) (c : mC) : mO := match b, c with
  | (_, ins, _, _, kd, x, y, _, _), (pc, ls, st, h, kc, ks) => match kd with
    | 0 => mm_const pc ins x ls st h kc ks
    | 1 => mm_load pc ins ls st h kc ks
    | 2 => mm_store pc ins ls st h kc ks
    | 3 => mm_arith pc ins ls st h kc ks
    | 4 => mm_un pc ins ls st h kc ks
    | 5 => mm_stk pc ins ls st h kc ks
    | 6 => mm_getf pc x y ls st h kc ks
    | 7 => mm_putf K pc x y ls st h kc ks
    | 8 => mm_ald sc pc ins ls st h kc ks
    | 9 => mm_ast pc ins ls st h kc ks
    | 10 => mm_alen sc pc ls st h kc ks
    | 11 => mm_new K mc ms pc x ls st h kc ks
    | 12 => mm_newa mc ms pc ins ls st h kc ks
    | 13 => if ((st.map Value.category).sum).ble 12 then mm_math mc ms x pc ls st h kc ks else none
    | 14 => mm_lcmp pc ls st h kc ks
    | 15 => if ((st.map Value.category).sum).ble 8 then mm_obj pc ls st h kc ks else none
    | 16 => some ([], x, ls, st, h, kc, ks)
    | 17 => mm_sw pc ins ls st h kc ks
    | _ => none
def mm_cmp (q : ClassFile.Cond) (x y : Int32) : Prop := match q with
  | .eq => x = y
  | .ne => ¬ x = y
  | .lt => x < y
  | .ge => y ≤ x
  | .gt => y < x
  | .le => x ≤ y
/-- a branch -/
def mm_br (b : mB) (c : mC) : Option (Prop × mC × mC) := match b, c with
  | (_, ins, _, _, _, tgt, _, _, _), (pc, ls, st, h, kc, ks) => match ins, st with
    | .ifCond q _, .int x :: r => some (mm_cmp q x 0, (tgt, ls, r, h, kc, ks), (pc + 3, ls, r, h, kc, ks))
    | .if_icmp q _, .int y :: .int x :: r => some (mm_cmp q x y, (tgt, ls, r, h, kc, ks), (pc + 3, ls, r, h, kc, ks))
    | _, _ => none
/-- a call: the arguments (the first one first), the rest of the stack; an object of the class z stands first where the call asks for one -/
def mm_recv (kd z : Nat) (as : List Value) (h : List mE) : Bool := match kd with
  | 4 => true
  | 5 => true
  | 7 => true
  | _ => (match as with
    | .ref i :: _ => (match h[i]? with
      | some (.inr (cj, _)) => cj == z
      | _ => false)
    | _ => false)
def mm_cl (b : mB) (c : mC) : Option (List Value × List Value) := match b, c with
  | (_, _, _, _, kd, _, y, z, _), (_, _, st, h, _, _) =>
    if y ≤ st.length && ((st.take y).all mm_c1 && (mm_recv kd z (st.take y).reverse h && ((st.drop y).map Value.category).sum.ble 8)) then some ((st.take y).reverse, st.drop y) else none
def mm_en (n : Nat) (as : List Value) : mL := as.map some ++ List.replicate (n - as.length) none
def mm_ret (ins : Instr) (r : Option FieldType) (st : List Value) : Option (List Prop × Option Value) := match ins, r, st with
  | .ireturn, some .int, [.int v] => some ([], some (.int v))
  | .ireturn, some .boolean, [.int v] => some ([v = 0 ∨ v = 1], some (.int v))
  | .return_, none, [] => some ([], none)
  | _, _, _ => none
def mm_at (P : List mM) (M pc : Nat) : Option (mM × mB) := match P[M]? with
  | some q => (match q.2.2.1.find? (fun b => b.1 == pc) with
    | some b => some (q, b)
    | none => none)
  | none => none
/-- which handler takes the class E at pc -/
def mm_hd (pc E : Nat) : List (Nat × Nat × Nat × Nat) → List Nat → Option Nat
  | (s0, s1, hp, _) :: hs, k :: ksx => if s0 ≤ pc && (Nat.blt pc s1 && k == E) then some hp else mm_hd pc E hs ksx
  | _, _ => none
def mm_hs (b : mB) : Option (Nat × Nat) := match b with
  | (pc, .astore_n k, _) => some (pc + 1, k.val)
  | (pc, .astore i, _) => some (pc + 2, i)
  | _ => none
/-- what must hold at c in method M, with d calls to go, so that the method ends within n steps, and Q holds of its end -/
def mm_wp (sc : mS) (K : mK) (P : List mM) : Nat → Nat → Nat → mC → (mR → List mE → Prop) → Prop
  | 0, _, _, _, _ => False
  | n + 1, d, M, c, Q => match mm_at P M c.1 with
    | none => False
    | some (q, b) => match b.2.2.2.1 with
      | 0 => (match mm_op sc K q.1 q.2.1 b c with
        | some (ps, c') => mm_all ps ∧ mm_wp sc K P n d M c' Q
        | none => False)
      | 1 => (match mm_br b c with
        | some (p, c1, c2) => (p → mm_wp sc K P n d M c1 Q) ∧ (¬ p → mm_wp sc K P n d M c2 Q)
        | none => False)
      | 2 => (match d, mm_cl b c, P[b.2.2.2.2.2.1]? with
        | d' + 1, some (as, r), some q2 => (c.2.2.2.2.1 + q2.1 ≤ q.1 ∧ c.2.2.2.2.2 + q2.2.1 ≤ q.2.1 ∧ as.length ≤ q2.2.2.2.2.2.1) ∧
          mm_wp sc K P n d' b.2.2.2.2.2.1 (0, mm_en q2.2.2.2.2.2.1 as, [], c.2.2.2.1, 0, 0) (fun res h' => match res with
            | .inl v => mm_wp sc K P n d M (c.1 + 3, c.2.1, v.toList ++ r, h', c.2.2.2.2.1 + q2.1, c.2.2.2.2.2 + q2.2.1) Q
            | .inr E => b.2.2.2.2.1 = 6 ∧ (match mm_hd c.1 E q.2.2.2.2.2.2.2.1 q.2.2.2.2.2.2.2.2.1 with
              | some hp => (match (mm_at P M hp).bind (fun z => mm_hs z.2) with
                | some (pc', i) => mm_wp sc K P n d M (pc', c.2.1.set i none, [], h', c.2.2.2.2.1 + q2.1, c.2.2.2.2.2 + q2.2.1) Q
                | none => False)
              | none => q.2.2.2.2.2.2.2.1 = [] ∧ Q (.inr E) h'))
        | _, _, _ => False)
      | 3 => (match mm_ret b.2.1 q.2.2.2.2.2.2.1 c.2.2.1 with
        | some (ps, v) => (c.2.2.2.2.1 ≤ q.1 ∧ c.2.2.2.2.2 ≤ q.2.1) ∧ mm_all ps ∧ Q (.inl v) c.2.2.2.1
        | none => False)
      | 4 => (5 ≤ d ∧ c.2.2.2.2.1 + 1 ≤ q.1 ∧ c.2.2.2.2.2 + 6 ≤ q.2.1 ∧ q.2.2.2.2.2.2.2.1 = [] ∧ (c.2.2.1.map Value.category).sum ≤ 8) ∧ Q (.inr b.2.2.2.2.2.1) c.2.2.2.1
      | _ => False
