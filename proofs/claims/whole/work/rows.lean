section
/-! A small machine: the code as a table, a state of pieces, and what holds before it so that something holds behind it. No row here speaks of a class of the claim. -/
abbrev mE : Type := (FieldType × vp_A) ⊕ (Nat × List Value)
abbrev mL : Type := List (Option Value)
/-- pc, locals, stack, cells, cells made, slots made -/
abbrev mC : Type := Nat × mL × List Value × List mE × Nat × Nat
/-- pc, instruction, its length, group, kind, three numbers, where its words stand -/
abbrev mB : Type := Nat × Instr × Nat × Nat × Nat × Nat × Nat × Nat × List Nat
/-- most cells, most slots, code, name, bytes, most locals, result, handlers, their classes, the nest's host -/
abbrev mM : Type := Nat × Nat × List mB × MethodName × ByteArray × Nat × Option FieldType × List (Nat × Nat × Nat × Nat) × List Nat × String
abbrev mO : Type := Option (List Prop × mC)
abbrev mR : Type := Option Value ⊕ Nat
/-- the script, the classes (name, fields, how many, types of fields), the room of the method -/
abbrev mS : Type := Nat × (Nat → Int32)
abbrev mK : Type := List (String × u_T × Nat × List FieldType)
/-- how long an instruction is -/
def mm_len (ins : Instr) : Nat := match ins with
  | .bipush _ => 2
  | .sipush _ => 3
  | .ldc _ => 2
  | .iload _ => 2
  | .aload _ => 2
  | .istore _ => 2
  | .astore _ => 2
  | .iinc _ _ => 3
  | .getfield _ => 3
  | .putfield _ => 3
  | .new _ => 3
  | .newarray _ => 2
  | .goto _ => 3
  | .ifCond _ _ => 3
  | .if_icmp _ _ => 3
  | .invokevirtual _ => 3
  | .invokespecial _ => 3
  | .invokestatic _ => 3
  | _ => 1
def mm_all : List Prop → Prop
  | [] => True
  | p :: ps => p ∧ mm_all ps
def mm_ld (ls : mL) (i : Nat) : Option Value := match ls[i]? with
  | some (some v) => some v
  | _ => none
def mm_st (pc len : Nat) (ls : mL) (i : Nat) (v : Value) (st : List Value) (h : List mE) (kc ks : Nat) : mO :=
  if i < ls.length then some ([], pc + len, ls.set i (some v), st, h, kc, ks) else none
def mm_const (pc : Nat) (ins : Instr) (a : Nat) (ls : mL) (st : List Value) (h : List mE) (kc ks : Nat) : mO := match ins with
  | .iconst n => some ([], pc + 1, ls, .int (Int32.ofInt n) :: st, h, kc, ks)
  | .bipush n => some ([], pc + 2, ls, .int (Int8.ofInt n).toInt32 :: st, h, kc, ks)
  | .sipush n => some ([], pc + 3, ls, .int (Int16.ofInt n).toInt32 :: st, h, kc, ks)
  | .ldc _ => some ([], pc + 2, ls, .int (Int32.ofNat a) :: st, h, kc, ks)
  | .lconst n => some ([], pc + 1, ls, .long (Int64.ofNat n.val) :: st, h, kc, ks)
  | _ => none
def mm_iload (pc len i : Nat) (ls : mL) (st : List Value) (h : List mE) (kc ks : Nat) : mO := match mm_ld ls i with
  | some (.int x) => some ([], pc + len, ls, .int x :: st, h, kc, ks)
  | _ => none
def mm_aload (pc len i : Nat) (ls : mL) (st : List Value) (h : List mE) (kc ks : Nat) : mO := match mm_ld ls i with
  | some (.ref x) => some ([], pc + len, ls, .ref x :: st, h, kc, ks)
  | some (.float x) => some ([], pc + len, ls, .float x :: st, h, kc, ks)
  | _ => none
def mm_load (pc : Nat) (ins : Instr) (ls : mL) (st : List Value) (h : List mE) (kc ks : Nat) : mO := match ins with
  | .iload_n k => mm_iload pc 1 k.val ls st h kc ks
  | .iload i => mm_iload pc 2 i ls st h kc ks
  | .aload_n k => mm_aload pc 1 k.val ls st h kc ks
  | .aload i => mm_aload pc 2 i ls st h kc ks
  | _ => none
def mm_istore (pc len i : Nat) (ls : mL) (st : List Value) (h : List mE) (kc ks : Nat) : mO := match st with
  | .int x :: r => mm_st pc len ls i (.int x) r h kc ks
  | _ => none
def mm_astore (pc len i : Nat) (ls : mL) (st : List Value) (h : List mE) (kc ks : Nat) : mO := match st with
  | .ref x :: r => mm_st pc len ls i (.ref x) r h kc ks
  | _ => none
def mm_iinc (pc i : Nat) (n : Int) (ls : mL) (st : List Value) (h : List mE) (kc ks : Nat) : mO := match mm_ld ls i with
  | some (.int x) => mm_st pc 3 ls i (.int (x + Int32.ofInt n)) st h kc ks
  | _ => none
def mm_store (pc : Nat) (ins : Instr) (ls : mL) (st : List Value) (h : List mE) (kc ks : Nat) : mO := match ins with
  | .istore_n k => mm_istore pc 1 k.val ls st h kc ks
  | .istore i => mm_istore pc 2 i ls st h kc ks
  | .astore_n k => mm_astore pc 1 k.val ls st h kc ks
  | .astore i => mm_astore pc 2 i ls st h kc ks
  | .iinc i n => mm_iinc pc i n ls st h kc ks
  | _ => none
def mm_bin (pc : Nat) (ins : Instr) (ls : mL) (x y : Int32) (r : List Value) (h : List mE) (kc ks : Nat) : mO := match ins with
  | .iadd => some ([], pc + 1, ls, .int (x + y) :: r, h, kc, ks)
  | .isub => some ([], pc + 1, ls, .int (x - y) :: r, h, kc, ks)
  | .imul => some ([], pc + 1, ls, .int (x * y) :: r, h, kc, ks)
  | .iand => some ([], pc + 1, ls, .int (x &&& y) :: r, h, kc, ks)
  | .idiv => some ([¬ y = 0], pc + 1, ls, .int (x / y) :: r, h, kc, ks)
  | .irem => some ([¬ y = 0], pc + 1, ls, .int (x - x / y * y) :: r, h, kc, ks)
  | _ => none
def mm_arith (pc : Nat) (ins : Instr) (ls : mL) (st : List Value) (h : List mE) (kc ks : Nat) : mO := match st with
  | .int y :: .int x :: r => mm_bin pc ins ls x y r h kc ks
  | _ => none
def mm_un (pc : Nat) (ins : Instr) (ls : mL) (st : List Value) (h : List mE) (kc ks : Nat) : mO := match st with
  | .int x :: r => (match ins with
    | .ineg => some ([], pc + 1, ls, .int (-x) :: r, h, kc, ks)
    | .i2l => some ([], pc + 1, ls, .long x.toInt64 :: r, h, kc, ks)
    | _ => none)
  | _ => none
def mm_c1 (v : Value) : Bool := match v with
  | .long _ => false
  | .double _ => false
  | _ => true
def mm_stk (pc : Nat) (ins : Instr) (ls : mL) (st : List Value) (h : List mE) (kc ks : Nat) : mO := match ins, st with
  | .dup, a :: r => if mm_c1 a then some ([], pc + 1, ls, a :: a :: r, h, kc, ks) else none
  | .pop, a :: r => if mm_c1 a then some ([], pc + 1, ls, r, h, kc, ks) else none
  | .dup2, a :: b :: r => if mm_c1 a && mm_c1 b then some ([], pc + 1, ls, a :: b :: a :: b :: r, h, kc, ks) else none
  | .dup_x1, a :: b :: r => if mm_c1 a && mm_c1 b then some ([], pc + 1, ls, a :: b :: a :: r, h, kc, ks) else none
  | _, _ => none
def mm_getf (pc ci k : Nat) (ls : mL) (st : List Value) (h : List mE) (kc ks : Nat) : mO := match st with
  | .ref i :: r => (match h[i]? with
    | some (.inr (cj, fs)) => (match cj == ci, fs[k]? with
      | true, some v => some ([], pc + 3, ls, v :: r, h, kc, ks)
      | _, _ => none)
    | _ => none)
  | _ => none
/-- a value that a field of this type takes as it is -/
def mm_fit (ty : FieldType) (v : Value) : Prop := match ty, v with
  | .int, .int _ => True
  | .boolean, .int x => x = 0 ∨ x = 1
  | .object _, .ref _ => True
  | .array _, .ref _ => True
  | _, _ => False
def mm_putf (K : mK) (pc ci k : Nat) (ls : mL) (st : List Value) (h : List mE) (kc ks : Nat) : mO := match st with
  | v :: .ref i :: r => (match h[i]? with
    | some (.inr (cj, fs)) => (match cj == ci, K[ci]? with
      | true, some q => (match q.2.2.2[k]? with
        | some ty => some ([mm_fit ty v, k < fs.length], pc + 3, ls, r, h.set i (.inr (cj, fs.set k v)), kc, ks)
        | none => none)
      | _, _ => none)
    | _ => none)
  | _ => none
/-- is the place within -/
def mm_in (i : Int32) (n : Nat) : Prop := 0 ≤ i ∧ i.toNatClampNeg < n
def mm_ald (sc : mS) (pc : Nat) (ins : Instr) (ls : mL) (st : List Value) (h : List mE) (kc ks : Nat) : mO := match st with
  | .int i :: .ref a :: r => (match ins, h[a]? with
    | .iaload, some (.inl (.int, n, .inl f)) => some ([mm_in i n], pc + 1, ls, .int (f i.toNatClampNeg) :: r, h, kc, ks)
    | .baload, some (.inl (.boolean, n, .inl f)) => some ([mm_in i n], pc + 1, ls, .int (f i.toNatClampNeg) :: r, h, kc, ks)
    | .laload, some (.inl (.long, n, .inr (.inl f))) => some ([mm_in i n], pc + 1, ls, .long (f i.toNatClampNeg) :: r, h, kc, ks)
    | _, _ => none)
  | .int i :: .float _ :: r => (match ins with
    | .iaload => some ([mm_in i sc.1], pc + 1, ls, .int (sc.2 i.toNatClampNeg) :: r, h, kc, ks)
    | _ => none)
  | _ => none
def mm_ast (pc : Nat) (ins : Instr) (ls : mL) (st : List Value) (h : List mE) (kc ks : Nat) : mO := match st with
  | .int x :: .int i :: .ref a :: r => (match ins, h[a]? with
    | .iastore, some (.inl (.int, n, .inl f)) => some ([mm_in i n], pc + 1, ls, r, h.set a (.inl (.int, n, .inl (upd f i.toNatClampNeg x))), kc, ks)
    | .bastore, some (.inl (.boolean, n, .inl f)) => some ([mm_in i n], pc + 1, ls, r, h.set a (.inl (.boolean, n, .inl (upd f i.toNatClampNeg (vp_nar .boolean x)))), kc, ks)
    | _, _ => none)
  | .long x :: .int i :: .ref a :: r => (match ins, h[a]? with
    | .lastore, some (.inl (.long, n, .inr (.inl f))) => some ([mm_in i n], pc + 1, ls, r, h.set a (.inl (.long, n, .inr (.inl (vp_updL f i.toNatClampNeg x)))), kc, ks)
    | _, _ => none)
  | _ => none
def mm_alen (sc : mS) (pc : Nat) (ls : mL) (st : List Value) (h : List mE) (kc ks : Nat) : mO := match st with
  | .ref a :: r => (match h[a]? with
    | some (.inl (_, x)) => some ([], pc + 1, ls, .int (Int32.ofNat x.1) :: r, h, kc, ks)
    | _ => none)
  | .float _ :: r => some ([], pc + 1, ls, .int (Int32.ofNat sc.1) :: r, h, kc, ks)
  | _ => none
def mm_new (K : mK) (mc ms pc ci : Nat) (ls : mL) (st : List Value) (h : List mE) (kc ks : Nat) : mO := match K[ci]? with
  | some q => some ([kc + 1 ≤ mc, ks + q.2.2.1 ≤ ms], pc + 3, ls, .ref h.length :: st, h ++ [.inr (ci, q.2.2.2.map defaultValue)], kc + 1, ks + q.2.2.1)
  | none => none
def mm_newa (mc ms pc : Nat) (ins : Instr) (ls : mL) (st : List Value) (h : List mE) (kc ks : Nat) : mO := match st with
  | .int n :: r => (match ins with
    | .newarray .int => some ([0 ≤ n, n.toNatClampNeg ≤ 100000, kc + 1 ≤ mc, ks + n.toNatClampNeg ≤ ms], pc + 2, ls, .ref h.length :: r, h ++ [.inl (.int, n.toNatClampNeg, .inl (fun _ => 0))], kc + 1, ks + n.toNatClampNeg)
    | .newarray .boolean => some ([0 ≤ n, n.toNatClampNeg ≤ 100000, kc + 1 ≤ mc, ks + n.toNatClampNeg ≤ ms], pc + 2, ls, .ref h.length :: r, h ++ [.inl (.boolean, n.toNatClampNeg, .inl (fun _ => 0))], kc + 1, ks + n.toNatClampNeg)
    | .newarray .long => some ([0 ≤ n, n.toNatClampNeg ≤ 100000, kc + 1 ≤ mc, ks + n.toNatClampNeg ≤ ms], pc + 2, ls, .ref h.length :: r, h ++ [.inl (.long, n.toNatClampNeg, .inr (.inl (fun _ => 0)))], kc + 1, ks + n.toNatClampNeg)
    | _ => none)
  | _ => none
def mm_math (mc ms k pc : Nat) (ls : mL) (st : List Value) (h : List mE) (kc ks : Nat) : mO := match st with
  | .int y :: .int x :: r => (match k with
    | 0 => some ([kc ≤ mc, ks ≤ ms], pc + 3, ls, .int (if x < y then y else x) :: r, h, kc, ks)
    | 1 => some ([kc ≤ mc, ks ≤ ms], pc + 3, ls, .int (if y < x then y else x) :: r, h, kc, ks)
    | _ => none)
  | _ => none
def mm_lcmp (pc : Nat) (ls : mL) (st : List Value) (h : List mE) (kc ks : Nat) : mO := match st with
  | .long y :: .long x :: r => some ([], pc + 1, ls, .int (lg_cmp x y) :: r, h, kc, ks)
  | _ => none
def mm_obj (pc : Nat) (ls : mL) (st : List Value) (h : List mE) (kc ks : Nat) : mO := match st with
  | .ref _ :: r => some ([], pc + 3, ls, r, h, kc, ks)
  | _ => none
/-- a switch -/
def mm_sw (pc : Nat) (ins : Instr) (ls : mL) (st : List Value) (h : List mE) (kc ks : Nat) : mO := match ins, st with
  | .tableswitch dflt lo hi offs, .int x :: r =>
    if x.toInt < lo ∨ hi < x.toInt then some ([(pc : Int) + dflt = (((pc : Int) + dflt).toNat : Int)], ((pc : Int) + dflt).toNat, ls, r, h, kc, ks)
    else (match offs[(x.toInt - lo).toNat]? with
      | some o => some ([(pc : Int) + o = (((pc : Int) + o).toNat : Int)], ((pc : Int) + o).toNat, ls, r, h, kc, ks)
      | none => none)
  | _, _ => none
/-- the plain instructions -/
def mm_op (sc : mS) (K : mK) (mc ms : Nat) (b : mB) (c : mC) : mO := match b, c with
  | (_, ins, _, _, kd, x, y, _, _), (pc, ls, st, h, kc, ks) => match kd with
    | 0 => mm_const pc ins x ls st h kc ks
    | 1 => mm_load pc ins ls st h kc ks
    | 2 => mm_store pc ins ls st h kc ks
    | 3 => mm_arith pc ins ls st h kc ks
    | 4 => mm_un pc ins ls st h kc ks
    | 5 => mm_stk pc ins ls st h kc ks
    | 6 => mm_getf pc x y ls st h kc ks
    | 7 => mm_putf K pc x y ls st h kc ks
    | 8 => mm_ald sc pc ins ls st h kc ks
    | 9 => mm_ast pc ins ls st h kc ks
    | 10 => mm_alen sc pc ls st h kc ks
    | 11 => mm_new K mc ms pc x ls st h kc ks
    | 12 => mm_newa mc ms pc ins ls st h kc ks
    | 13 => if ((st.map Value.category).sum).ble 12 then mm_math mc ms x pc ls st h kc ks else none
    | 14 => mm_lcmp pc ls st h kc ks
    | 15 => if ((st.map Value.category).sum).ble 8 then mm_obj pc ls st h kc ks else none
    | 16 => some ([], x, ls, st, h, kc, ks)
    | 17 => mm_sw pc ins ls st h kc ks
    | _ => none
def mm_cmp (q : ClassFile.Cond) (x y : Int32) : Prop := match q with
  | .eq => x = y
  | .ne => ¬ x = y
  | .lt => x < y
  | .ge => y ≤ x
  | .gt => y < x
  | .le => x ≤ y
/-- a branch -/
def mm_br (b : mB) (c : mC) : Option (Prop × mC × mC) := match b, c with
  | (_, ins, _, _, _, tgt, _, _, _), (pc, ls, st, h, kc, ks) => match ins, st with
    | .ifCond q _, .int x :: r => some (mm_cmp q x 0, (tgt, ls, r, h, kc, ks), (pc + 3, ls, r, h, kc, ks))
    | .if_icmp q _, .int y :: .int x :: r => some (mm_cmp q x y, (tgt, ls, r, h, kc, ks), (pc + 3, ls, r, h, kc, ks))
    | _, _ => none
/-- a call: the arguments (the first one first), the rest of the stack; an object of the class z stands first where the call asks for one -/
def mm_recv (kd z : Nat) (as : List Value) (h : List mE) : Bool := match kd with
  | 4 => true
  | 5 => true
  | 7 => true
  | _ => (match as with
    | .ref i :: _ => (match h[i]? with
      | some (.inr (cj, _)) => cj == z
      | _ => false)
    | _ => false)
def mm_cl (b : mB) (c : mC) : Option (List Value × List Value) := match b, c with
  | (_, _, _, _, kd, _, y, z, _), (_, _, st, h, _, _) =>
    if y ≤ st.length && ((st.take y).all mm_c1 && (mm_recv kd z (st.take y).reverse h && ((st.drop y).map Value.category).sum.ble 8)) then some ((st.take y).reverse, st.drop y) else none
def mm_en (n : Nat) (as : List Value) : mL := as.map some ++ List.replicate (n - as.length) none
def mm_ret (ins : Instr) (r : Option FieldType) (st : List Value) : Option (List Prop × Option Value) := match ins, r, st with
  | .ireturn, some .int, [.int v] => some ([], some (.int v))
  | .ireturn, some .boolean, [.int v] => some ([v = 0 ∨ v = 1], some (.int v))
  | .return_, none, [] => some ([], none)
  | _, _, _ => none
def mm_at (P : List mM) (M pc : Nat) : Option (mM × mB) := match P[M]? with
  | some q => (match q.2.2.1.find? (fun b => b.1 == pc) with
    | some b => some (q, b)
    | none => none)
  | none => none
/-- which handler takes the class E at pc -/
def mm_hd (pc E : Nat) : List (Nat × Nat × Nat × Nat) → List Nat → Option Nat
  | (s0, s1, hp, _) :: hs, k :: ksx => if s0 ≤ pc && (Nat.blt pc s1 && k == E) then some hp else mm_hd pc E hs ksx
  | _, _ => none
def mm_hs (b : mB) : Option (Nat × Nat) := match b with
  | (pc, .astore_n k, _) => some (pc + 1, k.val)
  | (pc, .astore i, _) => some (pc + 2, i)
  | _ => none
/-- what must hold at c in method M, with d calls to go, so that the method ends within n steps, and Q holds of its end -/
def mm_wp (sc : mS) (K : mK) (P : List mM) : Nat → Nat → Nat → mC → (mR → List mE → Prop) → Prop
  | 0, _, _, _, _ => False
  | n + 1, d, M, c, Q => match mm_at P M c.1 with
    | none => False
    | some (q, b) => match b.2.2.2.1 with
      | 0 => (match mm_op sc K q.1 q.2.1 b c with
        | some (ps, c') => mm_all ps ∧ mm_wp sc K P n d M c' Q
        | none => False)
      | 1 => (match mm_br b c with
        | some (p, c1, c2) => (p → mm_wp sc K P n d M c1 Q) ∧ (¬ p → mm_wp sc K P n d M c2 Q)
        | none => False)
      | 2 => (match d, mm_cl b c, P[b.2.2.2.2.2.1]? with
        | d' + 1, some (as, r), some q2 => (c.2.2.2.2.1 + q2.1 ≤ q.1 ∧ c.2.2.2.2.2 + q2.2.1 ≤ q.2.1 ∧ as.length ≤ q2.2.2.2.2.2.1) ∧
          mm_wp sc K P n d' b.2.2.2.2.2.1 (0, mm_en q2.2.2.2.2.2.1 as, [], c.2.2.2.1, 0, 0) (fun res h' => match res with
            | .inl v => mm_wp sc K P n d M (c.1 + 3, c.2.1, v.toList ++ r, h', c.2.2.2.2.1 + q2.1, c.2.2.2.2.2 + q2.2.1) Q
            | .inr E => b.2.2.2.2.1 = 6 ∧ (match mm_hd c.1 E q.2.2.2.2.2.2.2.1 q.2.2.2.2.2.2.2.2.1 with
              | some hp => (match (mm_at P M hp).bind (fun z => mm_hs z.2) with
                | some (pc', i) => mm_wp sc K P n d M (pc', c.2.1.set i none, [], h', c.2.2.2.2.1 + q2.1, c.2.2.2.2.2 + q2.2.1) Q
                | none => False)
              | none => q.2.2.2.2.2.2.2.1 = [] ∧ Q (.inr E) h'))
        | _, _, _ => False)
      | 3 => (match mm_ret b.2.1 q.2.2.2.2.2.2.1 c.2.2.1 with
        | some (ps, v) => (c.2.2.2.2.1 ≤ q.1 ∧ c.2.2.2.2.2 ≤ q.2.1) ∧ mm_all ps ∧ Q (.inl v) c.2.2.2.1
        | none => False)
      | 4 => (5 ≤ d ∧ c.2.2.2.2.1 + 1 ≤ q.1 ∧ c.2.2.2.2.2 + 6 ≤ q.2.1 ∧ q.2.2.2.2.2.2.2.1 = [] ∧ (c.2.2.1.map Value.category).sum ≤ 8) ∧ Q (.inr b.2.2.2.2.2.1) c.2.2.2.1
      | _ => False
end
section
/-! how a state of the small machine is told of a state of the machine; the plain instructions -/
def mm_v (b : Nat) (ws : va_W) (v w : Value) : Prop := match v with
  | .ref i => ∃ (q : Nat) (e : va_E), ws[i]? = some (q, e) ∧ w = .ref q
  | .float _ => w = .ref b
  | v => w = v
def mm_vs (b : Nat) (ws : va_W) : List Value → List Value → Prop
  | [], w => w = []
  | v :: r, w => ∃ (w0 : Value) (w1 : List Value), w = w0 :: w1 ∧ mm_v b ws v w0 ∧ mm_vs b ws r w1
def mm_l (b : Nat) (ws : va_W) (nL : Nat) (ls : mL) (la : Array Slot) : Prop :=
  ls.length = nL ∧ ∃ lv : List (Nat × Value), lv_has la nL lv ∧ ∀ (i : Nat) (v : Value), ls[i]? = some (some v) → mm_c1 v = true ∧ ∃ w, mm_v b ws v w ∧ (i, w) ∈ lv
def mm_c (b : Nat) (tys : List (ClassId × FieldType)) (ws : va_W) (x : mE) (e : va_E) : Prop := match x, e with
  | .inl (ty, a), .inl (cA, a2) => a2 = a ∧ (cA, ty) ∈ tys
  | .inr (ci, fs), .inr (cj, gs) => cj = ci ∧ mm_vs b ws fs gs
  | _, _ => False
/-- the same cells at the same places, perhaps more -/
def mm_ext (ws ws1 : va_W) : Prop := ∀ (i q : Nat) (e : va_E), ws[i]? = some (q, e) → ∃ e1, ws1[i]? = some (q, e1)
def mm_h (w0 : va_W) (b : Nat) (tys : List (ClassId × FieldType)) (h : List mE) (ws : va_W) : Prop :=
  ws.length = h.length ∧ mm_ext w0 ws ∧ ∀ (i : Nat) (x : mE), h[i]? = some x → ∃ (q : Nat) (e : va_E), ws[i]? = some (q, e) ∧ mm_c b tys ws x e
theorem mm_ext.rf {ws : va_W} : mm_ext ws ws := fun _ _ e h => ⟨e, h⟩
theorem mm_ext.tr {ws ws1 ws2 : va_W} (h : mm_ext ws ws1) (h1 : mm_ext ws1 ws2) : mm_ext ws ws2 := fun i q e he => by
  obtain ⟨e1, h2⟩ := h i q e he
  exact h1 i q e1 h2
theorem mm_ext.set {ws : va_W} {i q : Nat} {e e1 : va_E} (h : ws[i]? = some (q, e)) : mm_ext ws (ws.set i (q, e1)) := by
  intro j q2 e2 hj
  have hl := (List.getElem?_eq_some_iff.mp h).1
  by_cases hij : i = j
  · subst hij
    cases h.symm.trans hj
    exact ⟨e1, by rw [List.getElem?_set_self hl]⟩
  · exact ⟨e2, by rw [List.getElem?_set_ne hij]; exact hj⟩
theorem mm_ext.app {ws : va_W} {x : Nat × va_E} : mm_ext ws (ws ++ [x]) := by
  intro j q2 e2 hj
  have hl := (List.getElem?_eq_some_iff.mp hj).1
  exact ⟨e2, by rw [List.getElem?_append_left hl]; exact hj⟩
theorem mm_v.ext {b : Nat} {ws ws1 : va_W} {v w : Value} (x : mm_ext ws ws1) (h : mm_v b ws v w) : mm_v b ws1 v w := by
  cases v <;> first | exact h | (obtain ⟨q, e, h1, h2⟩ := h; obtain ⟨e1, h3⟩ := x _ q e h1; exact ⟨q, e1, h3, h2⟩)
theorem mm_vs.ext {b : Nat} {ws ws1 : va_W} (x : mm_ext ws ws1) : ∀ {v w : List Value}, mm_vs b ws v w → mm_vs b ws1 v w
  | [], _, h => h
  | _ :: _, _, h => by
    obtain ⟨w0, w1, rfl, h1, h2⟩ := h
    exact ⟨w0, w1, rfl, h1.ext x, mm_vs.ext x h2⟩
theorem mm_l.ext {b : Nat} {ws ws1 : va_W} {nL : Nat} {ls : mL} {la : Array Slot} (x : mm_ext ws ws1) (h : mm_l b ws nL ls la) : mm_l b ws1 nL ls la := by
  obtain ⟨h0, lv, h1, h2⟩ := h
  refine ⟨h0, lv, h1, fun i v hv => ?_⟩
  obtain ⟨h3, w, h4, h5⟩ := h2 i v hv
  exact ⟨h3, w, h4.ext x, h5⟩
theorem mm_c.ext {b : Nat} {tys : List (ClassId × FieldType)} {ws ws1 : va_W} {x : mE} {e : va_E} (hx : mm_ext ws ws1) (h : mm_c b tys ws x e) : mm_c b tys ws1 x e := by
  rcases x with ⟨ty, a⟩ | ⟨ci, fs⟩ <;> rcases e with ⟨cA, a2⟩ | ⟨cj, gs⟩ <;> first | exact h | exact ⟨h.1, h.2.ext hx⟩
theorem mm_h.re {w0 w1 : va_W} {b : Nat} {tys : List (ClassId × FieldType)} {h : List mE} {ws : va_W} (hh : mm_h w1 b tys h ws) (hx : mm_ext w0 ws) : mm_h w0 b tys h ws := ⟨hh.1, hx, hh.2.2⟩
theorem mm_h.set {w0 : va_W} {b : Nat} {tys : List (ClassId × FieldType)} {h : List mE} {ws : va_W} {i q : Nat} {e e1 : va_E} {x : mE} (hh : mm_h w0 b tys h ws) (he : ws[i]? = some (q, e)) (hc : mm_c b tys ws x e1) : mm_h w0 b tys (h.set i x) (ws.set i (q, e1)) := by
  obtain ⟨h0, hx0, h1⟩ := hh
  have hX : mm_ext ws (ws.set i (q, e1)) := mm_ext.set he
  have hl := (List.getElem?_eq_some_iff.mp he).1
  refine ⟨by simp [h0], hx0.tr hX, fun j y hj => ?_⟩
  by_cases hij : i = j
  · subst hij
    rw [List.getElem?_set_self (by omega)] at hj
    cases hj
    exact ⟨q, e1, by rw [List.getElem?_set_self hl], hc.ext hX⟩
  · rw [List.getElem?_set_ne hij] at hj
    obtain ⟨q2, e2, h2, h3⟩ := h1 j y hj
    exact ⟨q2, e2, by rw [List.getElem?_set_ne hij]; exact h2, h3.ext hX⟩
theorem mm_h.app {w0 : va_W} {b : Nat} {tys : List (ClassId × FieldType)} {h : List mE} {ws : va_W} {q : Nat} {e1 : va_E} {x : mE} (hh : mm_h w0 b tys h ws) (hc : mm_c b tys ws x e1) : mm_h w0 b tys (h ++ [x]) (ws ++ [(q, e1)]) := by
  obtain ⟨h0, hx0, h1⟩ := hh
  have hX : mm_ext ws (ws ++ [(q, e1)]) := mm_ext.app
  refine ⟨by simp [h0], hx0.tr hX, fun j y hj => ?_⟩
  by_cases hij : j < h.length
  · rw [List.getElem?_append_left hij] at hj
    obtain ⟨q2, e2, h2, h3⟩ := h1 j y hj
    exact ⟨q2, e2, by rw [List.getElem?_append_left (by omega)]; exact h2, h3.ext hX⟩
  · have hl := (List.getElem?_eq_some_iff.mp hj).1
    have hj2 : j = h.length := by simp at hl; omega
    subst hj2
    have hy : x = y := by simpa using hj
    subst hy
    exact ⟨q, e1, by rw [← h0]; simp, hc.ext hX⟩
theorem mm_ld_some {ls : mL} {i : Nat} {v : Value} (hv : mm_ld ls i = some v) : ls[i]? = some (some v) := by
  unfold mm_ld at hv
  split at hv
  · cases hv; assumption
  · cases hv
theorem mm_ld_ok {b : Nat} {ws : va_W} {nL : Nat} {ls : mL} {la : Array Slot} {i : Nat} {v : Value} (h : mm_l b ws nL ls la) (hv : mm_ld ls i = some v) : ∃ w, mm_v b ws v w ∧ la[i]? = some (.val w) := by
  obtain ⟨h0, lv, h1, h2⟩ := h
  have hv2 : ls[i]? = some (some v) := by
    unfold mm_ld at hv
    split at hv
    · cases hv; assumption
    · cases hv
  obtain ⟨h3, w, h4, h5⟩ := h2 i v hv2
  exact ⟨w, h4, h1.2.2 (i, w) h5⟩
theorem mm_cat {b : Nat} {ws : va_W} {v w : Value} (h : mm_v b ws v w) (hc : mm_c1 v = true) : w.category = 1 := by
  cases v <;> first | (cases hc; done) | (obtain ⟨q, e, h1, rfl⟩ := h; rfl) | (cases h; rfl)
/-- a value stored: what the other places hold stays -/
theorem mm_l.put {b : Nat} {ws : va_W} {nL : Nat} {ls : mL} {la2 : Array Slot} {i : Nat} {v w : Value} {lv : List (Nat × Value)} (h0 : ls.length = nL) (h2 : ∀ (i : Nat) (v : Value), ls[i]? = some (some v) → mm_c1 v = true ∧ ∃ w, mm_v b ws v w ∧ (i, w) ∈ lv)
    (hs : lv_has la2 nL ((i, w) :: lv.filter (fun q => !(q.1 == i) && !(q.1 + 1 == i && q.2.category == 2)))) (hw : mm_v b ws v w) (hc : mm_c1 v = true) : mm_l b ws nL (ls.set i (some v)) la2 := by
  refine ⟨by simp [h0], _, hs, fun j v2 hj => ?_⟩
  by_cases hij : i = j
  · subst hij
    have hl := (List.getElem?_eq_some_iff.mp hj).1
    rw [List.length_set] at hl
    rw [List.getElem?_set_self hl] at hj
    cases hj
    exact ⟨hc, w, hw, List.mem_cons_self⟩
  · rw [List.getElem?_set_ne hij] at hj
    obtain ⟨h3, w2, h4, h5⟩ := h2 j v2 hj
    refine ⟨h3, w2, h4, List.mem_cons_of_mem _ (List.mem_filter.mpr ⟨h5, ?_⟩)⟩
    have hk : w2.category = 1 := mm_cat h4 h3
    simp [hk, Ne.symm hij]
theorem mm_l.drop {b : Nat} {ws : va_W} {nL : Nat} {ls : mL} {la2 : Array Slot} {i : Nat} {w : Value} {lv : List (Nat × Value)} (h0 : ls.length = nL) (h2 : ∀ (i : Nat) (v : Value), ls[i]? = some (some v) → mm_c1 v = true ∧ ∃ w, mm_v b ws v w ∧ (i, w) ∈ lv)
    (hs : lv_has la2 nL ((i, w) :: lv.filter (fun q => !(q.1 == i) && !(q.1 + 1 == i && q.2.category == 2)))) : mm_l b ws nL (ls.set i none) la2 := by
  refine ⟨by simp [h0], _, hs, fun j v2 hj => ?_⟩
  by_cases hij : i = j
  · subst hij
    have hl := (List.getElem?_eq_some_iff.mp hj).1
    rw [List.length_set] at hl
    rw [List.getElem?_set_self hl] at hj
    cases hj
  · rw [List.getElem?_set_ne hij] at hj
    obtain ⟨h3, w2, h4, h5⟩ := h2 j v2 hj
    refine ⟨h3, w2, h4, List.mem_cons_of_mem _ (List.mem_filter.mpr ⟨h5, ?_⟩)⟩
    have hk : w2.category = 1 := mm_cat h4 h3
    simp [hk, Ne.symm hij]
theorem mm_vs_get {b : Nat} {ws : va_W} : ∀ {fs gs : List Value} {k : Nat} {v : Value}, mm_vs b ws fs gs → fs[k]? = some v → ∃ w, gs[k]? = some w ∧ mm_v b ws v w
  | [], _, k, v, _, h => by simp at h
  | f :: fs, gs, 0, v, hg, h => by
    obtain ⟨w0, w1, rfl, h1, h2⟩ := hg
    have : f = v := by simpa using h
    subst this
    exact ⟨w0, rfl, h1⟩
  | f :: fs, gs, k + 1, v, hg, h => by
    obtain ⟨w0, w1, rfl, h1, h2⟩ := hg
    have h3 : fs[k]? = some v := by simpa using h
    obtain ⟨w, h4, h5⟩ := mm_vs_get h2 h3
    exact ⟨w, by simpa using h4, h5⟩
theorem mm_vs_len {b : Nat} {ws : va_W} : ∀ {fs gs : List Value}, mm_vs b ws fs gs → gs.length = fs.length
  | [], _, h => by cases h; rfl
  | _ :: _, _, h => by
    obtain ⟨w0, w1, rfl, h1, h2⟩ := h
    simp [mm_vs_len h2]
theorem mm_vs_set {b : Nat} {ws : va_W} {v w : Value} (hv : mm_v b ws v w) : ∀ {fs gs : List Value} {k : Nat}, mm_vs b ws fs gs → mm_vs b ws (fs.set k v) (gs.set k w)
  | [], _, _, h => by cases h; rfl
  | _ :: _, _, 0, h => by
    obtain ⟨w0, w1, rfl, h1, h2⟩ := h
    exact ⟨w, w1, rfl, hv, h2⟩
  | _ :: _, _, k + 1, h => by
    obtain ⟨w0, w1, rfl, h1, h2⟩ := h
    exact ⟨w0, w1.set k w, rfl, h1, mm_vs_set hv h2⟩
theorem mm_fit_ok {b : Nat} {ws : va_W} {ty : FieldType} {v w : Value} (hv : mm_v b ws v w) (h : mm_fit ty v) : narrow ty w = w ∧ fits ty w = true := by
  cases ty <;> cases v <;> first
    | exact h.elim
    | (cases hv; exact ⟨rfl, rfl⟩)
    | (cases hv; rcases h with rfl | rfl <;> exact ⟨by decide, by decide⟩)
    | (obtain ⟨q, e, h1, rfl⟩ := hv; exact ⟨rfl, rfl⟩)
theorem mm_in_ok {i : Int32} {n : Nat} (h : mm_in i n) : vp_in i n := by
  intro h2
  rcases h2 with h2 | h2
  · exact Int32.lt_irrefl (Int32.lt_of_lt_of_le h2 h.1)
  · exact absurd h.2 (Nat.not_lt.mpr h2)
theorem mm_sum {b : Nat} {ws : va_W} : ∀ {v w : List Value}, mm_vs b ws v w → (w.map Value.category).sum = (v.map Value.category).sum
  | [], _, h => by cases h; rfl
  | v :: r, _, h => by
    obtain ⟨w0, w1, rfl, h1, h2⟩ := h
    have h3 := mm_sum h2
    have h4 : w0.category = v.category := by
      cases v <;> first | (obtain ⟨q, e, h5, rfl⟩ := h1; rfl) | (cases h1; rfl)
    simp only [List.map_cons, List.sum_cons, h3, h4]
theorem mm_size {b : Nat} {ws : va_W} {nL : Nat} {ls : mL} {la : Array Slot} (h : mm_l b ws nL ls la) : la.size = nL := by
  obtain ⟨-, lv, h1, -⟩ := h
  exact h1.1
section MMG
variable (p : Program) (l : Launch) (e : Env) (R : Room) (s : State) (m : MethodId) (args : Array Value) (below : List Frame) (meth : Method) (c : Code) (D : va_G) (cl : List vw_C) (tys : List (ClassId × FieldType)) (A : Nat → Prop) (w0 : va_W) (b : Nat) (Q : State → Prop)
/-- the machine, at any state that x tells of, comes to Q -/
def mm_G (x : mC) : Prop := ∀ (H : Heap) (locs : List Loc) (ws : va_W) (la : Array Slot) (sv : List Value), mm_h w0 b tys x.2.2.2.1 ws → va_P D cl ws H → va_D A ws → va_S A s.heap H locs → mm_l b ws c.maxLocals x.2.1 la → mm_vs b ws x.2.2.1 sv →
  W p l e R s m args below meth c H locs x.2.2.2.2.1 x.2.2.2.2.2 Q (F0 m x.1 la sv)
end MMG
section MMR
variable {p : Program} {l : Launch} {e : Env} {R : Room} {s : State} {m : MethodId} {args : Array Value} {below : List Frame} {meth : Method} {c : Code} {D : va_G} {cl : List vw_C} {tys : List (ClassId × FieldType)} {A : Nat → Prop} {w0 : va_W} {b : Nat} {Q : State → Prop}
variable {cc : ByteArray} {pc len : Nat} {ins : Instr} {ls : mL} {st : List Value} {h : List mE} {kc ks : Nat} {ps : List Prop} {y : mC}
theorem mm_const_ok (hx : p.tables.exec = Jvm.exec) (hb : c.code = cc) (hd : decode cc pc = .ok (ins, mm_len ins)) {own : String} {a : Nat} (hown : s.vm.findClass own = some m.cls) (hk : ∀ i, ins = .ldc i → (Cond.constant own i (Int32.ofNat a)).before args s = true) (ho : mm_const pc ins a ls st h kc ks = some (ps, y)) (g : mm_G p l e R s m args below meth c D cl tys A w0 b Q y) : mm_G p l e R s m args below meth c D cl tys A w0 b Q (pc, ls, st, h, kc, ks) := by
  intro H locs ws la sv h1 h2 h3 h4 h5 h6
  unfold mm_const at ho
  split at ho
  · cases ho; exact lv_iconst hx hb hd rfl (g H locs ws la _ h1 h2 h3 h4 h5 ⟨_, _, rfl, rfl, h6⟩)
  · cases ho; exact lv_bipush hx hb hd rfl (g H locs ws la _ h1 h2 h3 h4 h5 ⟨_, _, rfl, rfl, h6⟩)
  · cases ho; exact lv_sipush hx hb hd rfl (g H locs ws la _ h1 h2 h3 h4 h5 ⟨_, _, rfl, rfl, h6⟩)
  · cases ho; exact lv_ldc hx hb hown (hk _ rfl) hd (g H locs ws la _ h1 h2 h3 h4 h5 ⟨_, _, rfl, rfl, h6⟩)
  · cases ho; exact lv_lconst hx hb hd rfl (g H locs ws la _ h1 h2 h3 h4 h5 ⟨_, _, rfl, rfl, h6⟩)
  · cases ho
theorem mm_load_ok (hx : p.tables.exec = Jvm.exec) (hb : c.code = cc) (hd : decode cc pc = .ok (ins, mm_len ins)) (ho : mm_load pc ins ls st h kc ks = some (ps, y)) (g : mm_G p l e R s m args below meth c D cl tys A w0 b Q y) : mm_G p l e R s m args below meth c D cl tys A w0 b Q (pc, ls, st, h, kc, ks) := by
  intro H locs ws la sv h1 h2 h3 h4 h5 h6
  unfold mm_load at ho
  split at ho
  · unfold mm_iload at ho
    split at ho
    · rename_i x hl
      cases ho
      obtain ⟨w, hw, hl2⟩ := mm_ld_ok h5 hl
      cases hw
      exact lv_iload_n hx hb hd rfl hl2 (g H locs ws la _ h1 h2 h3 h4 h5 ⟨_, _, rfl, rfl, h6⟩)
    · cases ho
  · unfold mm_iload at ho
    split at ho
    · rename_i x hl
      cases ho
      obtain ⟨w, hw, hl2⟩ := mm_ld_ok h5 hl
      cases hw
      exact lv_iload hx hb hd hl2 (g H locs ws la _ h1 h2 h3 h4 h5 ⟨_, _, rfl, rfl, h6⟩)
    · cases ho
  · unfold mm_aload at ho
    split at ho
    · rename_i x hl
      cases ho
      obtain ⟨w, hw, hl2⟩ := mm_ld_ok h5 hl
      obtain ⟨q, e2, hq, rfl⟩ := id hw
      exact lv_aload_n hx hb hd rfl hl2 (g H locs ws la _ h1 h2 h3 h4 h5 ⟨_, _, rfl, hw, h6⟩)
    · rename_i x hl
      cases ho
      obtain ⟨w, hw, hl2⟩ := mm_ld_ok h5 hl
      cases hw
      exact lv_aload_n hx hb hd rfl hl2 (g H locs ws la _ h1 h2 h3 h4 h5 ⟨_, _, rfl, rfl, h6⟩)
    · cases ho
  · unfold mm_aload at ho
    split at ho
    · rename_i x hl
      cases ho
      obtain ⟨w, hw, hl2⟩ := mm_ld_ok h5 hl
      obtain ⟨q, e2, hq, rfl⟩ := id hw
      exact lv_aload hx hb hd hl2 (g H locs ws la _ h1 h2 h3 h4 h5 ⟨_, _, rfl, hw, h6⟩)
    · rename_i x hl
      cases ho
      obtain ⟨w, hw, hl2⟩ := mm_ld_ok h5 hl
      cases hw
      exact lv_aload hx hb hd hl2 (g H locs ws la _ h1 h2 h3 h4 h5 ⟨_, _, rfl, rfl, h6⟩)
    · cases ho
  · cases ho
theorem mm_store_ok (hx : p.tables.exec = Jvm.exec) (hb : c.code = cc) (hd : decode cc pc = .ok (ins, mm_len ins)) (ho : mm_store pc ins ls st h kc ks = some (ps, y)) (g : mm_G p l e R s m args below meth c D cl tys A w0 b Q y) : mm_G p l e R s m args below meth c D cl tys A w0 b Q (pc, ls, st, h, kc, ks) := by
  intro H locs ws la sv h1 h2 h3 h4 h5 h6
  unfold mm_store at ho
  split at ho
  · unfold mm_istore at ho
    split at ho
    · unfold mm_st at ho
      split at ho
      · rename_i hi
        cases ho
        obtain ⟨w0, w1, rfl, hw, h6⟩ := h6
        cases hw
        obtain ⟨h50, lv, h51, h52⟩ := h5
        have h50 : ls.length = c.maxLocals := h50
        exact lv_istore_n hx hb hd rfl h51 (by omega) rfl (fun la2 hl2 => g H locs ws la2 _ h1 h2 h3 h4 (mm_l.put h50 h52 hl2 rfl rfl) h6)
      · cases ho
    · cases ho
  · unfold mm_istore at ho
    split at ho
    · unfold mm_st at ho
      split at ho
      · rename_i hi
        cases ho
        obtain ⟨w0, w1, rfl, hw, h6⟩ := h6
        cases hw
        obtain ⟨h50, lv, h51, h52⟩ := h5
        have h50 : ls.length = c.maxLocals := h50
        exact lv_istore hx hb hd h51 (by omega) rfl (fun la2 hl2 => g H locs ws la2 _ h1 h2 h3 h4 (mm_l.put h50 h52 hl2 rfl rfl) h6)
      · cases ho
    · cases ho
  · unfold mm_astore at ho
    split at ho
    · unfold mm_st at ho
      split at ho
      · rename_i hi
        cases ho
        obtain ⟨w0, w1, rfl, hw, h6⟩ := h6
        obtain ⟨q, e2, hq, rfl⟩ := id hw
        obtain ⟨h50, lv, h51, h52⟩ := h5
        have h50 : ls.length = c.maxLocals := h50
        exact lv_astore_n hx hb hd rfl h51 (by omega) rfl (fun la2 hl2 => g H locs ws la2 _ h1 h2 h3 h4 (mm_l.put h50 h52 hl2 hw rfl) h6)
      · cases ho
    · cases ho
  · unfold mm_astore at ho
    split at ho
    · unfold mm_st at ho
      split at ho
      · rename_i hi
        cases ho
        obtain ⟨w0, w1, rfl, hw, h6⟩ := h6
        obtain ⟨q, e2, hq, rfl⟩ := id hw
        obtain ⟨h50, lv, h51, h52⟩ := h5
        have h50 : ls.length = c.maxLocals := h50
        exact lv_astore hx hb hd h51 (by omega) rfl (fun la2 hl2 => g H locs ws la2 _ h1 h2 h3 h4 (mm_l.put h50 h52 hl2 hw rfl) h6)
      · cases ho
    · cases ho
  · unfold mm_iinc at ho
    split at ho
    · rename_i x hl
      unfold mm_st at ho
      split at ho
      · rename_i hi
        cases ho
        obtain ⟨h50, lv, h51, h52⟩ := h5
        have h50 : ls.length = c.maxLocals := h50
        have hl3 := mm_ld_some hl
        obtain ⟨-, w, hw, hm⟩ := h52 _ _ hl3
        cases hw
        obtain ⟨k9, hk9⟩ := List.getElem?_of_mem hm
        exact lv_iinc hx hb hd h51 hk9 rfl (by omega) rfl (fun la2 hl2 => g H locs ws la2 _ h1 h2 h3 h4 (mm_l.put h50 h52 hl2 rfl rfl) h6)
      · cases ho
    · cases ho
  · cases ho
theorem mm_arith_ok (hx : p.tables.exec = Jvm.exec) (hb : c.code = cc) (hd : decode cc pc = .ok (ins, mm_len ins)) (ho : mm_arith pc ins ls st h kc ks = some (ps, y)) (hp : mm_all ps) (g : mm_G p l e R s m args below meth c D cl tys A w0 b Q y) : mm_G p l e R s m args below meth c D cl tys A w0 b Q (pc, ls, st, h, kc, ks) := by
  intro H locs ws la sv h1 h2 h3 h4 h5 h6
  unfold mm_arith at ho
  split at ho
  · obtain ⟨w0, w1, rfl, hw, w2, w3, rfl, hw2, h6⟩ := h6
    cases hw
    cases hw2
    unfold mm_bin at ho
    split at ho
    · cases ho; exact lv_iadd hx hb hd (g H locs ws la _ h1 h2 h3 h4 h5 ⟨_, _, rfl, rfl, h6⟩)
    · cases ho; exact lv_isub hx hb hd (g H locs ws la _ h1 h2 h3 h4 h5 ⟨_, _, rfl, rfl, h6⟩)
    · cases ho; exact lv_imul hx hb hd (g H locs ws la _ h1 h2 h3 h4 h5 ⟨_, _, rfl, rfl, h6⟩)
    · cases ho; exact lv_iand hx hb hd (g H locs ws la _ h1 h2 h3 h4 h5 ⟨_, _, rfl, rfl, h6⟩)
    · cases ho; exact lv_idiv hx hb hd hp.1 (g H locs ws la _ h1 h2 h3 h4 h5 ⟨_, _, rfl, rfl, h6⟩)
    · cases ho; exact lv_irem hx hb hd hp.1 (g H locs ws la _ h1 h2 h3 h4 h5 ⟨_, _, rfl, rfl, h6⟩)
    · cases ho
  · cases ho
theorem mm_un_ok (hx : p.tables.exec = Jvm.exec) (hb : c.code = cc) (hd : decode cc pc = .ok (ins, mm_len ins)) (ho : mm_un pc ins ls st h kc ks = some (ps, y)) (g : mm_G p l e R s m args below meth c D cl tys A w0 b Q y) : mm_G p l e R s m args below meth c D cl tys A w0 b Q (pc, ls, st, h, kc, ks) := by
  intro H locs ws la sv h1 h2 h3 h4 h5 h6
  unfold mm_un at ho
  split at ho
  · obtain ⟨w0, w1, rfl, hw, h6⟩ := h6
    cases hw
    split at ho
    · cases ho; exact lv_ineg hx hb hd (g H locs ws la _ h1 h2 h3 h4 h5 ⟨_, _, rfl, rfl, h6⟩)
    · cases ho; exact lv_i2l hx hb hd rfl (g H locs ws la _ h1 h2 h3 h4 h5 ⟨_, _, rfl, rfl, h6⟩)
    · cases ho
  · cases ho
theorem mm_stk_ok (hx : p.tables.exec = Jvm.exec) (hb : c.code = cc) (hd : decode cc pc = .ok (ins, mm_len ins)) (ho : mm_stk pc ins ls st h kc ks = some (ps, y)) (g : mm_G p l e R s m args below meth c D cl tys A w0 b Q y) : mm_G p l e R s m args below meth c D cl tys A w0 b Q (pc, ls, st, h, kc, ks) := by
  intro H locs ws la sv h1 h2 h3 h4 h5 h6
  unfold mm_stk at ho
  split at ho
  · split at ho
    · rename_i h9
      cases ho
      obtain ⟨w0, w1, rfl, hw, h6⟩ := h6
      exact lv_dup hx hb hd (mm_cat hw h9) (g H locs ws la _ h1 h2 h3 h4 h5 ⟨_, _, rfl, hw, _, _, rfl, hw, h6⟩)
    · cases ho
  · split at ho
    · rename_i h9
      cases ho
      obtain ⟨w0, w1, rfl, hw, h6⟩ := h6
      exact lv_pop hx hb hd (mm_cat hw h9) (g H locs ws la _ h1 h2 h3 h4 h5 h6)
    · cases ho
  · split at ho
    · rename_i h9
      cases ho
      rw [Bool.and_eq_true] at h9
      obtain ⟨w0, w1, rfl, hw, w2, w3, rfl, hw2, h6⟩ := h6
      exact lv_dup2_11 hx hb hd (mm_cat hw h9.1) (mm_cat hw2 h9.2) (g H locs ws la _ h1 h2 h3 h4 h5 ⟨_, _, rfl, hw, _, _, rfl, hw2, _, _, rfl, hw, _, _, rfl, hw2, h6⟩)
    · cases ho
  · split at ho
    · rename_i h9
      cases ho
      rw [Bool.and_eq_true] at h9
      obtain ⟨w0, w1, rfl, hw, w2, w3, rfl, hw2, h6⟩ := h6
      exact lv_dup_x1 hx hb hd (mm_cat hw h9.1) (mm_cat hw2 h9.2) (g H locs ws la _ h1 h2 h3 h4 h5 ⟨_, _, rfl, hw, _, _, rfl, hw2, _, _, rfl, hw, h6⟩)
    · cases ho
  · cases ho
theorem mm_goto_ok (hx : p.tables.exec = Jvm.exec) (hb : c.code = cc) (hd : decode cc pc = .ok (ins, mm_len ins)) {off : Int} {x : Nat} (hi : ins = .goto off) (ht : (pc : Int) + off = (x : Int)) (g : mm_G p l e R s m args below meth c D cl tys A w0 b Q (x, ls, st, h, kc, ks)) : mm_G p l e R s m args below meth c D cl tys A w0 b Q (pc, ls, st, h, kc, ks) := by
  intro H locs ws la sv h1 h2 h3 h4 h5 h6
  subst hi
  exact lv_goto hx hb hd ht (g H locs ws la _ h1 h2 h3 h4 h5 h6)
theorem mm_lcmp_ok (hx : p.tables.exec = Jvm.exec) (hb : c.code = cc) (hd : decode cc pc = .ok (ins, mm_len ins)) (hi : ins = .lcmp) (ho : mm_lcmp pc ls st h kc ks = some (ps, y)) (g : mm_G p l e R s m args below meth c D cl tys A w0 b Q y) : mm_G p l e R s m args below meth c D cl tys A w0 b Q (pc, ls, st, h, kc, ks) := by
  intro H locs ws la sv h1 h2 h3 h4 h5 h6
  subst hi
  unfold mm_lcmp at ho
  split at ho
  · cases ho
    obtain ⟨w0, w1, rfl, hw, w2, w3, rfl, hw2, h6⟩ := h6
    cases hw
    cases hw2
    exact W.lcmp hx hb hd (g H locs ws la _ h1 h2 h3 h4 h5 ⟨_, _, rfl, rfl, h6⟩)
  · cases ho
theorem mm_obj_ok (hx : p.tables.exec = Jvm.exec) (hb : c.code = cc) (hd : decode cc pc = .ok (ins, mm_len ins)) {own : String} {i : Nat} (hown : s.vm.findClass own = some m.cls) (hi : ins = .invokespecial i) (hk1 : (Cond.methodLink own i Lib.objectInit).before args s = true) (hk2 : (Cond.instanceMethod Lib.objectInit).before args s = true) (hk3 : (Cond.code Lib.objectInit ⟨#[0xb1]⟩ 1 none).before args s = true) (hR : 1 ≤ R.frames ∧ 64 ≤ R.locals) (hst : (st.map Value.category).sum ≤ 8)
    (ho : mm_obj pc ls st h kc ks = some (ps, y)) (g : mm_G p l e R s m args below meth c D cl tys A w0 b Q y) : mm_G p l e R s m args below meth c D cl tys A w0 b Q (pc, ls, st, h, kc, ks) := by
  intro H locs ws la sv h1 h2 h3 h4 h5 h6
  subst hi
  unfold mm_obj at ho
  split at ho
  · cases ho
    have hz := mm_sum h6
    obtain ⟨w0, w1, rfl, hw, h6⟩ := h6
    obtain ⟨q, e2, hq, rfl⟩ := id hw
    refine W.objInit hx hb hown hk1 hk2 hk3 (g := F0 m pc la (.ref q :: w1)) rfl (mm_size h5) rfl hd hR.1 ?_ (g H locs ws la _ h1 h2 h3 h4 h5 h6)
    have h9 : (F0 m pc la (.ref q :: w1)).monitorRoom = 0 := rfl
    simp only [List.map_cons, List.sum_cons] at hz hst
    have hz2 : (w1.map fun v => v.category).sum = (w1.map Value.category).sum := rfl
    have hz3 : (Value.ref q).category = 1 := rfl
    omega
  · cases ho
theorem mm_math_ok (hx : p.tables.exec = Jvm.exec) (hb : c.code = cc) (hd : decode cc pc = .ok (ins, mm_len ins)) {own : String} {i k : Nat} (hown : s.vm.findClass own = some m.cls) (hi : ins = .invokestatic i)
    (hk0 : k = 0 → (Cond.methodLink own i Lib.Math.max.name).before args s = true ∧ (Cond.static Lib.Math.max.name).before args s = true ∧ (Cond.initialized "java/lang/Math").before args s = true ∧ (Cond.code Lib.Math.max.name Lib.Math.max.code 2 (some .int)).before args s = true)
    (hk1 : k = 1 → (Cond.methodLink own i Lib.Math.min.name).before args s = true ∧ (Cond.static Lib.Math.min.name).before args s = true ∧ (Cond.initialized "java/lang/Math").before args s = true ∧ (Cond.code Lib.Math.min.name Lib.Math.min.code 2 (some .int)).before args s = true)
    (hR : 1 ≤ R.frames ∧ 64 ≤ R.locals) (hst : (st.map Value.category).sum ≤ 12) {mc ms : Nat} (hcc : mc ≤ R.cells ∧ ms ≤ R.slots)
    (ho : mm_math mc ms k pc ls st h kc ks = some (ps, y)) (hp : mm_all ps) (g : mm_G p l e R s m args below meth c D cl tys A w0 b Q y) : mm_G p l e R s m args below meth c D cl tys A w0 b Q (pc, ls, st, h, kc, ks) := by
  intro H locs ws la sv h1 h2 h3 h4 h5 h6
  subst hi
  unfold mm_math at ho
  split at ho
  · have hz := mm_sum h6
    obtain ⟨w0, w1, rfl, hw, w2, w3, rfl, hw2, h6⟩ := h6
    cases hw
    cases hw2
    simp only [List.map_cons, List.sum_cons] at hz hst
    have hz2 : (w3.map fun v => v.category).sum = (w3.map Value.category).sum := rfl
    split at ho
    · cases ho
      obtain ⟨q1, q2, q3, q4⟩ := hk0 rfl
      exact va_mmax hx hb (mm_size h5).symm hown q1 q2 q3 q4 hR.1 (by omega) (Nat.le_trans hp.1 hcc.1) (Nat.le_trans hp.2.1 hcc.2) hd (g H locs ws la _ h1 h2 h3 h4 h5 ⟨_, _, rfl, rfl, h6⟩)
    · cases ho
      obtain ⟨q1, q2, q3, q4⟩ := hk1 rfl
      exact va_mmin hx hb (mm_size h5).symm hown q1 q2 q3 q4 hR.1 (by omega) (Nat.le_trans hp.1 hcc.1) (Nat.le_trans hp.2.1 hcc.2) hd (g H locs ws la _ h1 h2 h3 h4 h5 ⟨_, _, rfl, rfl, h6⟩)
    · cases ho
  · cases ho
theorem mm_sw_ok (hx : p.tables.exec = Jvm.exec) (hb : c.code = cc) (hd : decode cc pc = .ok (ins, len)) (ho : mm_sw pc ins ls st h kc ks = some (ps, y)) (hp : mm_all ps) (g : mm_G p l e R s m args below meth c D cl tys A w0 b Q y) : mm_G p l e R s m args below meth c D cl tys A w0 b Q (pc, ls, st, h, kc, ks) := by
  intro H locs ws la sv h1 h2 h3 h4 h5 h6
  unfold mm_sw at ho
  split at ho
  · obtain ⟨w0, w1, rfl, hw, h6⟩ := h6
    cases hw
    split at ho
    · rename_i h9
      cases ho
      exact lv_tableOut hx hb hd h9 hp.1 (g H locs ws la _ h1 h2 h3 h4 h5 h6)
    · rename_i h9
      split at ho
      · rename_i o ho2
        cases ho
        exact lv_tableIn hx hb hd (fun z => h9 (Or.inl z)) (fun z => h9 (Or.inr z)) ho2 hp.1 (g H locs ws la _ h1 h2 h3 h4 h5 h6)
      · cases ho
  · cases ho
theorem mm_if_ok (hx : p.tables.exec = Jvm.exec) (hb : c.code = cc) (hd : decode cc pc = .ok (ins, mm_len ins)) {q : ClassFile.Cond} {off : Int} {x : Int32} {r : List Value} {tgt : Nat} (hi : ins = .ifCond q off) (hs : st = .int x :: r) (ht : (pc : Int) + off = (tgt : Int)) (g1 : mm_cmp q x 0 → mm_G p l e R s m args below meth c D cl tys A w0 b Q (tgt, ls, r, h, kc, ks)) (g2 : ¬ mm_cmp q x 0 → mm_G p l e R s m args below meth c D cl tys A w0 b Q (pc + 3, ls, r, h, kc, ks)) : mm_G p l e R s m args below meth c D cl tys A w0 b Q (pc, ls, st, h, kc, ks) := by
  intro H locs ws la sv h1 h2 h3 h4 h5 h6
  subst hi
  subst hs
  obtain ⟨w0, w1, rfl, hw, h6⟩ := h6
  cases hw
  cases q
  · exact lv_if_eq hx hb hd ht (fun z => g1 z H locs ws la _ h1 h2 h3 h4 h5 h6) (fun z => g2 z H locs ws la _ h1 h2 h3 h4 h5 h6)
  · exact lv_if_ne hx hb hd ht (fun z => g1 z H locs ws la _ h1 h2 h3 h4 h5 h6) (fun z => g2 (fun z2 => z2 z) H locs ws la _ h1 h2 h3 h4 h5 h6)
  · exact lv_if_lt hx hb hd ht (fun z => g1 z H locs ws la _ h1 h2 h3 h4 h5 h6) (fun z => g2 z H locs ws la _ h1 h2 h3 h4 h5 h6)
  · exact lv_if_ge hx hb hd ht (fun z => g1 z H locs ws la _ h1 h2 h3 h4 h5 h6) (fun z => g2 z H locs ws la _ h1 h2 h3 h4 h5 h6)
  · exact lv_if_gt hx hb hd ht (fun z => g1 z H locs ws la _ h1 h2 h3 h4 h5 h6) (fun z => g2 z H locs ws la _ h1 h2 h3 h4 h5 h6)
  · exact lv_if_le hx hb hd ht (fun z => g1 z H locs ws la _ h1 h2 h3 h4 h5 h6) (fun z => g2 z H locs ws la _ h1 h2 h3 h4 h5 h6)
theorem mm_icmp_ok (hx : p.tables.exec = Jvm.exec) (hb : c.code = cc) (hd : decode cc pc = .ok (ins, mm_len ins)) {q : ClassFile.Cond} {off : Int} {x x2 : Int32} {r : List Value} {tgt : Nat} (hi : ins = .if_icmp q off) (hs : st = .int x2 :: .int x :: r) (ht : (pc : Int) + off = (tgt : Int)) (g1 : mm_cmp q x x2 → mm_G p l e R s m args below meth c D cl tys A w0 b Q (tgt, ls, r, h, kc, ks)) (g2 : ¬ mm_cmp q x x2 → mm_G p l e R s m args below meth c D cl tys A w0 b Q (pc + 3, ls, r, h, kc, ks)) : mm_G p l e R s m args below meth c D cl tys A w0 b Q (pc, ls, st, h, kc, ks) := by
  intro H locs ws la sv h1 h2 h3 h4 h5 h6
  subst hi
  subst hs
  obtain ⟨w0, w1, rfl, hw, w2, w3, rfl, hw2, h6⟩ := h6
  cases hw
  cases hw2
  cases q
  · exact lv_icmp_eq hx hb hd ht (fun z => g1 z H locs ws la _ h1 h2 h3 h4 h5 h6) (fun z => g2 z H locs ws la _ h1 h2 h3 h4 h5 h6)
  · exact lv_icmp_ne hx hb hd ht (fun z => g1 z H locs ws la _ h1 h2 h3 h4 h5 h6) (fun z => g2 (fun z2 => z2 z) H locs ws la _ h1 h2 h3 h4 h5 h6)
  · exact lv_icmp_lt hx hb hd ht (fun z => g1 z H locs ws la _ h1 h2 h3 h4 h5 h6) (fun z => g2 z H locs ws la _ h1 h2 h3 h4 h5 h6)
  · exact lv_icmp_ge hx hb hd ht (fun z => g1 z H locs ws la _ h1 h2 h3 h4 h5 h6) (fun z => g2 z H locs ws la _ h1 h2 h3 h4 h5 h6)
  · exact lv_icmp_gt hx hb hd ht (fun z => g1 z H locs ws la _ h1 h2 h3 h4 h5 h6) (fun z => g2 z H locs ws la _ h1 h2 h3 h4 h5 h6)
  · exact lv_icmp_le hx hb hd ht (fun z => g1 z H locs ws la _ h1 h2 h3 h4 h5 h6) (fun z => g2 z H locs ws la _ h1 h2 h3 h4 h5 h6)
end MMR
end
section
/-! the small machine's cells: fields, arrays, what is made -/
theorem mm_c_arr {b : Nat} {tys : List (ClassId × FieldType)} {ws : va_W} {ty : FieldType} {cA : ClassId} {a : vp_A} (h : (cA, ty) ∈ tys) : mm_c b tys ws (.inl (ty, a)) (.inl (cA, a)) := ⟨rfl, h⟩
theorem mm_c_obj {b : Nat} {tys : List (ClassId × FieldType)} {ws : va_W} {ci : Nat} {fs gs : List Value} (h : mm_vs b ws fs gs) : mm_c b tys ws (.inr (ci, fs)) (.inr (ci, gs)) := ⟨rfl, h⟩
theorem mm_v_new {w0 : va_W} {b : Nat} {tys : List (ClassId × FieldType)} {h : List mE} {ws : va_W} {q : Nat} {e1 : va_E} (hh : mm_h w0 b tys h ws) : mm_v b (ws ++ [(q, e1)]) (.ref h.length) (.ref q) := ⟨q, e1, by rw [← hh.1]; simp, rfl⟩
theorem mm_cell {w0 : va_W} {b : Nat} {tys : List (ClassId × FieldType)} {h : List mE} {ws : va_W} {i q ci : Nat} {e : va_E} {fs : List Value} (hh : mm_h w0 b tys h ws) (hi : h[i]? = some (.inr (ci, fs))) (hq : ws[i]? = some (q, e)) : ∃ gs, e = .inr (ci, gs) ∧ mm_vs b ws fs gs := by
  obtain ⟨q3, e3, hq3, hc3⟩ := hh.2.2 i _ hi
  cases hq.symm.trans hq3
  rcases e with e | ⟨cj, gs⟩
  · exact hc3.elim
  · obtain ⟨rfl, hgs⟩ := hc3
    exact ⟨gs, rfl, hgs⟩
theorem mm_arr {w0 : va_W} {b : Nat} {tys : List (ClassId × FieldType)} {h : List mE} {ws : va_W} {i q : Nat} {e : va_E} {ty : FieldType} {a : vp_A} (hh : mm_h w0 b tys h ws) (hi : h[i]? = some (.inl (ty, a))) (hq : ws[i]? = some (q, e)) : ∃ (cA : ClassId) (t0 : Nat), e = .inl (cA, a) ∧ tys[t0]? = some (cA, ty) := by
  obtain ⟨q3, e3, hq3, hc3⟩ := hh.2.2 i _ hi
  cases hq.symm.trans hq3
  rcases e with ⟨cA, a2⟩ | e
  · obtain ⟨rfl, hm⟩ := hc3
    obtain ⟨t0, ht0⟩ := List.getElem?_of_mem hm
    exact ⟨cA, t0, rfl, ht0⟩
  · exact hc3.elim
theorem mm_defs {b : Nat} {ws : va_W} : ∀ {tl : List FieldType}, (∀ ty ∈ tl, ty ≠ .float) → mm_vs b ws (tl.map defaultValue) (tl.map defaultValue)
  | [], _ => rfl
  | t :: tl, h => by
    refine ⟨_, _, rfl, ?_, mm_defs (fun ty hy => h ty (List.mem_cons_of_mem _ hy))⟩
    have h1 := h t List.mem_cons_self
    cases t <;> first | rfl | exact absurd rfl h1
theorem mm_defV {tl : List FieldType} {j : Nat} (h : j < tl.length) : defaultValue (tl.getD j .int) = vp_V (tl.map defaultValue) j := by
  unfold vp_V
  rw [List.getD_eq_getElem?_getD, List.getD_eq_getElem?_getD, List.getElem?_map, List.getElem?_eq_getElem h]
  rfl
section MMH
variable {p : Program} {l : Launch} {e : Env} {R : Room} {s : State} {m : MethodId} {args : Array Value} {below : List Frame} {meth : Method} {c : Code} {D : va_G} {cl : List vw_C} {tys : List (ClassId × FieldType)} {A : Nat → Prop} {w0 : va_W} {b : Nat} {Q : State → Prop}
variable {cc : ByteArray} {pc len : Nat} {ins : Instr} {ls : mL} {st : List Value} {h : List mE} {kc ks : Nat} {ps : List Prop} {y : mC}
variable {own C : String} {T : u_T} {N ci k idx : Nat} {Ts : List Cond} {K : mK} {tl : List FieldType} {sc : mS}
theorem mm_getf_ok (hx : p.tables.exec = Jvm.exec) (hb : c.code = cc) (hd : decode cc pc = .ok (ins, mm_len ins)) (hts : ∀ w ∈ Ts, w.before args s = true) (hin : ∀ w ∈ u_ws C T N, w ∈ Ts) (hown : s.vm.findClass own = some m.cls) (hK : va_K D cl tys s) (hc : cl[ci]? = some (C, T, N)) (hk : k < N) (hlink : (Cond.fieldLink own idx (T k).1 (T k).2.1 (T k).2.2.1).before args s = true ∨ ∃ host, (Cond.fieldLinkNest own idx (T k).1 (T k).2.1 (T k).2.2.1 host).before args s = true) (hi : ins = .getfield idx) (ho : mm_getf pc ci k ls st h kc ks = some (ps, y)) (g : mm_G p l e R s m args below meth c D cl tys A w0 b Q y) : mm_G p l e R s m args below meth c D cl tys A w0 b Q (pc, ls, st, h, kc, ks) := by
  intro H locs ws la sv h1 h2 h3 h4 h5 h6
  subst hi
  unfold mm_getf at ho
  split at ho
  · split at ho
    · rename_i hh
      split at ho
      · rename_i hcj hf
        cases ho
        have hcj2 := eq_of_beq hcj
        subst hcj2
        obtain ⟨w0, w1, rfl, hw, h6⟩ := h6
        obtain ⟨q, e2, hq, rfl⟩ := hw
        obtain ⟨gs, rfl, hgs⟩ := mm_cell h1 hh hq
        obtain ⟨w, hw1, hw2⟩ := mm_vs_get hgs hf
        rcases hlink with hlink | ⟨host, hlink⟩
        · exact va_get hx hb hts hin hown hK h2 _ hq hc k hk hlink (fun _ z => z) hw1 hd (g H locs ws la _ h1 h2 h3 h4 h5 ⟨_, _, rfl, hw2, h6⟩)
        · exact va_getN hx hb hts hin hown hK h2 _ hq hc k hk hlink (fun _ z => z) hw1 hd (g H locs ws la _ h1 h2 h3 h4 h5 ⟨_, _, rfl, hw2, h6⟩)
      · cases ho
    · cases ho
  · cases ho
theorem mm_putf_ok (hx : p.tables.exec = Jvm.exec) (hb : c.code = cc) (hd : decode cc pc = .ok (ins, mm_len ins)) (hts : ∀ w ∈ Ts, w.before args s = true) (hin : ∀ w ∈ u_ws C T N, w ∈ Ts) (hown : s.vm.findClass own = some m.cls) (hK : va_K D cl tys s) (hc : cl[ci]? = some (C, T, N)) (hk : k < N) (hlink : (Cond.fieldLink own idx (T k).1 (T k).2.1 (T k).2.2.1).before args s = true ∨ ∃ host, (Cond.fieldLinkNest own idx (T k).1 (T k).2.1 (T k).2.2.1 host).before args s = true) (hKc : K[ci]? = some (C, T, N, tl)) (hty : ∀ k, k < N → parseFieldDescriptor (T k).2.2.1 = some (tl.getD k .int)) (hnm : ∀ a, a < N → ∀ b, b < N → a ≠ b → (T a).2.1 ≠ (T b).2.1)
    (hfin : (T k).2.2.2 = false ∨ ((T k).2.2.2 = true ∧ meth.name = "<init>" ∧ (T k).1 = own ∧ (Cond.fieldLink own idx (T k).1 (T k).2.1 (T k).2.2.1).before args s = true)) (hi : ins = .putfield idx) (ho : mm_putf K pc ci k ls st h kc ks = some (ps, y)) (hp : mm_all ps) (g : mm_G p l e R s m args below meth c D cl tys A w0 b Q y) : mm_G p l e R s m args below meth c D cl tys A w0 b Q (pc, ls, st, h, kc, ks) := by
  intro H locs ws la sv h1 h2 h3 h4 h5 h6
  subst hi
  unfold mm_putf at ho
  split at ho
  · split at ho
    · rename_i hh
      split at ho
      · rename_i hcj hKq
        split at ho
        · rename_i ty hf
          cases ho
          have hcj2 := eq_of_beq hcj
          subst hcj2
          cases hKc.symm.trans hKq
          obtain ⟨wv, w8, rfl, hwv, w0, w1, rfl, hw, h6⟩ := h6
          obtain ⟨q, e2, hq, rfl⟩ := hw
          obtain ⟨gs, rfl, hgs⟩ := mm_cell h1 hh hq
          obtain ⟨hp1, hp2, -⟩ := hp
          obtain ⟨hn, hfit⟩ := mm_fit_ok hwv hp1
          have hd9 : parseFieldDescriptor (T k).2.2.1 = some ty := by
            rw [hty k hk, List.getD_eq_getElem?_getD]
            have hf2 : tl[k]? = some ty := hf
            rw [hf2]
            rfl
          have hl9 : k < gs.length := by rw [mm_vs_len hgs]; exact hp2
          rcases hfin with hfin | ⟨hfin, hini, hdecl, hlink⟩
          · rcases hlink with hlink | ⟨host, hlink⟩
            · exact va_put hx hb hts hin (fun j => tl.getD j .int) hty hnm hown hK h2 h3 h4 _ hq hc k hk hlink (fun _ z => z) hfin hd9 hn hfit hl9 hd (fun H1 locs1 hP1 hD1 hS1 => g H1 locs1 _ la _ (mm_h.set h1 hq (mm_c_obj (mm_vs_set hwv hgs))) hP1 hD1 hS1 (h5.ext (mm_ext.set hq)) (h6.ext (mm_ext.set hq)))
            · exact va_putN hx hb hts hin (fun j => tl.getD j .int) hty hnm hown hK h2 h3 h4 _ hq hc k hk hlink (fun _ z => z) hfin hd9 hn hfit hl9 hd (fun H1 locs1 hP1 hD1 hS1 => g H1 locs1 _ la _ (mm_h.set h1 hq (mm_c_obj (mm_vs_set hwv hgs))) hP1 hD1 hS1 (h5.ext (mm_ext.set hq)) (h6.ext (mm_ext.set hq)))
          · exact va_putF hx hb hts hin (fun j => tl.getD j .int) hty hnm hown hK h2 h3 h4 _ hq hc k hk hlink (fun _ z => z) hfin hini hdecl hd9 hn hfit hl9 hd (fun H1 locs1 hP1 hD1 hS1 => g H1 locs1 _ la _ (mm_h.set h1 hq (mm_c_obj (mm_vs_set hwv hgs))) hP1 hD1 hS1 (h5.ext (mm_ext.set hq)) (h6.ext (mm_ext.set hq)))
        · cases ho
      · cases ho
    · cases ho
  · cases ho
theorem mm_ald_ok (hx : p.tables.exec = Jvm.exec) (hb : c.code = cc) (hd : decode cc pc = .ok (ins, mm_len ins)) (hK : va_K D cl tys s) (hX : va_X b sc.1 sc.2 s s.heap) (hbl : b < s.heap.size) (hbA : ¬ A b) (ho : mm_ald sc pc ins ls st h kc ks = some (ps, y)) (hp : mm_all ps) (g : mm_G p l e R s m args below meth c D cl tys A w0 b Q y) : mm_G p l e R s m args below meth c D cl tys A w0 b Q (pc, ls, st, h, kc, ks) := by
  intro H locs ws la sv h1 h2 h3 h4 h5 h6
  unfold mm_ald at ho
  split at ho
  · split at ho
    · rename_i hh
      cases ho
      obtain ⟨w0, w1, rfl, hw, w2, w3, rfl, hw2, h6⟩ := h6
      cases hw
      obtain ⟨q, e2, hq, rfl⟩ := hw2
      obtain ⟨cA, t0, rfl, ht0⟩ := mm_arr h1 hh hq
      exact va_iald hx hb hK h2 _ t0 hq ht0 (mm_in_ok hp.1) hd (g H locs ws la _ h1 h2 h3 h4 h5 ⟨_, _, rfl, rfl, h6⟩)
    · rename_i hh
      cases ho
      obtain ⟨w0, w1, rfl, hw, w2, w3, rfl, hw2, h6⟩ := h6
      cases hw
      obtain ⟨q, e2, hq, rfl⟩ := hw2
      obtain ⟨cA, t0, rfl, ht0⟩ := mm_arr h1 hh hq
      exact va_zald hx hb hK h2 _ t0 hq ht0 (mm_in_ok hp.1) hd (g H locs ws la _ h1 h2 h3 h4 h5 ⟨_, _, rfl, rfl, h6⟩)
    · rename_i hh
      cases ho
      obtain ⟨w0, w1, rfl, hw, w2, w3, rfl, hw2, h6⟩ := h6
      cases hw
      obtain ⟨q, e2, hq, rfl⟩ := hw2
      obtain ⟨cA, t0, rfl, ht0⟩ := mm_arr h1 hh hq
      exact va_lald hx hb hK h2 _ t0 hq ht0 (mm_in_ok hp.1) hd (g H locs ws la _ h1 h2 h3 h4 h5 ⟨_, _, rfl, rfl, h6⟩)
    · cases ho
  · split at ho
    · cases ho
      obtain ⟨w0, w1, rfl, hw, w2, w3, rfl, hw2, h6⟩ := h6
      cases hw
      cases hw2
      exact va_sld hx hb hX hbl hbA h4 (mm_in_ok hp.1) hd (g H locs ws la _ h1 h2 h3 h4 h5 ⟨_, _, rfl, rfl, h6⟩)
    · cases ho
  · cases ho
theorem mm_ast_ok (hx : p.tables.exec = Jvm.exec) (hb : c.code = cc) (hd : decode cc pc = .ok (ins, mm_len ins)) (hK : va_K D cl tys s) (ho : mm_ast pc ins ls st h kc ks = some (ps, y)) (hp : mm_all ps) (g : mm_G p l e R s m args below meth c D cl tys A w0 b Q y) : mm_G p l e R s m args below meth c D cl tys A w0 b Q (pc, ls, st, h, kc, ks) := by
  intro H locs ws la sv h1 h2 h3 h4 h5 h6
  unfold mm_ast at ho
  split at ho
  · split at ho
    · rename_i hh
      cases ho
      obtain ⟨w0, w1, rfl, hw, w2, w3, rfl, hw2, w4, w5, rfl, hw3, h6⟩ := h6
      cases hw
      cases hw2
      obtain ⟨q, e2, hq, rfl⟩ := hw3
      obtain ⟨cA, t0, rfl, ht0⟩ := mm_arr h1 hh hq
      exact va_iast hx hb hK h2 h3 h4 _ t0 hq ht0 (mm_in_ok hp.1) hd (fun H1 locs1 hP1 hD1 hS1 => g H1 locs1 _ la _ (mm_h.set h1 hq (mm_c_arr (List.mem_of_getElem? ht0))) hP1 hD1 hS1 (h5.ext (mm_ext.set hq)) (h6.ext (mm_ext.set hq)))
    · rename_i hh
      cases ho
      obtain ⟨w0, w1, rfl, hw, w2, w3, rfl, hw2, w4, w5, rfl, hw3, h6⟩ := h6
      cases hw
      cases hw2
      obtain ⟨q, e2, hq, rfl⟩ := hw3
      obtain ⟨cA, t0, rfl, ht0⟩ := mm_arr h1 hh hq
      exact va_zast hx hb hK h2 h3 h4 _ t0 hq ht0 (mm_in_ok hp.1) hd (fun H1 locs1 hP1 hD1 hS1 => g H1 locs1 _ la _ (mm_h.set h1 hq (mm_c_arr (List.mem_of_getElem? ht0))) hP1 hD1 hS1 (h5.ext (mm_ext.set hq)) (h6.ext (mm_ext.set hq)))
    · cases ho
  · split at ho
    · rename_i hh
      cases ho
      obtain ⟨w0, w1, rfl, hw, w2, w3, rfl, hw2, w4, w5, rfl, hw3, h6⟩ := h6
      cases hw
      cases hw2
      obtain ⟨q, e2, hq, rfl⟩ := hw3
      obtain ⟨cA, t0, rfl, ht0⟩ := mm_arr h1 hh hq
      exact va_last hx hb hK h2 h3 h4 _ t0 hq ht0 (mm_in_ok hp.1) hd (fun H1 locs1 hP1 hD1 hS1 => g H1 locs1 _ la _ (mm_h.set h1 hq (mm_c_arr (List.mem_of_getElem? ht0))) hP1 hD1 hS1 (h5.ext (mm_ext.set hq)) (h6.ext (mm_ext.set hq)))
    · cases ho
  · cases ho
theorem mm_alen_ok (hx : p.tables.exec = Jvm.exec) (hb : c.code = cc) (hd : decode cc pc = .ok (ins, mm_len ins)) (hi : ins = .arraylength) (hK : va_K D cl tys s) (hX : va_X b sc.1 sc.2 s s.heap) (hbl : b < s.heap.size) (hbA : ¬ A b) (ho : mm_alen sc pc ls st h kc ks = some (ps, y)) (g : mm_G p l e R s m args below meth c D cl tys A w0 b Q y) : mm_G p l e R s m args below meth c D cl tys A w0 b Q (pc, ls, st, h, kc, ks) := by
  intro H locs ws la sv h1 h2 h3 h4 h5 h6
  subst hi
  unfold mm_alen at ho
  split at ho
  · split at ho
    · rename_i hh
      cases ho
      obtain ⟨w0, w1, rfl, hw, h6⟩ := h6
      obtain ⟨q, e2, hq, rfl⟩ := hw
      obtain ⟨cA, t0, rfl, ht0⟩ := mm_arr h1 hh hq
      exact va_alen hx hb hK h2 _ t0 hq ht0 rfl hd (g H locs ws la _ h1 h2 h3 h4 h5 ⟨_, _, rfl, rfl, h6⟩)
    · cases ho
  · cases ho
    obtain ⟨w0, w1, rfl, hw, h6⟩ := h6
    cases hw
    exact va_slen hx hb hX hbl hbA h4 hd (g H locs ws la _ h1 h2 h3 h4 h5 ⟨_, _, rfl, rfl, h6⟩)
  · cases ho
theorem mm_new_ok (hx : p.tables.exec = Jvm.exec) (hb : c.code = cc) (hd : decode cc pc = .ok (ins, mm_len ins)) {mc ms : Nat} (hts : ∀ w ∈ Ts, w.before args s = true) (hin : ∀ w ∈ u_ws C T N, w ∈ Ts) (hown : s.vm.findClass own = some m.cls) (hK : va_K D cl tys s) (hc : cl[ci]? = some (C, T, N)) (hA : ∀ q, s.heap.size ≤ q → A q)
    (hKc : K[ci]? = some (C, T, N, tl)) (hty : ∀ k, k < N → parseFieldDescriptor (T k).2.2.1 = some (tl.getD k .int)) (htl : tl.length = N) (hfl : ∀ ty ∈ tl, ty ≠ .float)
    (hcl : (Cond.classLink own idx C).before args s = true) (hinst : (Cond.instantiable C N).before args s = true) (hini : (Cond.initialized C).before args s = true) (hR : mc ≤ R.cells ∧ ms ≤ R.slots) (hi : ins = .new idx) (ho : mm_new K mc ms pc ci ls st h kc ks = some (ps, y)) (hp : mm_all ps) (g : mm_G p l e R s m args below meth c D cl tys A w0 b Q y) : mm_G p l e R s m args below meth c D cl tys A w0 b Q (pc, ls, st, h, kc, ks) := by
  intro H locs ws la sv h1 h2 h3 h4 h5 h6
  subst hi
  unfold mm_new at ho
  split at ho
  · rename_i hKq
    cases hKc.symm.trans hKq
    cases ho
    obtain ⟨hp1, hp2, -⟩ := hp
    have hp2 : ks + N ≤ ms := hp2
    refine va_new hx hb hts hin (fun j => tl.getD j .int) hty hown hcl hinst hini hK h2 h3 h4 hA hc (fs := tl.map defaultValue) (fun j hj => mm_defV (by omega)) (Nat.le_trans hp1 hR.1) (Nat.le_trans hp2 hR.2) hd (fun q H1 hP1 hD1 hS1 => ?_)
    exact g H1 locs _ la _ (mm_h.app h1 (mm_c_obj (mm_defs hfl))) hP1 hD1 hS1 (h5.ext mm_ext.app) ⟨_, _, rfl, mm_v_new h1, h6.ext mm_ext.app⟩
  · cases ho
theorem mm_nneg {n : Int32} (h : 0 ≤ n) : ¬ n < 0 := fun h2 => Int32.lt_irrefl (Int32.lt_of_lt_of_le h2 h)
theorem mm_newa_ok (hx : p.tables.exec = Jvm.exec) (hb : c.code = cc) (hd : decode cc pc = .ok (ins, mm_len ins)) {mc ms : Nat} (hK : va_K D cl tys s) (hA : ∀ q, s.heap.size ≤ q → A q) (hty : ∀ ty ∈ ([.int, .boolean, .long] : List FieldType), ∃ cA, (cA, ty) ∈ tys) (harr : ∀ ty ∈ ([.int, .boolean, .long] : List FieldType), (Cond.arrayClass ty).before args s = true) (hR : mc ≤ R.cells ∧ ms ≤ R.slots) (ho : mm_newa mc ms pc ins ls st h kc ks = some (ps, y)) (hp : mm_all ps) (g : mm_G p l e R s m args below meth c D cl tys A w0 b Q y) : mm_G p l e R s m args below meth c D cl tys A w0 b Q (pc, ls, st, h, kc, ks) := by
  intro H locs ws la sv h1 h2 h3 h4 h5 h6
  unfold mm_newa at ho
  split at ho
  · split at ho
    · cases ho
      obtain ⟨w0, w1, rfl, hw, h6⟩ := h6
      cases hw
      obtain ⟨hp1, hp2, hp3, hp4, -⟩ := hp
      obtain ⟨cA0, hm0⟩ := hty .int (by simp)
      obtain ⟨t0, ht0⟩ := List.getElem?_of_mem hm0
      refine va_newa hx hb (atype := .int) (harr .int (by simp)) (ty := .int) rfl hK h2 h3 h4 hA (a0 := (_, .inl (fun _ => 0))) (fun _ => rfl) (mm_nneg hp1) rfl (Nat.le_trans (Nat.mul_le_mul_right (componentBytes .int) hp2) (by decide)) (Nat.le_trans hp3 hR.1) (Nat.le_trans hp4 hR.2) hd (fun q cA H1 hK1 hP1 hD1 hS1 => ?_)
      have e1 := (hK.2 t0 _ ht0).2
      have e2 := (hK1.2 tys.length (cA, .int) (by simp)).2
      have e3 : cA0 = cA := Option.some.inj (Eq.trans (Eq.symm e1) e2)
      subst e3
      exact g H1 locs _ la _ (mm_h.app h1 (mm_c_arr hm0)) hP1 hD1 hS1 (h5.ext mm_ext.app) ⟨_, _, rfl, mm_v_new h1, h6.ext mm_ext.app⟩
    · cases ho
      obtain ⟨w0, w1, rfl, hw, h6⟩ := h6
      cases hw
      obtain ⟨hp1, hp2, hp3, hp4, -⟩ := hp
      obtain ⟨cA0, hm0⟩ := hty .boolean (by simp)
      obtain ⟨t0, ht0⟩ := List.getElem?_of_mem hm0
      refine va_newa hx hb (atype := .boolean) (harr .boolean (by simp)) (ty := .boolean) rfl hK h2 h3 h4 hA (a0 := (_, .inl (fun _ => 0))) (fun _ => rfl) (mm_nneg hp1) rfl (Nat.le_trans (Nat.mul_le_mul_right (componentBytes .boolean) hp2) (by decide)) (Nat.le_trans hp3 hR.1) (Nat.le_trans hp4 hR.2) hd (fun q cA H1 hK1 hP1 hD1 hS1 => ?_)
      have e1 := (hK.2 t0 _ ht0).2
      have e2 := (hK1.2 tys.length (cA, .boolean) (by simp)).2
      have e3 : cA0 = cA := Option.some.inj (Eq.trans (Eq.symm e1) e2)
      subst e3
      exact g H1 locs _ la _ (mm_h.app h1 (mm_c_arr hm0)) hP1 hD1 hS1 (h5.ext mm_ext.app) ⟨_, _, rfl, mm_v_new h1, h6.ext mm_ext.app⟩
    · cases ho
      obtain ⟨w0, w1, rfl, hw, h6⟩ := h6
      cases hw
      obtain ⟨hp1, hp2, hp3, hp4, -⟩ := hp
      obtain ⟨cA0, hm0⟩ := hty .long (by simp)
      obtain ⟨t0, ht0⟩ := List.getElem?_of_mem hm0
      refine va_newa hx hb (atype := .long) (harr .long (by simp)) (ty := .long) rfl hK h2 h3 h4 hA (a0 := (_, .inr (.inl (fun _ => 0)))) (fun _ => rfl) (mm_nneg hp1) rfl (Nat.le_trans (Nat.mul_le_mul_right (componentBytes .long) hp2) (by decide)) (Nat.le_trans hp3 hR.1) (Nat.le_trans hp4 hR.2) hd (fun q cA H1 hK1 hP1 hD1 hS1 => ?_)
      have e1 := (hK.2 t0 _ ht0).2
      have e2 := (hK1.2 tys.length (cA, .long) (by simp)).2
      have e3 : cA0 = cA := Option.some.inj (Eq.trans (Eq.symm e1) e2)
      subst e3
      exact g H1 locs _ la _ (mm_h.app h1 (mm_c_arr hm0)) hP1 hD1 hS1 (h5.ext mm_ext.app) ⟨_, _, rfl, mm_v_new h1, h6.ext mm_ext.app⟩
    · cases ho
  · cases ho
end MMH
end
section
/-! what the table of the code owes, decided by program; the plain instructions out of it -/
def mm_hw (Tb : List Cond) (hs : List Nat) (j : Nat) (w : Cond) : Bool := match hs[j]? with
  | some i => decide (Tb[i]? = some w) && goodWord w
  | none => false
theorem mm_hw_ok {Tb : List Cond} {hs : List Nat} {j : Nat} {w : Cond} (h : mm_hw Tb hs j w = true) : w ∈ Tb.filter goodWord := by
  unfold mm_hw at h
  split at h
  · rw [Bool.and_eq_true] at h
    exact List.mem_filter.mpr ⟨List.mem_of_getElem? (of_decide_eq_true h.1), h.2⟩
  · cases h
/-- a word of nest mates -/
def mm_isN (w : Cond) : Bool := match w with
  | .fieldLinkNest _ _ _ _ _ _ => true
  | .methodLinkNest _ _ _ _ => true
  | _ => false
theorem mm_isN_on {w : Cond} (h : mm_isN w = true) : w.onTables = true := by
  cases w <;> first | rfl | (cases h; done)
def mm_hn (Tb : List Cond) (hs : List Nat) (j : Nat) (w : Cond) : Bool := match hs[j]? with
  | some i => decide (Tb[i]? = some w) && mm_isN w
  | none => false
theorem mm_hn_ok {Tb : List Cond} {hs : List Nat} {j : Nat} {w : Cond} (h : mm_hn Tb hs j w = true) : w ∈ Tb.filter mm_isN := by
  unfold mm_hn at h
  split at h
  · rw [Bool.and_eq_true] at h
    exact List.mem_filter.mpr ⟨List.mem_of_getElem? (of_decide_eq_true h.1), h.2⟩
  · cases h
def mm_ckF (Ts : List Cond) (K : mK) (y : MethodName) (host : String) (ins : Instr) (x k z : Nat) (hs : List Nat) : Bool := match ins, K[x]? with
  | .getfield i, some (_, T, N, _) => decide (k < N) && (match z with
    | 0 => mm_hw Ts hs 0 (.fieldLink y.cls i (T k).1 (T k).2.1 (T k).2.2.1)
    | _ => mm_hn Ts hs 0 (.fieldLinkNest y.cls i (T k).1 (T k).2.1 (T k).2.2.1 host))
  | .putfield i, some (_, T, N, _) => decide (k < N) && (match z with
    | 0 => mm_hw Ts hs 0 (.fieldLink y.cls i (T k).1 (T k).2.1 (T k).2.2.1) && (T k).2.2.2 == false
    | 1 => mm_hn Ts hs 0 (.fieldLinkNest y.cls i (T k).1 (T k).2.1 (T k).2.2.1 host) && (T k).2.2.2 == false
    | _ => mm_hw Ts hs 0 (.fieldLink y.cls i (T k).1 (T k).2.1 (T k).2.2.1) && ((T k).2.2.2 == true && (y.name == "<init>" && (T k).1 == y.cls)))
  | _, _ => false
def mm_ckP (Ts : List Cond) (K : mK) (y : MethodName) (host : String) (pc : Nat) (ins : Instr) (kd x k z : Nat) (hs : List Nat) : Bool := match kd with
  | 0 => (match ins with
    | .ldc i => mm_hw Ts hs 0 (.constant y.cls i (Int32.ofNat x))
    | _ => true)
  | 6 => mm_ckF Ts K y host ins x k z hs && (match ins with
    | .getfield _ => true
    | _ => false)
  | 7 => mm_ckF Ts K y host ins x k z hs && (match ins with
    | .putfield _ => true
    | _ => false)
  | 10 => decide (ins = .arraylength)
  | 11 => (match ins, K[x]? with
    | .new i, some (C, _, N, _) => mm_hw Ts hs 0 (.classLink y.cls i C) && (mm_hw Ts hs 1 (.instantiable C N) && mm_hw Ts hs 2 (.initialized C))
    | _, _ => false)
  | 13 => (match ins, x with
    | .invokestatic i, 0 => mm_hw Ts hs 0 (.methodLink y.cls i Lib.Math.max.name) && (mm_hw Ts hs 1 (.static Lib.Math.max.name) && (mm_hw Ts hs 2 (.initialized "java/lang/Math") && mm_hw Ts hs 3 (.code Lib.Math.max.name Lib.Math.max.code 2 (some .int))))
    | .invokestatic i, 1 => mm_hw Ts hs 0 (.methodLink y.cls i Lib.Math.min.name) && (mm_hw Ts hs 1 (.static Lib.Math.min.name) && (mm_hw Ts hs 2 (.initialized "java/lang/Math") && mm_hw Ts hs 3 (.code Lib.Math.min.name Lib.Math.min.code 2 (some .int))))
    | _, _ => false)
  | 14 => decide (ins = .lcmp)
  | 15 => (match ins with
    | .invokespecial i => mm_hw Ts hs 0 (.methodLink y.cls i Lib.objectInit) && (mm_hw Ts hs 1 (.instanceMethod Lib.objectInit) && mm_hw Ts hs 2 (.code Lib.objectInit ⟨#[0xb1]⟩ 1 none))
    | _ => false)
  | 16 => (match ins with
    | .goto off => decide ((pc : Int) + off = (x : Int))
    | _ => false)
  | _ => true
/-- what the table of the classes owes -/
def mm_ckK (Ts : List Cond) (r : String × u_T × Nat × List FieldType) : Bool :=
  (u_ws r.1 r.2.1 r.2.2.1).all (fun w => decide (w ∈ Ts)) && ((List.range r.2.2.1).all (fun k => decide (parseFieldDescriptor (r.2.1 k).2.2.1 = some (r.2.2.2.getD k .int))) &&
    ((r.2.2.2.length == r.2.2.1) && ((List.range r.2.2.1).all (fun a => (List.range r.2.2.1).all (fun b => decide (a = b ∨ (r.2.1 a).2.1 ≠ (r.2.1 b).2.1))) && r.2.2.2.all (fun ty => decide (ty ≠ .float)))))
def mm_cls (K : mK) : List vw_C := K.map (fun r => (r.1, r.2.1, r.2.2.1))
theorem mm_ckK_ok {Ts : List Cond} {K : mK} {ci N : Nat} {C : String} {T : u_T} {tl : List FieldType} (h : K.all (mm_ckK Ts) = true) (hc : K[ci]? = some (C, T, N, tl)) :
    (mm_cls K)[ci]? = some (C, T, N) ∧ (∀ w ∈ u_ws C T N, w ∈ Ts) ∧ (∀ k, k < N → parseFieldDescriptor (T k).2.2.1 = some (tl.getD k .int)) ∧ tl.length = N ∧ (∀ a, a < N → ∀ b, b < N → a ≠ b → (T a).2.1 ≠ (T b).2.1) ∧ ∀ ty ∈ tl, ty ≠ .float := by
  have h1 := List.all_eq_true.mp h _ (List.mem_of_getElem? hc)
  simp only [mm_ckK, Bool.and_eq_true, List.all_eq_true, decide_eq_true_eq, beq_iff_eq, List.mem_range] at h1
  obtain ⟨a1, a2, a3, a4, a5⟩ := h1
  refine ⟨by simp [mm_cls, hc], a1, a2, a3, fun a ha b hb hab => ?_, a5⟩
  rcases a4 a ha b hb with h | h
  · exact absurd h hab
  · exact h
section MMX
variable (D : va_G) (K : mK) (tys : List (ClassId × FieldType)) (b base : Nat) (sc : mS) (Ts Ns : List Cond) (Z : State → Prop)
/-- what every state of a run has: the classes, the script, the words of nest mates -/
def mm_En (U : State) : Prop := va_K D (mm_cls K) tys U ∧ va_X b sc.1 sc.2 U U.heap ∧ (∀ w ∈ Ns, va_Nw w U) ∧ base ≤ U.heap.size ∧ b < base ∧ (∀ ty ∈ ([.int, .boolean, .long] : List FieldType), ∃ cA, (cA, ty) ∈ tys) ∧ Z U
/-- a method of the table, begun at s -/
def mm_X (p : Program) (s : State) (m : MethodId) (args : Array Value) (meth : Method) (c : Code) (q : mM) : Prop :=
  p.tables.exec = Jvm.exec ∧ c.code = q.2.2.2.2.1 ∧ c.maxLocals = q.2.2.2.2.2.1 ∧ s.vm.findClass q.2.2.2.1.cls = some m.cls ∧ meth.locks = false ∧ meth.sig.returnType = q.2.2.2.2.2.2.1 ∧ meth.name = q.2.2.2.1.name ∧
  c.exceptionTable.toList.map (fun h => (h.startPc, h.endPc, h.handlerPc, h.catchType)) = q.2.2.2.2.2.2.2.1 ∧ (∀ w ∈ Ts, w.before args s = true) ∧ mm_En D K tys b base sc Ns Z s
end MMX
section MMP
variable {p : Program} {l : Launch} {e : Env} {R : Room} {s : State} {m : MethodId} {args : Array Value} {below : List Frame} {meth : Method} {c : Code} {D : va_G} {K : mK} {tys : List (ClassId × FieldType)} {b base : Nat} {w0 : va_W} {Q : State → Prop} {sc : mS} {Tb : List Cond} {q : mM}
set_option maxHeartbeats 4000000 in
theorem mm_op_ok {Z : State → Prop} (X : mm_X D K tys b base sc (Tb.filter goodWord) (Tb.filter mm_isN) Z p s m args meth c q) (hKK : K.all (mm_ckK (Tb.filter goodWord)) = true) (harr : ∀ ty ∈ ([.int, .boolean, .long] : List FieldType), Cond.arrayClass ty ∈ Tb.filter goodWord) (hR : q.1 ≤ R.cells ∧ q.2.1 ≤ R.slots ∧ 1 ≤ R.frames ∧ 64 ≤ R.locals)
    {pc len grp kd x k z : Nat} {ins : Instr} {hs : List Nat} {ls : mL} {st : List Value} {h : List mE} {kc ks : Nat} {ps : List Prop} {y : mC}
    (hd : decode q.2.2.2.2.1 pc = .ok (ins, len)) (hlen : kd = 17 ∨ len = mm_len ins) (hck : mm_ckP Tb K q.2.2.2.1 q.2.2.2.2.2.2.2.2.2 pc ins kd x k z hs = true)
    (ho : mm_op sc K q.1 q.2.1 (pc, ins, len, grp, kd, x, k, z, hs) (pc, ls, st, h, kc, ks) = some (ps, y)) (hp : mm_all ps)
    (g : mm_G p l e R s m args below meth c D (mm_cls K) tys (fun a => base ≤ a) w0 b Q y) : mm_G p l e R s m args below meth c D (mm_cls K) tys (fun a => base ≤ a) w0 b Q (pc, ls, st, h, kc, ks) := by
  obtain ⟨hx, hb, hml, hown, hlocks, hret, hname, hext, hts, hK, hX, hN, hbase, hbb, htys, hZ⟩ := X
  have hA : ∀ a, s.heap.size ≤ a → base ≤ a := fun a ha => Nat.le_trans hbase ha
  have hbA : ¬ base ≤ b := Nat.not_le.mpr hbb
  have hbl : b < s.heap.size := Nat.lt_of_lt_of_le hbb hbase
  have hNw : ∀ w ∈ Tb.filter mm_isN, w.before args s = true := fun w hw => va_Nw.use (mm_isN_on (List.mem_filter.mp hw).2) (hN w hw)
  by_cases h17 : kd = 17
  · subst h17
    exact mm_sw_ok hx hb hd ho hp g
  have hd : decode q.2.2.2.2.1 pc = .ok (ins, mm_len ins) := by
    rcases hlen with hlen | hlen
    · exact absurd hlen h17
    · rw [← hlen]; exact hd
  unfold mm_op at ho
  dsimp only at ho
  split at ho
  · refine mm_const_ok hx hb hd hown (a := x) (fun i hi => ?_) ho g
    subst hi
    exact hts _ (mm_hw_ok hck)
  · exact mm_load_ok hx hb hd ho g
  · exact mm_store_ok hx hb hd ho g
  · exact mm_arith_ok hx hb hd ho hp g
  · exact mm_un_ok hx hb hd ho g
  · exact mm_stk_ok hx hb hd ho g
  · simp only [mm_ckP, Bool.and_eq_true] at hck
    obtain ⟨hck, hck2⟩ := hck
    unfold mm_ckF at hck
    split at hck
    · have hKc := ‹K[x]? = some _›
      rw [Bool.and_eq_true, decide_eq_true_eq] at hck
      obtain ⟨c1, c2, c3, c4, c5, c6⟩ := mm_ckK_ok hKK hKc
      refine mm_getf_ok hx hb hd hts c2 hown hK c1 hck.1 ?_ rfl ho g
      have hck3 := hck.2
      split at hck3
      · exact Or.inl (hts _ (mm_hw_ok hck3))
      · exact Or.inr ⟨_, hNw _ (mm_hn_ok hck3)⟩
    · cases hck2
    · cases hck
  · simp only [mm_ckP, Bool.and_eq_true] at hck
    obtain ⟨hck, hck2⟩ := hck
    unfold mm_ckF at hck
    split at hck
    · cases hck2
    · have hKc := ‹K[x]? = some _›
      rw [Bool.and_eq_true, decide_eq_true_eq] at hck
      obtain ⟨c1, c2, c3, c4, c5, c6⟩ := mm_ckK_ok hKK hKc
      have hck3 := hck.2
      split at hck3
      · rw [Bool.and_eq_true] at hck3
        exact mm_putf_ok hx hb hd hts c2 hown hK c1 hck.1 (Or.inl (hts _ (mm_hw_ok hck3.1))) hKc c3 c5 (Or.inl (eq_of_beq hck3.2)) rfl ho hp g
      · rw [Bool.and_eq_true] at hck3
        exact mm_putf_ok hx hb hd hts c2 hown hK c1 hck.1 (Or.inr ⟨_, hNw _ (mm_hn_ok hck3.1)⟩) hKc c3 c5 (Or.inl (eq_of_beq hck3.2)) rfl ho hp g
      · simp only [Bool.and_eq_true] at hck3
        obtain ⟨e1, e2, e3, e4⟩ := hck3
        exact mm_putf_ok hx hb hd hts c2 hown hK c1 hck.1 (Or.inl (hts _ (mm_hw_ok e1))) hKc c3 c5 (Or.inr ⟨eq_of_beq e2, hname.trans (eq_of_beq e3), eq_of_beq e4, hts _ (mm_hw_ok e1)⟩) rfl ho hp g
    · cases hck
  · exact mm_ald_ok hx hb hd hK hX hbl hbA ho hp g
  · exact mm_ast_ok hx hb hd hK ho hp g
  · exact mm_alen_ok hx hb hd (of_decide_eq_true hck) hK hX hbl hbA ho g
  · simp only [mm_ckP] at hck
    split at hck
    · have hKc := ‹K[x]? = some _›
      simp only [Bool.and_eq_true] at hck
      obtain ⟨e1, e2, e3⟩ := hck
      obtain ⟨c1, c2, c3, c4, c5, c6⟩ := mm_ckK_ok hKK hKc
      exact mm_new_ok hx hb hd hts c2 hown hK c1 hA hKc c3 c4 c6 (hts _ (mm_hw_ok e1)) (hts _ (mm_hw_ok e2)) (hts _ (mm_hw_ok e3)) ⟨hR.1, hR.2.1⟩ rfl ho hp g
    · cases hck
  · exact mm_newa_ok hx hb hd hK hA htys (fun ty hy => hts _ (harr ty hy)) ⟨hR.1, hR.2.1⟩ ho hp g
  · simp only [mm_ckP] at hck
    split at ho
    · rename_i hsum
      have hsum := Nat.le_of_ble_eq_true hsum
      split at hck
      · simp only [Bool.and_eq_true] at hck
        obtain ⟨e1, e2, e3, e4⟩ := hck
        exact mm_math_ok hx hb hd hown rfl (fun _ => ⟨hts _ (mm_hw_ok e1), hts _ (mm_hw_ok e2), hts _ (mm_hw_ok e3), hts _ (mm_hw_ok e4)⟩) (fun hz => absurd hz (by decide)) ⟨hR.2.2.1, hR.2.2.2⟩ hsum ⟨hR.1, hR.2.1⟩ ho hp g
      · simp only [Bool.and_eq_true] at hck
        obtain ⟨e1, e2, e3, e4⟩ := hck
        exact mm_math_ok hx hb hd hown rfl (fun hz => absurd hz (by decide)) (fun _ => ⟨hts _ (mm_hw_ok e1), hts _ (mm_hw_ok e2), hts _ (mm_hw_ok e3), hts _ (mm_hw_ok e4)⟩) ⟨hR.2.2.1, hR.2.2.2⟩ hsum ⟨hR.1, hR.2.1⟩ ho hp g
      · cases hck
    · cases ho
  · exact mm_lcmp_ok hx hb hd (of_decide_eq_true hck) ho g
  · simp only [mm_ckP] at hck
    split at ho
    · rename_i hsum
      have hsum := Nat.le_of_ble_eq_true hsum
      split at hck
      · simp only [Bool.and_eq_true] at hck
        obtain ⟨e1, e2, e3⟩ := hck
        exact mm_obj_ok hx hb hd hown rfl (hts _ (mm_hw_ok e1)) (hts _ (mm_hw_ok e2)) (hts _ (mm_hw_ok e3)) ⟨hR.2.2.1, hR.2.2.2⟩ hsum ho g
      · cases hck
    · cases ho
  · simp only [mm_ckP] at hck
    split at hck
    · cases ho
      exact mm_goto_ok hx hb hd rfl (of_decide_eq_true hck) g
    · cases hck
  · exact absurd rfl h17
  · cases ho
end MMP
end
section
/-! walking the small machine: stretches at once, calls, ends -/
def mm_s1 (sc : mS) (K : mK) (P : List mM) (M : Nat) (t : Bool) (c : mC) : mO := match mm_at P M c.1 with
  | some (q, b) => (match b.2.2.2.1 with
    | 0 => mm_op sc K q.1 q.2.1 b c
    | 1 => (match mm_br b c with
      | some (p, c1, c2) => (match t with
        | true => some ([p], c1)
        | false => some ([¬ p], c2))
      | none => none)
    | _ => none)
  | none => none
def mm_sn (sc : mS) (K : mK) (P : List mM) (M : Nat) : List Bool → mC → mO
  | [], c => some ([], c)
  | t :: ts, c => match mm_s1 sc K P M t c with
    | some (ps, c1) => (match mm_sn sc K P M ts c1 with
      | some (qs, c2) => some (ps ++ qs, c2)
      | none => none)
    | none => none
theorem mm_all_app {ps qs : List Prop} (h : mm_all (ps ++ qs)) : mm_all ps ∧ mm_all qs := by
  induction ps with
  | nil => exact ⟨trivial, h⟩
  | cons p ps ih => exact ⟨⟨h.1, (ih h.2).1⟩, (ih h.2).2⟩
section MMW
variable {sc : mS} {K : mK} {P : List mM}
theorem mm_wp_mono : ∀ {n n2 d M : Nat} {c : mC} {Q Q2 : mR → List mE → Prop}, n ≤ n2 → (∀ r h, Q r h → Q2 r h) → mm_wp sc K P n d M c Q → mm_wp sc K P n2 d M c Q2 := by
  intro n
  induction n with
  | zero => intro n2 d M c Q Q2 _ _ h; exact h.elim
  | succ n ih =>
    intro n2 d M c Q Q2 hn hQ h
    cases n2 with
    | zero => omega
    | succ n2 =>
      have hn : n ≤ n2 := by omega
      unfold mm_wp at h ⊢
      split at h
      · exact h.elim
      · rename_i q b hat
        try rw [hat]
        try dsimp only
        split at h
        · rename_i hg
          try rw [hg]
          try dsimp only
          split at h
          · rename_i hop
            try rw [hop]
            exact ⟨h.1, ih hn hQ h.2⟩
          · exact h.elim
        · rename_i hg
          try rw [hg]
          try dsimp only
          split at h
          · rename_i hop
            try rw [hop]
            exact ⟨fun z => ih hn hQ (h.1 z), fun z => ih hn hQ (h.2 z)⟩
          · exact h.elim
        · rename_i hg
          try rw [hg]
          try dsimp only
          split at h
          · rename_i d2 as r q2 hcl hq2
            try rw [hcl, hq2]
            refine ⟨h.1, ih hn (fun res h2 hr => ?_) h.2⟩
            cases res with
            | inl v => exact ih hn hQ hr
            | inr E =>
              refine ⟨hr.1, ?_⟩
              have hr := hr.2
              try dsimp only at hr ⊢
              split at hr
              · rename_i hhd
                try rw [hhd]
                try dsimp only
                split at hr
                · rename_i hat2
                  try rw [hat2]
                  exact ih hn hQ hr
                · exact hr.elim
              · rename_i hhd
                try rw [hhd]
                exact ⟨hr.1, hQ _ _ hr.2⟩
          · exact h.elim
        · rename_i hg
          try rw [hg]
          try dsimp only
          split at h
          · rename_i hop
            try rw [hop]
            exact ⟨h.1, h.2.1, hQ _ _ h.2.2⟩
          · exact h.elim
        · rename_i hg
          try rw [hg]
          exact ⟨h.1, hQ _ _ h.2⟩
        · exact h.elim
theorem mm_go1 {n d M : Nat} {t : Bool} {c c1 : mC} {ps : List Prop} {Q : mR → List mE → Prop} (h : mm_s1 sc K P M t c = some (ps, c1)) (hp : mm_all ps) (k : mm_wp sc K P n d M c1 Q) : mm_wp sc K P (n + 1) d M c Q := by
  unfold mm_s1 at h
  unfold mm_wp
  split at h
  · rename_i q b hat
    try rw [hat]
    try dsimp only
    split at h
    · rename_i hg
      try rw [hg]
      try dsimp only
      try rw [h]
      exact ⟨hp, k⟩
    · rename_i hg
      try rw [hg]
      try dsimp only
      split at h
      · rename_i hbr
        try rw [hbr]
        split at h
        · cases h
          exact ⟨fun _ => k, fun z => absurd hp.1 z⟩
        · cases h
          exact ⟨fun z => absurd z hp.1, fun _ => k⟩
      · cases h
    · cases h
  · cases h
/-- it ends, and Q holds there -/
def mm_ev (sc : mS) (K : mK) (P : List mM) (d M : Nat) (c : mC) (Q : mR → List mE → Prop) : Prop := ∃ n, mm_wp sc K P n d M c Q
theorem mm_ev.go {d M : Nat} {Q : mR → List mE → Prop} : ∀ (ts : List Bool) {c c1 : mC} {ps : List Prop}, mm_sn sc K P M ts c = some (ps, c1) → mm_all ps → mm_ev sc K P d M c1 Q → mm_ev sc K P d M c Q
  | [], c, c1, ps, h, _, k => by
    cases h
    exact k
  | t :: ts, c, c1, ps, h, hp, k => by
    unfold mm_sn at h
    split at h
    · rename_i ps1 c2 h1
      split at h
      · rename_i qs c3 h2
        cases h
        obtain ⟨hp1, hp2⟩ := mm_all_app hp
        obtain ⟨n, hn⟩ := mm_ev.go ts h2 hp2 k
        exact ⟨n + 1, mm_go1 h1 hp1 hn⟩
      · cases h
    · cases h
theorem mm_ev.mono {d M : Nat} {c : mC} {Q Q2 : mR → List mE → Prop} (h : mm_ev sc K P d M c Q) (hQ : ∀ r x, Q r x → Q2 r x) : mm_ev sc K P d M c Q2 := by
  obtain ⟨n, hn⟩ := h
  exact ⟨n, mm_wp_mono (Nat.le_refl n) hQ hn⟩
/-- a method's end, told whole -/
abbrev mm_is (r : mR) (h : List mE) : mR → List mE → Prop := fun r1 h1 => r1 = r ∧ h1 = h
theorem mm_ev.ret {d M : Nat} {c : mC} {q : mM} {b : mB} {ps : List Prop} {v : Option Value} {Q : mR → List mE → Prop} (hat : mm_at P M c.1 = some (q, b)) (hg : b.2.2.2.1 = 3) (hr : mm_ret b.2.1 q.2.2.2.2.2.2.1 c.2.2.1 = some (ps, v)) (hk : c.2.2.2.2.1 ≤ q.1 ∧ c.2.2.2.2.2 ≤ q.2.1) (hp : mm_all ps) (hQ : Q (.inl v) c.2.2.2.1) : mm_ev sc K P d M c Q := by
  refine ⟨1, ?_⟩
  unfold mm_wp
  try rw [hat]
  try dsimp only
  try rw [hg]
  try dsimp only
  try rw [hr]
  exact ⟨hk, hp, hQ⟩
theorem mm_ev.thr {d M : Nat} {c : mC} {q : mM} {b : mB} {Q : mR → List mE → Prop} (hat : mm_at P M c.1 = some (q, b)) (hg : b.2.2.2.1 = 4) (hk : 5 ≤ d ∧ c.2.2.2.2.1 + 1 ≤ q.1 ∧ c.2.2.2.2.2 + 6 ≤ q.2.1 ∧ q.2.2.2.2.2.2.2.1 = [] ∧ (c.2.2.1.map Value.category).sum ≤ 8) (hQ : Q (.inr b.2.2.2.2.2.1) c.2.2.2.1) : mm_ev sc K P d M c Q := by
  refine ⟨1, ?_⟩
  unfold mm_wp
  try rw [hat]
  try dsimp only
  try rw [hg]
  exact ⟨hk, hQ⟩
theorem mm_ev.call {d M : Nat} {c : mC} {q q2 : mM} {b : mB} {as r : List Value} {v : Option Value} {h1 : List mE} {Q : mR → List mE → Prop} (hat : mm_at P M c.1 = some (q, b)) (hg : b.2.2.2.1 = 2) (hcl : mm_cl b c = some (as, r)) (hq : P[b.2.2.2.2.2.1]? = some q2)
    (hk : c.2.2.2.2.1 + q2.1 ≤ q.1 ∧ c.2.2.2.2.2 + q2.2.1 ≤ q.2.1 ∧ as.length ≤ q2.2.2.2.2.2.1) (he : mm_ev sc K P d b.2.2.2.2.2.1 (0, mm_en q2.2.2.2.2.2.1 as, [], c.2.2.2.1, 0, 0) (mm_is (.inl v) h1))
    (k : mm_ev sc K P (d + 1) M (c.1 + 3, c.2.1, v.toList ++ r, h1, c.2.2.2.2.1 + q2.1, c.2.2.2.2.2 + q2.2.1) Q) : mm_ev sc K P (d + 1) M c Q := by
  obtain ⟨n1, he⟩ := he
  obtain ⟨n2, k⟩ := k
  refine ⟨n1 + n2 + 1, ?_⟩
  unfold mm_wp
  try rw [hat]
  try dsimp only
  try rw [hg]
  try dsimp only
  try rw [hcl, hq]
  refine ⟨hk, mm_wp_mono (Nat.le_add_right _ _) (fun res h2 hr => ?_) he⟩
  obtain ⟨rfl, rfl⟩ := hr
  exact mm_wp_mono (Nat.le_add_left _ _) (fun _ _ z => z) k
theorem mm_ev.callX {d M : Nat} {c : mC} {q q2 : mM} {b : mB} {as r : List Value} {E hp i pc2 : Nat} {z : mM × mB} {h1 : List mE} {Q : mR → List mE → Prop} (hat : mm_at P M c.1 = some (q, b)) (hg : b.2.2.2.1 = 2) (hkd : b.2.2.2.2.1 = 6) (hcl : mm_cl b c = some (as, r)) (hq : P[b.2.2.2.2.2.1]? = some q2)
    (hk : c.2.2.2.2.1 + q2.1 ≤ q.1 ∧ c.2.2.2.2.2 + q2.2.1 ≤ q.2.1 ∧ as.length ≤ q2.2.2.2.2.2.1) (he : mm_ev sc K P d b.2.2.2.2.2.1 (0, mm_en q2.2.2.2.2.2.1 as, [], c.2.2.2.1, 0, 0) (mm_is (.inr E) h1))
    (hh : mm_hd c.1 E q.2.2.2.2.2.2.2.1 q.2.2.2.2.2.2.2.2.1 = some hp) (hz : mm_at P M hp = some z) (hs : mm_hs z.2 = some (pc2, i))
    (k : mm_ev sc K P (d + 1) M (pc2, c.2.1.set i none, [], h1, c.2.2.2.2.1 + q2.1, c.2.2.2.2.2 + q2.2.1) Q) : mm_ev sc K P (d + 1) M c Q := by
  obtain ⟨n1, he⟩ := he
  obtain ⟨n2, k⟩ := k
  refine ⟨n1 + n2 + 1, ?_⟩
  unfold mm_wp
  try rw [hat]
  try dsimp only
  try rw [hg]
  try dsimp only
  try rw [hcl, hq]
  refine ⟨hk, mm_wp_mono (Nat.le_add_right _ _) (fun res h2 hr => ?_) he⟩
  obtain ⟨rfl, rfl⟩ := hr
  refine ⟨hkd, ?_⟩
  try dsimp only
  try rw [hh]
  try dsimp only
  try rw [hz]
  try dsimp only [Option.bind]
  try rw [hs]
  exact mm_wp_mono (Nat.le_add_left _ _) (fun _ _ z => z) k
theorem mm_ev.callO {d M : Nat} {c : mC} {q q2 : mM} {b : mB} {as r : List Value} {E : Nat} {h1 : List mE} {Q : mR → List mE → Prop} (hat : mm_at P M c.1 = some (q, b)) (hg : b.2.2.2.1 = 2) (hkd : b.2.2.2.2.1 = 6) (hcl : mm_cl b c = some (as, r)) (hq : P[b.2.2.2.2.2.1]? = some q2)
    (hk : c.2.2.2.2.1 + q2.1 ≤ q.1 ∧ c.2.2.2.2.2 + q2.2.1 ≤ q.2.1 ∧ as.length ≤ q2.2.2.2.2.2.1) (he : mm_ev sc K P d b.2.2.2.2.2.1 (0, mm_en q2.2.2.2.2.2.1 as, [], c.2.2.2.1, 0, 0) (mm_is (.inr E) h1))
    (hh : mm_hd c.1 E q.2.2.2.2.2.2.2.1 q.2.2.2.2.2.2.2.2.1 = none) (hnh : q.2.2.2.2.2.2.2.1 = []) (k : Q (.inr E) h1) : mm_ev sc K P (d + 1) M c Q := by
  obtain ⟨n1, he⟩ := he
  refine ⟨n1 + 1, ?_⟩
  unfold mm_wp
  try rw [hat]
  try dsimp only
  try rw [hg]
  try dsimp only
  try rw [hcl, hq]
  refine ⟨hk, mm_wp_mono (Nat.le_refl _) (fun res h2 hr => ?_) he⟩
  obtain ⟨rfl, rfl⟩ := hr
  refine ⟨hkd, ?_⟩
  try dsimp only
  try rw [hh]
  exact ⟨hnh, k⟩
end MMW
end
section
/-! contracts of the small machine's methods; calls that return -/
section MMQ
variable (D : va_G) (K : mK) (tys : List (ClassId × FieldType)) (b base : Nat) (sc : mS) (Ns : List Cond) (Z : State → Prop)
def mm_Pc (ws : va_W) (av : List Value) : Array Value → State → Prop := va_Pc av (fun U => va_P D (mm_cls K) ws U.heap ∧ va_D (fun a => base ≤ a) ws ∧ mm_En D K tys b base sc Ns Z U)
def mm_Qc (ws : va_W) (Q : mR → List mE → Prop) : Array Value → State → Outcome → State → Prop := fun _ st o t =>
  ∃ (v w : Option Value) (h1 : List mE) (ws1 : va_W), o = .returned w ∧ Q (.inl v) h1 ∧ mm_vs b ws1 v.toList w.toList ∧ mm_h ws b tys h1 ws1 ∧ mm_ext ws ws1 ∧ va_P D (mm_cls K) ws1 t.heap ∧ va_D (fun a => base ≤ a) ws1 ∧ va_F (fun a => base ≤ a) st t
end MMQ
theorem mm_vs_app {b : Nat} {ws : va_W} : ∀ {a c d e : List Value}, mm_vs b ws a c → mm_vs b ws d e → mm_vs b ws (a ++ d) (c ++ e)
  | [], _, _, _, h, h2 => by cases h; exact h2
  | _ :: _, _, _, _, h, h2 => by
    obtain ⟨w0, w1, rfl, h3, h4⟩ := h
    exact ⟨w0, _, rfl, h3, mm_vs_app h4 h2⟩
theorem mm_vs_take {b : Nat} {ws : va_W} : ∀ (n : Nat) {a c : List Value}, mm_vs b ws a c → mm_vs b ws (a.take n) (c.take n) ∧ mm_vs b ws (a.drop n) (c.drop n)
  | 0, _, _, h => ⟨rfl, h⟩
  | _ + 1, [], _, h => by cases h; exact ⟨rfl, rfl⟩
  | n + 1, _ :: _, _, h => by
    obtain ⟨w0, w1, rfl, h3, h4⟩ := h
    obtain ⟨h5, h6⟩ := mm_vs_take n h4
    exact ⟨⟨w0, _, rfl, h3, h5⟩, h6⟩
theorem mm_vs_rev {b : Nat} {ws : va_W} : ∀ {a c : List Value}, mm_vs b ws a c → mm_vs b ws a.reverse c.reverse
  | [], _, h => by cases h; rfl
  | _ :: _, _, h => by
    obtain ⟨w0, w1, rfl, h3, h4⟩ := h
    rw [List.reverse_cons, List.reverse_cons]
    exact mm_vs_app (mm_vs_rev h4) ⟨w0, [], rfl, h3, rfl⟩
theorem mm_args1 : ∀ {vs : List Value} {i j : Nat} {w : Value}, (∀ v ∈ vs, v.category = 1) → vs[j]? = some w → (i + j, w) ∈ lv_args i vs
  | [], _, _, _, _, h => by simp at h
  | v :: vs, i, 0, w, _, h => by
    have : v = w := by simpa using h
    subst this
    exact List.mem_cons_self
  | v :: vs, i, j + 1, w, hc, h => by
    have h1 : v.category = 1 := hc v List.mem_cons_self
    have h2 : vs[j]? = some w := by simpa using h
    have h3 := mm_args1 (i := i + 1) (fun x hx => hc x (List.mem_cons_of_mem _ hx)) h2
    have h4 : i + (j + 1) = i + 1 + j := by omega
    rw [h4]
    unfold lv_args
    rw [h1]
    exact List.mem_cons_of_mem _ h3
theorem mm_sl1 : ∀ {vs : List Value}, (∀ v ∈ vs, v.category = 1) → (lg_sl vs).length = vs.length
  | [], _ => rfl
  | v :: vs, hc => by
    have h1 : v.category = 1 := hc v List.mem_cons_self
    have h2 := mm_sl1 (fun x hx => hc x (List.mem_cons_of_mem _ hx))
    unfold lg_sl at h2 ⊢
    rw [List.flatMap_cons, List.length_append, h2, h1]
    simp
    omega
theorem mm_vs_cat {b : Nat} {ws : va_W} : ∀ {a c : List Value}, mm_vs b ws a c → a.all mm_c1 = true → ∀ v ∈ c, v.category = 1
  | [], _, h, _ => by cases h; exact fun v hv => absurd hv List.not_mem_nil
  | _ :: _, _, h, hc => by
    obtain ⟨w0, w1, rfl, h3, h4⟩ := h
    rw [List.all_cons, Bool.and_eq_true] at hc
    intro v hv
    rcases List.mem_cons.mp hv with rfl | hv
    · exact mm_cat h3 hc.1
    · exact mm_vs_cat h4 hc.2 v hv
/-- the locals at a method's entry -/
theorem mm_entry {b : Nat} {ws : va_W} {as av : List Value} {n : Nat} (h : mm_vs b ws as av) (hc : as.all mm_c1 = true) (hn : as.length ≤ n) : mm_l b ws n (mm_en n as) ((lg_sl av ++ List.replicate (n - (lg_sl av).length) Slot.unset).toArray) := by
  have h1 := mm_vs_cat h hc
  have h2 := mm_sl1 h1
  have h3 := mm_vs_len h
  refine ⟨?_, _, lv_entry av (by omega), fun i v hv => ?_⟩
  · unfold mm_en
    simp
    omega
  · unfold mm_en at hv
    have hi : i < as.length := by
      rcases Nat.lt_or_ge i as.length with z | z
      · exact z
      · rw [List.getElem?_append_right (by simpa using z)] at hv
        have := List.mem_of_getElem? hv
        rw [List.mem_replicate] at this
        cases this.2
    rw [List.getElem?_append_left (by simpa using hi), List.getElem?_map] at hv
    have hv2 : as[i]? = some v := by
      cases hz : as[i]? with
      | none => rw [hz] at hv; cases hv
      | some v2 => rw [hz] at hv; cases hv; rfl
    obtain ⟨w, hw1, hw2⟩ := mm_vs_get h hv2
    have h4 := mm_args1 (i := 0) h1 hw1
    rw [Nat.zero_add] at h4
    exact ⟨List.all_eq_true.mp hc v (List.mem_of_getElem? hv2), w, hw2, h4⟩
section MMC
variable {p : Program} {l : Launch} {e : Env} {R : Room} {s : State} {m : MethodId} {args : Array Value} {below : List Frame} {meth : Method} {c : Code} {D : va_G} {K : mK} {tys : List (ClassId × FieldType)} {b base : Nat} {w0 : va_W} {Qs : State → Prop} {sc : mS} {Ts Ns : List Cond} {q : mM}
/-- what stays when nothing that was there before the run has changed -/
def mm_Zc (base : Nat) (Z : State → Prop) : Prop := ∀ u U : State, u.WarmedH U.vm → (∀ q, q < base → U.heap[q]? = u.heap[q]?) → Z u → Z U
theorem mm_blind {ws : va_W} {av : List Value} {Z : State → Prop} (hZ : mm_Zc base Z) (hN : Ns.all mm_isN = true) : FrameBlind (mm_Pc D K tys b base sc Ns Z ws av) := by
  intro a U g mk h
  obtain ⟨rfl, h1, h2, h3, h4, h5, h6, h7, h8, h9⟩ := h
  exact ⟨rfl, h1, h2, va_K.moved (u := U) (U := U.calling g mk av.toArray) (Vm.Alike.refl U.vm) h3, va_X.moved (u := U) (U := U.calling g mk av.toArray) (Vm.Alike.refl U.vm) h4, fun w hw => va_Nw.same (u := U) (mm_isN_on (List.all_eq_true.mp hN w hw)) rfl (h5 w hw), h6, h7, h8, hZ U _ (State.WarmedH.refl U) (fun _ _ => rfl) h9⟩
/-- the words of nest mates stay as the tables grow warm -/
theorem mm_Nwarm {U : State} {w : Cond} (hn : mm_isN w = true) (hW : s.WarmedH U.vm) (h : va_Nw w s) : va_Nw w U := by
  cases w <;> first | (cases hn; done) | exact va_Nw.warmF hW h | exact va_Nw.warmM hW h
/-- what holds at a call, whatever the tables have learned since the method began -/
theorem mm_pre {ws : va_W} {av : List Value} {H : Heap} {locs : List Loc} {Z : State → Prop} (hZ : mm_Zc base Z) (hN : Ns.all mm_isN = true) (E : mm_En D K tys b base sc Ns Z s) (h2 : va_P D (mm_cls K) ws H) (h3 : va_D (fun a => base ≤ a) ws) (h4 : va_S (fun a => base ≤ a) s.heap H locs) :
    ∀ U : State, U.heap = H → s.WarmedH U.vm → mm_Pc D K tys b base sc Ns Z ws av av.toArray U := by
  intro U hU hW
  obtain ⟨e1, e2, e3, e4, e5, e6, e7⟩ := E
  refine ⟨rfl, by rw [hU]; exact h2, h3, va_K.moved hW.alike e1, ?_, fun w hw => mm_Nwarm (List.all_eq_true.mp hN w hw) hW (e3 w hw), ?_, e5, e6, hZ s U hW (fun q hq => ?_) e7⟩
  · refine va_X.moved hW.alike (va_X.kept e2 ?_)
    rw [hU]
    exact h4.2.1 b (Nat.lt_of_lt_of_le e5 e4) (Nat.not_le.mpr e5)
  · rw [hU]
    exact Nat.le_trans e4 h4.1
  · rw [hU]
    exact h4.2.1 q (Nat.lt_of_lt_of_le hq e4) (Nat.not_le.mpr hq)
/-- behind a call that returned -/
theorem mm_back {H : Heap} {locs : List Loc} {ws : va_W} {la : Array Slot} {sv rest r : List Value} {pc kc ks mc ms : Nat} {ls : mL} {a : Array Value} {Q : mR → List mE → Prop}
    (hr : va_Run p l e R s m args below meth c H locs kc ks mc ms (F0 m pc la sv) rest (mm_Qc D K tys b base ws Q a) (fun a => base ≤ a)) (hS : va_S (fun a => base ≤ a) s.heap H locs) (h5 : mm_l b ws c.maxLocals ls la) (h6 : mm_vs b ws r rest) (hw0 : mm_ext w0 ws)
    (g : ∀ v h1, Q (.inl v) h1 → mm_G p l e R s m args below meth c D (mm_cls K) tys (fun a => base ≤ a) w0 b Qs (pc + 3, ls, v.toList ++ r, h1, kc + mc, ks + ms)) : W p l e R s m args below meth c H locs kc ks Qs (F0 m pc la sv) := by
  intro T hT X
  obtain ⟨w, st₀, t, T', L, h0, X', hL, e1, e2, ⟨v, w2, h1, ws1, hw, hq, hv, hh, hex, hP, hD, hF⟩, st⟩ := hr T hT X
  cases hw
  obtain ⟨f1, f2⟩ := hF
  rw [h0] at f1 f2
  have hS2 : va_S (fun a => base ≤ a) s.heap t.heap (locs ++ L) := ⟨Nat.le_trans hS.1 f1, fun q h1 h2 => by rw [f2 q (Nat.lt_of_lt_of_le h1 hS.1) h2]; exact hS.2.1 q h1 h2, fun q hq => by
    rcases List.mem_append.mp hq with h | h
    · exact hS.2.2 q h
    · exact hL q h⟩
  obtain ⟨t2, a1, b1⟩ := g v h1 hq t.heap (locs ++ L) ws1 la (w.toList ++ rest) (hh.re (hw0.tr hex)) hP hD hS2 (h5.ext hex) (mm_vs_app hv (h6.ext hex)) T' e1 X'
  exact ⟨t2, st t2 a1, b1⟩
end MMC
def mm_plain (y : MethodName) (n : Nat) : Bool := plainName y.cls && (y.cls != "java/lang/invoke/MethodHandle" && (y.cls != "java/lang/invoke/VarHandle" && decide ((parseMethodDescriptor y.desc).map (fun d => d.parameters.length) = some n)))
def mm_cw (q : mM) : Cond := match q.2.2.2.2.2.2.2.1 with
  | [] => .code q.2.2.2.1 q.2.2.2.2.1 q.2.2.2.2.2.1 q.2.2.2.2.2.2.1
  | hh => .codeWith q.2.2.2.1 q.2.2.2.2.1 q.2.2.2.2.2.1 q.2.2.2.2.2.2.1 hh
/-- a method's own words: its code, then all -/
def mm_ws (Ts : List Cond) (q : mM) : List Cond := mm_cw q :: Ts
def mm_rm (d : Nat) (q : mM) : Room := { frames := d + 1, cells := q.1, slots := q.2.1, locals := 31 * d + 72 }
def mm_ckC (Ts : List Cond) (K : mK) (own host : String) (q2 : mM) (ins : Instr) (kd y z : Nat) (hs : List Nat) : Bool :=
  (mm_hw Ts hs 0 (mm_cw q2) && Nat.ble q2.2.2.2.2.2.1 12) && (match kd, ins with
  | 0, .invokespecial i => mm_plain q2.2.2.2.1 (y - 1) && (mm_hw Ts hs 1 (.methodLink own i q2.2.2.2.1) && (mm_hw Ts hs 2 (.instanceMethod q2.2.2.2.1) && (mm_hw Ts hs 3 (.initialized q2.2.2.2.1.cls) && (q2.2.2.2.1.name == "<init>" && (q2.2.2.2.2.2.2.1 == none && (q2.2.2.2.2.2.2.2.1 == [] && Nat.ble 1 y))))))
  | 1, .invokespecial i => mm_plain q2.2.2.2.1 (y - 1) && (mm_hn Ts hs 1 (.methodLinkNest own i q2.2.2.2.1 host) && (mm_hw Ts hs 2 (.instanceMethod q2.2.2.2.1) && (mm_hw Ts hs 3 (.initialized q2.2.2.2.1.cls) && (q2.2.2.2.1.name == "<init>" && (q2.2.2.2.2.2.2.1 == none && (q2.2.2.2.2.2.2.2.1 == [] && Nat.ble 1 y))))))
  | 2, .invokevirtual i => mm_plain q2.2.2.2.1 (y - 1) && (mm_hw Ts hs 1 (.methodLink own i q2.2.2.2.1) && (mm_hw Ts hs 2 (.instanceMethod q2.2.2.2.1) && (mm_hw Ts hs 3 (.initialized q2.2.2.2.1.cls) && (mm_hw Ts hs 4 (.selects q2.2.2.2.1.cls q2.2.2.2.1 q2.2.2.2.1) && (((K[z]?).map (fun r => r.1)) == some q2.2.2.2.1.cls && (q2.2.2.2.2.2.2.2.1 == [] && Nat.ble 1 y))))))
  | 6, .invokevirtual i => mm_plain q2.2.2.2.1 (y - 1) && (mm_hw Ts hs 1 (.methodLink own i q2.2.2.2.1) && (mm_hw Ts hs 2 (.instanceMethod q2.2.2.2.1) && (mm_hw Ts hs 3 (.initialized q2.2.2.2.1.cls) && (mm_hw Ts hs 4 (.selects q2.2.2.2.1.cls q2.2.2.2.1 q2.2.2.2.1) && (((K[z]?).map (fun r => r.1)) == some q2.2.2.2.1.cls && (q2.2.2.2.2.2.2.2.1 == [] && Nat.ble 1 y))))))
  | 3, .invokevirtual i => mm_plain q2.2.2.2.1 (y - 1) && (mm_hn Ts hs 1 (.methodLinkNest own i q2.2.2.2.1 host) && (mm_hw Ts hs 2 (.instanceMethod q2.2.2.2.1) && (mm_hw Ts hs 3 (.initialized q2.2.2.2.1.cls) && (mm_hw Ts hs 4 (.selects q2.2.2.2.1.cls q2.2.2.2.1 q2.2.2.2.1) && (((K[z]?).map (fun r => r.1)) == some q2.2.2.2.1.cls && (q2.2.2.2.2.2.2.2.1 == [] && Nat.ble 1 y))))))
  | 4, .invokestatic i => mm_plain q2.2.2.2.1 y && (mm_hw Ts hs 1 (.methodLink own i q2.2.2.2.1) && (mm_hw Ts hs 2 (.static q2.2.2.2.1) && (mm_hw Ts hs 3 (.initialized q2.2.2.2.1.cls) && q2.2.2.2.2.2.2.2.1 == [])))
  | 7, .invokestatic i => mm_plain q2.2.2.2.1 y && (mm_hw Ts hs 1 (.methodLink own i q2.2.2.2.1) && (mm_hw Ts hs 2 (.static q2.2.2.2.1) && mm_hw Ts hs 3 (.initialized q2.2.2.2.1.cls)))
  | 5, .invokestatic i => mm_plain q2.2.2.2.1 y && (mm_hn Ts hs 1 (.methodLinkNest own i q2.2.2.2.1 host) && (mm_hw Ts hs 2 (.static q2.2.2.2.1) && (mm_hw Ts hs 3 (.initialized q2.2.2.2.1.cls) && q2.2.2.2.2.2.2.2.1 == [])))
  | _, _ => false)
theorem mm_plain_ok {y : MethodName} {n : Nat} (h : mm_plain y n = true) : plainName y.cls = true ∧ (y.cls ≠ "java/lang/invoke/MethodHandle" ∧ y.cls ≠ "java/lang/invoke/VarHandle" ∧ (parseMethodDescriptor y.desc).map (fun d => d.parameters.length) = some n) := by
  simp only [mm_plain, Bool.and_eq_true, bne_iff_ne, decide_eq_true_eq] at h
  exact h
theorem mm_good {Ts : List Cond} {q : mM} (hg : Ts.all goodWord = true) (h : mm_cw q ∈ Ts) : GoodIn Ts (mm_ws Ts q) := by
  have hg2 := List.all_eq_true.mp hg
  intro w hw
  rcases List.mem_cons.mp hw with rfl | hw
  · exact ⟨h, good_of_word (hg2 _ h)⟩
  · exact ⟨hw, good_of_word (hg2 _ hw)⟩
section MMC2
variable {p : Program} {l : Launch} {e : Env} {R : Room} {s : State} {m : MethodId} {args : Array Value} {below : List Frame} {meth : Method} {c : Code} {D : va_G} {K : mK} {tys : List (ClassId × FieldType)} {b base : Nat} {w0 : va_W} {Qs : State → Prop} {sc : mS} {Tb : List Cond} {q q2 : mM}
theorem mm_cl_ok {b0 : mB} {x : mC} {as r : List Value} (h : mm_cl b0 x = some (as, r)) : as = (x.2.2.1.take b0.2.2.2.2.2.2.1).reverse ∧ r = x.2.2.1.drop b0.2.2.2.2.2.2.1 ∧ b0.2.2.2.2.2.2.1 ≤ x.2.2.1.length ∧ as.all mm_c1 = true ∧ mm_recv b0.2.2.2.2.1 b0.2.2.2.2.2.2.2.1 as x.2.2.2.1 = true ∧ (r.map Value.category).sum ≤ 8 := by
  obtain ⟨pc, ins, len, grp, kd, x0, y0, z0, hs⟩ := b0
  obtain ⟨pc2, ls, st, h0, kc, ks⟩ := x
  unfold mm_cl at h
  dsimp only at h ⊢
  split at h
  · rename_i hc
    simp only [Bool.and_eq_true, decide_eq_true_eq] at hc
    obtain ⟨h1, h2, h3, h4⟩ := hc
    cases h
    refine ⟨rfl, rfl, h1, ?_, h3, Nat.le_of_ble_eq_true h4⟩
    rw [List.all_reverse]
    exact h2
  · cases h
/-- a call that returns -/
theorem mm_call_ok {Z : State → Prop} (hZ : mm_Zc base Z) (X : mm_X D K tys b base sc (Tb.filter goodWord) (Tb.filter mm_isN) Z p s m args meth c q) {d : Nat} (hR : R.cells = q.1 ∧ R.slots = q.2.1 ∧ d + 2 ≤ R.frames ∧ 31 * d + 103 ≤ R.locals)
    {pc len grp kd x k z : Nat} {ins : Instr} {hs : List Nat} {ls : mL} {st as r : List Value} {h : List mE} {kc ks : Nat} {Q : mR → List mE → Prop}
    (hd : decode q.2.2.2.2.1 pc = .ok (ins, 3)) (hck : mm_ckC Tb K q.2.2.2.1.cls q.2.2.2.2.2.2.2.2.2 q2 ins kd k z hs = true) (hkd : kd ≠ 6 ∧ kd ≠ 7)
    (hcl : mm_cl (pc, ins, len, grp, kd, x, k, z, hs) (pc, ls, st, h, kc, ks) = some (as, r)) (hk : kc + q2.1 ≤ q.1 ∧ ks + q2.2.1 ≤ q.2.1)
    (hM : ∀ (ws : va_W) (av : List Value), mm_h ws b tys h ws → mm_vs b ws as av → Met l q2.2.2.2.1 (mm_ws (Tb.filter goodWord) q2) (mm_rm d q2) (mm_Pc D K tys b base sc (Tb.filter mm_isN) Z ws av) (mm_Qc D K tys b base ws Q) q2.1 q2.2.1 (fun a => base ≤ a))
    (g : ∀ v h1, Q (.inl v) h1 → mm_G p l e R s m args below meth c D (mm_cls K) tys (fun a => base ≤ a) w0 b Qs (pc + 3, ls, v.toList ++ r, h1, kc + q2.1, ks + q2.2.1)) :
    mm_G p l e R s m args below meth c D (mm_cls K) tys (fun a => base ≤ a) w0 b Qs (pc, ls, st, h, kc, ks) := by
  intro H locs ws la sv h1 h2 h3 h4 h5 h6
  obtain ⟨hx, hb, hml, hown, hlocks, hret, hname, hext, hts, E⟩ := X
  have hN := E.2.2.1
  have hKs := E.1
  obtain ⟨ea, er, hlen, hc1, hrc, hsum⟩ := mm_cl_ok hcl
  dsimp only at ea er hlen hrc
  obtain ⟨h7, h8⟩ := mm_vs_take k h6
  have h9 := mm_vs_rev h7
  rw [← ea] at h9
  have h8r : mm_vs b ws r (sv.drop k) := by rw [er]; exact h8
  have hsv : sv = ((sv.take k).reverse).reverse ++ sv.drop k := by rw [List.reverse_reverse, List.take_append_drop]
  generalize hav : (sv.take k).reverse = av at h9 hsv
  generalize hre : sv.drop k = rest at h8r hsv
  have hsz : (F0 m pc la sv).locals.size = q.2.2.2.2.2.1 := (mm_size h5).trans hml
  have hrw : 2 * (F0 m pc la sv).monitorRoom + (rest.map fun v => v.category).sum ≤ 8 := lv_room (by rw [show (rest.map fun v => v.category).sum = (rest.map Value.category).sum from rfl, mm_sum h8r]; exact hsum)
  have hmet := hM ws av (h1.re mm_ext.rf) h9
  have hNs : (Tb.filter mm_isN).all mm_isN = true := List.all_eq_true.mpr (fun w hw => (List.mem_filter.mp hw).2)
  have hgd : (Tb.filter goodWord).all goodWord = true := List.all_eq_true.mpr (fun w hw => (List.mem_filter.mp hw).2)
  have hbl : FrameBlind (mm_Pc D K tys b base sc (Tb.filter mm_isN) Z ws av) := mm_blind hZ hNs
  have hpre := mm_pre (av := av) hZ hNs E h2 h3 h4
  have hlav : av.length = as.length := mm_vs_len h9
  have hlas : as.length = k := by rw [ea, List.length_reverse, List.length_take]; omega
  have hcf : CallFix p m c q.2.2.2.2.1 q.2.2.2.2.2.1 s args (Tb.filter goodWord) q.2.2.2.1.cls := ⟨hx, hb, hml, hown, hts⟩
  have hff : kc + q2.1 ≤ R.cells ∧ ks + q2.2.1 ≤ R.slots := ⟨by rw [hR.1]; exact hk.1, by rw [hR.2.1]; exact hk.2⟩
  unfold mm_ckC at hck
  rw [Bool.and_eq_true, Bool.and_eq_true] at hck
  obtain ⟨⟨hcw, hml2⟩, hck⟩ := hck
  have hml2 := Nat.le_of_ble_eq_true hml2
  have hcw := mm_hw_ok hcw
  have hgood : GoodIn (Tb.filter goodWord) (mm_ws (Tb.filter goodWord) q2) := mm_good hgd hcw
  have hroom : (mm_rm d q2).frames + 1 ≤ R.frames ∧ 8 + (q2.2.2.2.2.2.1 + 11) + (mm_rm d q2).locals ≤ R.locals := ⟨hR.2.2.1, by show 8 + (q2.2.2.2.2.2.1 + 11) + (31 * d + 72) ≤ R.locals; omega⟩
  have hrecv : kd ≠ 4 → kd ≠ 5 → kd ≠ 7 → ∃ (i : Nat) (fs : List Value) (as1 : List Value), as = .ref i :: as1 ∧ h[i]? = some (.inr (z, fs)) := by
    intro k4 k5 k7
    unfold mm_recv at hrc
    split at hrc
    · exact absurd rfl k4
    · exact absurd rfl k5
    · exact absurd rfl k7
    · split at hrc
      · split at hrc
        · rename_i hi
          have e9 := eq_of_beq hrc
          subst e9
          exact ⟨_, _, _, rfl, hi⟩
        · cases hrc
      · cases hrc
  split at hck
  · simp only [Bool.and_eq_true] at hck
    obtain ⟨e1, e2, e3, e4, e5, e6, e7, e8⟩ := hck
    obtain ⟨-, hpl⟩ := mm_plain_ok e1
    obtain ⟨i, fs, as1, rfl, hi⟩ := hrecv (by decide) (by decide) (by decide)
    obtain ⟨w0, av1, rfl, hw, h9⟩ := h9
    obtain ⟨a0, e0, ha0, rfl⟩ := hw
    have hcw2 : mm_ws (Tb.filter goodWord) q2 = Cond.code q2.2.2.2.1 q2.2.2.2.2.1 q2.2.2.2.2.2.1 none :: Tb.filter goodWord := by
      unfold mm_ws mm_cw
      rw [eq_of_beq e7, eq_of_beq e6]
    exact mm_back (va_runI (As := av1) (rest := rest) hcf hmet (cwI (k - 1) hts hgood hcw2 rfl rfl (hts _ (mm_hw_ok e4)) (hts _ (mm_hw_ok e2)) (hts _ (mm_hw_ok e3)) (eq_of_beq e5) hpl hroom) ⟨hbl, hpre⟩ rfl (by simp at hlav hlas; omega) hsz (by rw [List.reverse_cons, List.append_assoc] at hsv; exact hsv) hrw hd hff) h4 h5 h8r h1.2.1 g
  · simp only [Bool.and_eq_true] at hck
    obtain ⟨e1, e2, e3, e4, e5, e6, e7, e8⟩ := hck
    obtain ⟨-, hpl⟩ := mm_plain_ok e1
    obtain ⟨i, fs, as1, rfl, hi⟩ := hrecv (by decide) (by decide) (by decide)
    obtain ⟨w0, av1, rfl, hw, h9⟩ := h9
    obtain ⟨a0, e0, ha0, rfl⟩ := hw
    have hcw2 : mm_ws (Tb.filter goodWord) q2 = Cond.code q2.2.2.2.1 q2.2.2.2.2.1 q2.2.2.2.2.2.1 none :: Tb.filter goodWord := by
      unfold mm_ws mm_cw
      rw [eq_of_beq e7, eq_of_beq e6]
    exact mm_back (va_runIN (As := av1) (rest := rest) hcf hmet ⟨va_cnB (k - 1) hts hgood hcw2 rfl rfl (hN _ (mm_hn_ok e2)) (hts _ (mm_hw_ok e4)) hpl hroom, eq_of_beq e5, hts _ (mm_hw_ok e3)⟩ ⟨hbl, hpre⟩ rfl (by simp at hlav hlas; omega) hsz (by rw [List.reverse_cons, List.append_assoc] at hsv; exact hsv) hrw hd hff) h4 h5 h8r h1.2.1 g
  · simp only [Bool.and_eq_true] at hck
    obtain ⟨e1, e2, e3, e4, e5, e6, e7, e8⟩ := hck
    obtain ⟨-, hpl⟩ := mm_plain_ok e1
    obtain ⟨i, fs, as1, rfl, hi⟩ := hrecv (by decide) (by decide) (by decide)
    obtain ⟨w0, av1, rfl, hw, h9⟩ := h9
    obtain ⟨a0, e0, ha0, rfl⟩ := hw
    obtain ⟨gs, rfl, hgs⟩ := mm_cell h1 hi ha0
    have hcw2 : mm_ws (Tb.filter goodWord) q2 = Cond.code q2.2.2.2.1 q2.2.2.2.2.1 q2.2.2.2.2.2.1 q2.2.2.2.2.2.2.1 :: Tb.filter goodWord := by
      unfold mm_ws mm_cw
      rw [eq_of_beq e7]
    obtain ⟨r0, hr0, hr1⟩ : ∃ r0 : vw_C, (mm_cls K)[z]? = some r0 ∧ r0.1 = q2.2.2.2.1.cls := by
      have e9 := eq_of_beq e6
      cases hz : K[z]? with
      | none => rw [hz] at e9; cases e9
      | some r0 =>
        rw [hz] at e9
        exact ⟨(r0.1, r0.2.1, r0.2.2.1), by simp [mm_cls, hz], Option.some.inj e9⟩
    have hre := va_recv hKs h2 hr0 ha0
    rw [hr1] at hre
    exact mm_back (va_runV (As := av1) (rest := rest) (C := q2.2.2.2.1.cls) hcf hmet ⟨callB_of (k - 1) hts hgood hcw2 rfl rfl (hts _ (mm_hw_ok e4)) (hts _ (mm_hw_ok e2)) hpl hroom, hts _ (mm_hw_ok e3), hts _ (mm_hw_ok e5)⟩ ⟨hbl, hre, hpre⟩ rfl (by simp at hlav hlas; omega) hsz (by rw [List.reverse_cons, List.append_assoc] at hsv; exact hsv) hrw hd hff) h4 h5 h8r h1.2.1 g
  · exact absurd rfl hkd.1
  · simp only [Bool.and_eq_true] at hck
    obtain ⟨e1, e2, e3, e4, e5, e6, e7, e8⟩ := hck
    obtain ⟨-, hpl⟩ := mm_plain_ok e1
    obtain ⟨i, fs, as1, rfl, hi⟩ := hrecv (by decide) (by decide) (by decide)
    obtain ⟨w0, av1, rfl, hw, h9⟩ := h9
    obtain ⟨a0, e0, ha0, rfl⟩ := hw
    obtain ⟨gs, rfl, hgs⟩ := mm_cell h1 hi ha0
    have hcw2 : mm_ws (Tb.filter goodWord) q2 = Cond.code q2.2.2.2.1 q2.2.2.2.2.1 q2.2.2.2.2.2.1 q2.2.2.2.2.2.2.1 :: Tb.filter goodWord := by
      unfold mm_ws mm_cw
      rw [eq_of_beq e7]
    obtain ⟨r0, hr0, hr1⟩ : ∃ r0 : vw_C, (mm_cls K)[z]? = some r0 ∧ r0.1 = q2.2.2.2.1.cls := by
      have e9 := eq_of_beq e6
      cases hz : K[z]? with
      | none => rw [hz] at e9; cases e9
      | some r0 =>
        rw [hz] at e9
        exact ⟨(r0.1, r0.2.1, r0.2.2.1), by simp [mm_cls, hz], Option.some.inj e9⟩
    have hre := va_recv hKs h2 hr0 ha0
    rw [hr1] at hre
    exact mm_back (va_runVN (As := av1) (rest := rest) (C := q2.2.2.2.1.cls) hcf hmet ⟨va_cnB (k - 1) hts hgood hcw2 rfl rfl (hN _ (mm_hn_ok e2)) (hts _ (mm_hw_ok e4)) hpl hroom, hts _ (mm_hw_ok e3), hts _ (mm_hw_ok e5)⟩ ⟨hbl, hre, hpre⟩ rfl (by simp at hlav hlas; omega) hsz (by rw [List.reverse_cons, List.append_assoc] at hsv; exact hsv) hrw hd hff) h4 h5 h8r h1.2.1 g
  · simp only [Bool.and_eq_true] at hck
    obtain ⟨e1, e2, e3, e4, e7⟩ := hck
    obtain ⟨-, hpl⟩ := mm_plain_ok e1
    have hcw2 : mm_ws (Tb.filter goodWord) q2 = Cond.code q2.2.2.2.1 q2.2.2.2.2.1 q2.2.2.2.2.2.1 q2.2.2.2.2.2.2.1 :: Tb.filter goodWord := by
      unfold mm_ws mm_cw
      rw [eq_of_beq e7]
    exact mm_back (va_runS (As := av) (rest := rest) hcf hmet ⟨callB_of k hts hgood hcw2 rfl rfl (hts _ (mm_hw_ok e4)) (hts _ (mm_hw_ok e2)) hpl hroom, hts _ (mm_hw_ok e3)⟩ ⟨hbl, hpre⟩ rfl (by omega) hsz hsv hrw hd hff) h4 h5 h8r h1.2.1 g
  · exact absurd rfl hkd.2
  · simp only [Bool.and_eq_true] at hck
    obtain ⟨e1, e2, e3, e4, e7⟩ := hck
    obtain ⟨-, hpl⟩ := mm_plain_ok e1
    have hcw2 : mm_ws (Tb.filter goodWord) q2 = Cond.code q2.2.2.2.1 q2.2.2.2.2.1 q2.2.2.2.2.2.1 q2.2.2.2.2.2.2.1 :: Tb.filter goodWord := by
      unfold mm_ws mm_cw
      rw [eq_of_beq e7]
    exact mm_back (va_runSN (As := av) (rest := rest) hcf hmet ⟨va_cnB k hts hgood hcw2 rfl rfl (hN _ (mm_hn_ok e2)) (hts _ (mm_hw_ok e4)) hpl hroom, hts _ (mm_hw_ok e3), trivial⟩ ⟨hbl, hpre⟩ rfl (by omega) hsz hsv hrw hd hff) h4 h5 h8r h1.2.1 g
  · cases hck
end MMC2
end
section
/-! throws: a throw in a method's own text, its way out, its catching (launches without stack traces) -/
def mx_L (base : Nat) (n d : String) (U : State) : Prop := ∃ (c : ClassId) (k : Class) (i : Nat) (f : Field) (a : Nat) (cell : Cell), U.vm.findClass Bundle.tN = some c ∧ U.fieldFound? Bundle.tN n d = some (c, k, i, f) ∧ f.isStatic = true ∧ k.statics = some a ∧ U.heap[a]? = some cell ∧ cell.vm.isStatics = true ∧ cell.cls = c ∧ f.slot < cell.slots.size ∧ k.staticTypes[f.slot]? = some f.type ∧ a < base ∧ ∃ v, cell.slots[f.slot]? = some v ∧ v.isRef = true
theorem mx_L.moved {base : Nat} {n d : String} {u U : State} (hvm : u.vm.Alike U.vm) (hh : ∀ q, q < base → U.heap[q]? = u.heap[q]?) (h : mx_L base n d u) : mx_L base n d U := by
  obtain ⟨c, k, i, f, a, cell, h1, h2, h3, h4, h5, h6, h7, h8, h9, h10, h11⟩ := h
  obtain ⟨k2, hi, he⟩ := State.fieldFound?_setVm hvm h2
  exact ⟨c, k2, i, f, a, cell, by rw [hvm.findClass]; exact h1, hi, h3, by rw [he]; exact h4, by rw [hh a h10]; exact h5, h6, h7, h8, by rw [he]; exact h9, h10, h11⟩
theorem mx_L.lays {base : Nat} {n d : String} {U : State} {args : Array Value} (h : mx_L base n d U) : (Cond.laysStatic Bundle.tN n d).before args U = true := by
  obtain ⟨c, k, i, f, a, cell, h1, h2, h3, h4, h5, h6, h7, h8, h9, -⟩ := h
  show (Cond.laysStatic Bundle.tN n d).holds args U none U [] = true
  exact Cond.laysStatic_of h1 h2 h3 h4 h5 h6 h7 h8 h9
theorem mx_L.ref {base : Nat} {n d : String} {U : State} {args : Array Value} (h : mx_L base n d U) : (Cond.isRef (.static Bundle.tN n d)).before args U = true := by
  obtain ⟨c, k, i, f, a, cell, h1, h2, h3, h4, h5, h6, h7, h8, h9, h10, v, hv, hr⟩ := h
  have he : (Term.static Bundle.tN n d).eval args U none [] U = some v := by
    simp [Term.eval, State.fieldNamed?, h2, h3, h4, h5, h6, hv]
  simp only [Cond.before, Cond.holds, Cond.value, he]
  cases v <;> simp_all [Value.isRef]
theorem mx_L.of {base : Nat} {n d : String} {U : State} {args : Array Value} (hl : (Cond.laysStatic Bundle.tN n d).before args U = true) (hini : (Cond.initialized Bundle.tN).before args U = true) (h : (Cond.isRef (.static Bundle.tN n d)).before args U = true) (hb : U.heap.size ≤ base) : mx_L base n d U := by
  obtain ⟨c, k, i, f, a, cell, h1, h2, h3, h4, h5, h6, h7, h8, h9⟩ := Cond.laysStatic_spec hl
  refine ⟨c, k, i, f, a, cell, h1, h2, h3, h4, h5, h6, h7, h8, h9, Nat.lt_of_lt_of_le (Array.getElem?_eq_some_iff.mp h5).1 hb, ?_⟩
  have hz := va_Zqof (A := fun _ => False) hl hini h (fun _ _ z => z)
  rcases hz with ⟨cf, kf, fi, f2, a2, cell2, g1, g2, g3, g4, g5, g6, g7, -⟩ | ⟨t, cf, kf, fi, f2, a2, cell2, g1, g2, g3, g4, g5, g6, g7, -⟩
  · cases h2.symm.trans g1
    cases h4.symm.trans g4
    cases h5.symm.trans g5
    exact ⟨_, g7, rfl⟩
  · cases h2.symm.trans g1
    cases h4.symm.trans g4
    cases h5.symm.trans g5
    exact ⟨_, g7, rfl⟩
/-- words that the tables alone decide, and no reader of steady words carries -/
def mx_isC (w : Cond) : Bool := match w with
  | .castable _ _ => true
  | .declares _ => true
  | _ => false
theorem mx_isC_on {w : Cond} (h : mx_isC w = true) : w.onTables = true := by
  cases w <;> first | rfl | (cases h; done)
theorem mx_isC_moved {w : Cond} {u U : State} (hn : mx_isC w = true) (hvm : u.vm.Alike U.vm) (h : va_Nw w u) : va_Nw w U := by
  have tr : w.before #[] (u.setVm U.vm) = true → w.before #[] U = true := by
    intro h
    have e := Cond.onTables_vm (A := #[]) (A' := #[]) (U := u) (U' := U) U.vm w (mx_isC_on hn)
    have hU : U.setVm U.vm = U := rfl
    rw [hU] at e
    rw [← e]
    exact h
  cases w <;> first | (cases hn; done) | (refine tr ?_; rw [Cond.castable_setVm hvm]; exact h) | (refine tr ?_; rw [Cond.declares_setVm hvm]; exact h)
/-- what a run has beside the rest, for its throws: the exceptions' names are apart, the texts lie, the two statics -/
def mx_Z (base : Nat) (Cx : List Cond) (Ex : List String) (Sx : List (String × Nat × String)) (U : State) : Prop :=
  (∀ i j : Nat, i < Ex.length → j < Ex.length → i ≠ j → va_Nc (Ex.getD i "") (Ex.getD j "") U) ∧ (∀ t ∈ Sx, ∃ sa, vk_R t.1 t.2.1 t.2.2 sa U) ∧ mx_L base "UNASSIGNED_STACK" Bundle.steD U ∧ mx_L base "SUPPRESSED_SENTINEL" Bundle.listD U ∧ ∀ w ∈ Cx, va_Nw w U
theorem mx_Zc {base : Nat} {Cx : List Cond} (hCx : Cx.all mx_isC = true) {Ex : List String} {Sx : List (String × Nat × String)} : mm_Zc base (mx_Z base Cx Ex Sx) := by
  intro u U hW hh h
  obtain ⟨h1, h2, h3, h4, h5⟩ := h
  refine ⟨fun i j hi hj hij => va_Nc.moved hW.alike (h1 i j hi hj hij), fun t ht => ?_, h3.moved hW.alike hh, h4.moved hW.alike hh, fun w hw => mx_isC_moved (List.all_eq_true.mp hCx w hw) hW.alike (h5 w hw)⟩
  obtain ⟨sa, hs⟩ := h2 t ht
  exact ⟨sa, vk_R.warm hW hs⟩
/-- the four words of a throw that speak of the heap -/
def mx_four (w : Cond) : Bool := decide (w = .isRef (.static Bundle.tN "UNASSIGNED_STACK" Bundle.steD)) || (decide (w = .isRef (.static Bundle.tN "SUPPRESSED_SENTINEL" Bundle.listD)) || (decide (w = .laysStatic Bundle.tN "UNASSIGNED_STACK" Bundle.steD) || decide (w = .laysStatic Bundle.tN "SUPPRESSED_SENTINEL" Bundle.listD)))
theorem mx_atoms {base : Nat} {L Ts Cx : List Cond} {args : Array Value} {U : State} (h : L.all (fun w => mx_four w || (decide (w ∈ Ts) || decide (w ∈ Cx))) = true) (hC : ∀ w ∈ Cx, w.before args U = true) (ht : ∀ w ∈ Ts, w.before args U = true) (h3 : mx_L base "UNASSIGNED_STACK" Bundle.steD U) (h4 : mx_L base "SUPPRESSED_SENTINEL" Bundle.listD U) : ∀ w ∈ L, w.before args U = true := by
  intro w hw
  have h1 := List.all_eq_true.mp h w hw
  simp only [mx_four, Bool.or_eq_true, decide_eq_true_eq] at h1
  rcases h1 with (rfl | rfl | rfl | rfl) | h1 | h1
  · exact h3.ref
  · exact h4.ref
  · exact h3.lays
  · exact h4.lays
  · exact ht w h1
  · exact hC w h1
section MXB
variable {p : Program} {l : Launch} {e : Env} {R : Room} {s : State} {m : MethodId} {args : Array Value} {below : List Frame} {meth : Method} {c : Code} {T : State} {locs : List Loc} {cells slots : Nat}
/-- the method as if it were begun anew at this state -/
theorem mx_anew (X : Stand p l e R s m args below meth c T locs cells slots) {R2 : Room} (hf : R2.frames ≤ R.frames) (hl : R2.locals ≤ R.locals) (hc : cells + R2.cells ≤ R.cells) (hs : slots + R2.slots ≤ R.slots) :
    Stand p l e R2 ((T.setVm s.vm).setFrames (.invoking m args :: below)) m args below meth c T [] 0 0 := by
  have htop : (T.setVm s.vm).topJava?.isSome := X.here.top
  have hF : ((T.setVm s.vm).setFrames (.invoking m args :: below)).frames = .invoking m args :: below := State.frames_setFrames _ (State.cur_lt_of_top htop)
  obtain ⟨g₀, hg0⟩ := Option.isSome_iff_exists.mp htop
  obtain ⟨r, hr⟩ := State.topJava?_eq_some.mp hg0
  have hl9 : e.platform.stackLimits (T.setVm s.vm).me = e.platform.stackLimits s.me := X.limits
  have hb9 : (T.setVm s.vm).me.stackBytes = s.me.stackBytes := X.bytes
  have hroom : ((T.setVm s.vm).setFrames (.invoking m args :: below)).hasRoom e.platform R2 = true := by
    have h := X.room
    have hU : ((T.setVm s.vm).setFrames (.invoking m args :: below)).localsInUse = s.localsInUse := by
      rw [State.localsInUse_invoking hF (meth := meth) (c := c) X.method X.code, State.localsInUse_invoking X.frames X.method X.code]
    simp only [State.hasRoom, Bool.and_eq_true, decide_eq_true_eq] at h ⊢
    obtain ⟨⟨⟨⟨h1, h2, h3, h4, h5, h6⟩, h7⟩, h8⟩, h9⟩ := h
    rw [X.frames, List.length_cons] at h2 h3
    have q1 := X.heapSize
    have q2 := X.used
    simp only [hF, hU, List.length_cons, State.stackLimits_setFrames, State.stackBytes_setFrames, hl9, hb9]
    refine ⟨⟨⟨⟨by omega, by omega, by omega, by omega, by omega, h6⟩, ?_⟩, ?_⟩, X.book⟩
    · show T.heap.size + R2.cells ≤ e.platform.maxCells
      omega
    · show T.slotsUsed + R2.slots ≤ e.platform.maxSlots
      omega
  have hsame : ((T.setVm s.vm).setFrames (.invoking m args :: below)).sameButNew (T.setVm s.vm) [] 0 0 := by
    refine ⟨?_, Nat.le_refl _, Nat.le_refl _, ?_, ?_, fun a c9 h9 => ⟨c9, h9, rfl, rfl, fun _ _ => rfl⟩⟩
    · obtain ⟨t, ht, -⟩ := State.frames_cons hr
      show T.setVm s.vm = { ((T.setVm s.vm).setFrames (.invoking m args :: below)).setFrames (T.setVm s.vm).frames with heap := T.heap, slotsUsed := T.slotsUsed }
      rw [State.setFrames_setFrames, State.setFrames_self ht]
      rfl
    · show T.slotsUsed = T.slotsUsed + ((T.heap.toList.drop T.heap.size).map (·.slots.size)).sum
      rw [List.drop_eq_nil_of_le (Nat.le_of_eq Array.length_toList)]
      rfl
    · show ((T.heap.toList.drop T.heap.size).map (·.slots.size)).sum ≤ 0
      rw [List.drop_eq_nil_of_le (Nat.le_of_eq Array.length_toList)]
      exact Nat.le_refl _
  exact ⟨X.admits, X.cas, X.clock, hF, hroom, X.hears, X.method, X.code, X.here, X.tail, X.warmed, by rw [State.stackLimits_setFrames]; rfl, by rw [State.stackBytes_setFrames]; rfl, hsame⟩
/-- what was there and was not written is as it was -/
theorem mx_old {U : State} {L : List Loc} {k n : Nat} (h : s.sameButNew ({ U with vm := s.vm } : State) L k n) : s.heap.size ≤ U.heap.size ∧ ∀ q : Nat, q < s.heap.size → (∀ z ∈ L, z.base ≠ q) → U.heap[q]? = s.heap[q]? := by
  obtain ⟨-, h2, -, -, -, h6⟩ := h
  refine ⟨h2, fun q hq hz => ?_⟩
  obtain ⟨c9, e1, e2, e3, e4⟩ := h6 q _ (Array.getElem?_eq_getElem hq)
  have hs : c9.slots = (s.heap[q]).slots := Array.ext_getElem? fun i => e4 i fun hm => hz _ hm rfl
  have h9 : c9 = s.heap[q] := by
    rw [hs] at e2
    exact e2
  have e5 : U.heap[q]? = some c9 := e1
  rw [e5, h9, Array.getElem?_eq_getElem hq]
end MXB
end
section
/-! a throw in a method's own text: new, dup, ldc, invokespecial, athrow -/
def mx_names : List String := ["java/lang/RuntimeException", "java/lang/Exception"]
def mx_ckT (Tb : List Cond) (Ex : List String) (Sx : List (String × Nat × String)) (bytes : ByteArray) (own : String) (pc : Nat) (ins : Instr) (x y z : Nat) (hs : List Nat) : Bool := match ins, Ex[x]?, Sx[hs.getD 2 0]? with
  | .new ik, some X, some (o, i, _) => mm_hw Tb hs 0 (.classLink own ik X) && (mm_hw Tb hs 1 (.initialized X) && ((o == own && i == y) && ((decide (decode bytes pc = .ok (.new ik, 3)) && (decide (decode bytes (pc + 3) = .ok (.dup, 1)) && (decide (decode bytes (pc + 4) = .ok (.ldc y, 2)) && (decide (decode bytes (pc + 6) = .ok (.invokespecial z, 3)) && decide (decode bytes (pc + 9) = .ok (.athrow, 1))))))
      && ((Bundle.fit X && mx_names.all Bundle.fit) && (Bundle.ownAtoms own z X mx_names).all (fun w => mx_four w || (decide (w ∈ Tb.filter goodWord) || decide (w ∈ Tb.filter mx_isC)))))))
  | _, _, _ => false
section MXS
variable {p : Program} {l : Launch} {e : Env} {R : Room} {s : State} {m : MethodId} {args : Array Value} {below : List Frame} {meth : Method} {c : Code} {D : va_G} {K : mK} {tys : List (ClassId × FieldType)} {b base : Nat} {w0 : va_W} {Qs : State → Prop} {sc : mS} {Tb : List Cond} {q : mM} {Ex : List String} {Sx : List (String × Nat × String)}
theorem mx_site_ok (X : mm_X D K tys b base sc (Tb.filter goodWord) (Tb.filter mm_isN) (mx_Z base (Tb.filter mx_isC) Ex Sx) p s m args meth c q) (hl : l.stackTraces = false) (hR : q.1 ≤ R.cells ∧ q.2.1 ≤ R.slots ∧ 6 ≤ R.frames ∧ 96 ≤ R.locals)
    {pc x y z : Nat} {ins : Instr} {hs : List Nat} {ls : mL} {st : List Value} {h : List mE} {kc ks : Nat} (hck : mx_ckT Tb Ex Sx q.2.2.2.2.1 q.2.2.2.1.cls pc ins x y z hs = true) (hno : q.2.2.2.2.2.2.2.1 = []) (hk : kc + 1 ≤ q.1 ∧ ks + 6 ≤ q.2.1) (hst : (st.map Value.category).sum ≤ 8)
    (hend : ∀ (H : Heap) (locs : List Loc) (ws : va_W) (U : State) (a : Addr) (ce : Cell), mm_h w0 b tys h ws → va_P D (mm_cls K) ws H → va_D (fun a => base ≤ a) ws → va_S (fun a => base ≤ a) s.heap H locs → U.status = .running → Ended U below (.threw a) → s.WarmedH U.vm → s.sameButNew ({ U with vm := s.vm } : State) locs (kc + 1) (ks + 6) →
      H.size ≤ U.heap.size → (∀ q : Nat, q < H.size → U.heap[q]? = H[q]?) → U.heap[a]? = some ce → ce.vm = .none → s.vm.findClass (Ex.getD x "") = some ce.cls → Qs U) :
    mm_G p l e R s m args below meth c D (mm_cls K) tys (fun a => base ≤ a) w0 b Qs (pc, ls, st, h, kc, ks) := by
  intro H locs ws la sv h1 h2 h3 h4 h5 h6
  obtain ⟨hx, hb, hml, hown, hlocks, hret, hname, hext, hts, hK, hXs, hN, hbase, hbb, htys, hZ⟩ := X
  unfold mx_ckT at hck
  split at hck
  rotate_left
  · cases hck
  rename_i ik E0 o9 i9 tx hE hSx
  simp only [Bool.and_eq_true, decide_eq_true_eq] at hck
  obtain ⟨c1, c2, ⟨c3, c4⟩, ⟨d0, d3, d4, d6, d9⟩, ⟨c5, c6⟩, c7⟩ := hck
  have hEx : Ex.getD x "" = E0 := by rw [List.getD_eq_getElem?_getD, hE]; rfl
  have c3 := eq_of_beq c3
  have c4 := eq_of_beq c4
  subst c3
  subst c4
  have hout : ∀ x ∈ c.exceptionTable.toList, covers x (pc + 9) = false := by
    rw [hno] at hext
    have h9 : c.exceptionTable.toList = [] := List.map_eq_nil_iff.mp hext
    rw [h9]
    exact fun x hx => nomatch hx
  have hsv : (sv.map fun v => v.category).sum ≤ 8 := by
    rw [show (sv.map fun v => v.category).sum = (sv.map Value.category).sum from rfl, mm_sum h6]
    exact hst
  intro T hT X0
  have htr : e.platform.stackTraces = false := (show e.platform.stackTraces = l.stackTraces by rw [X0.admits.platform]).trans hl
  have hRc : kc + 1 ≤ R.cells := Nat.le_trans hk.1 hR.1
  have hRs : ks + 6 ≤ R.slots := Nat.le_trans hk.2 hR.2.1
  have Y := mx_anew X0 (R2 := { frames := R.frames, locals := R.locals, cells := 1, slots := 6 }) (Nat.le_refl _) (Nat.le_refl _) hRc hRs
  obtain ⟨s2, hA⟩ : ∃ z, z = (T.setVm s.vm).setFrames (.invoking m args :: below) := ⟨_, rfl⟩
  rw [← hA] at Y
  have hvm : s2.vm = s.vm := by rw [hA]; rfl
  have hhp : s2.heap = H := by rw [hA]; exact hT
  have hW0 : s.WarmedH s2.vm := by rw [hvm]; exact State.WarmedH.refl s
  have hts2 : ∀ w ∈ Tb.filter goodWord, w.before args s2 = true := fun w hw => word_at hW0 (good_of_word (List.mem_filter.mp hw).2) (hts w hw)
  have hCx : (Tb.filter mx_isC).all mx_isC = true := List.all_eq_true.mpr (fun w hw => (List.mem_filter.mp hw).2)
  have hZ2 := mx_Zc hCx s s2 hW0 (fun q hq => by rw [hhp]; exact h4.2.1 q (Nat.lt_of_lt_of_le hq hbase) (Nat.not_le.mpr hq)) hZ
  have hat := mx_atoms c7 (fun w hw => va_Nw.use (mx_isC_on (List.mem_filter.mp hw).2) (hZ2.2.2.2.2 w hw)) hts2 hZ2.2.2.1 hZ2.2.2.2.1
  obtain ⟨sa, hstr⟩ := hZ2.2.1 _ (List.mem_of_getElem? hSx)
  have hown2 : s2.vm.findClass q.2.2.2.1.cls = some m.cls := by rw [hvm]; exact hown
  have hins : (Cond.instantiable E0 6).before args s2 = true := hat _ (by simp [Bundle.ownAtoms])
  obtain ⟨vm₁, cX, kX, hfX, hkX, -, -, X₁, st1⟩ := Y.newCold hx (own := q.2.2.2.1.cls) (C := E0) (index := ik) (n := 6) hown2 (hts2 _ (mm_hw_ok c1)) hins (hts2 _ (mm_hw_ok c2))
    (g := F0 m pc la sv) rfl (by rw [hb]; exact d0) (Nat.le_refl _) (Nat.le_refl _)
  generalize hT1 : (T.setVm vm₁).pushCell { cls := cX, slots := kX.instanceTypes.map defaultValue, vm := .none } = T1 at X₁ st1
  have hcat : (Value.ref T.heap.size).category = 1 := rfl
  have hcellA : T1.heap[T.heap.size]? = some (freshCell cX kX) := by rw [← hT1]; exact State.heap_pushCell_size _ _
  have d3' : decode c.code (pc + 3) = .ok (.dup, 1) := by rw [hb]; exact d3
  have d4' : decode c.code (pc + 4) = .ok (.ldc i9, 2) := by rw [hb]; exact d4
  obtain ⟨U, hsteps, hrun, hended, hW, hsame, ce, hce, hO⟩ := X₁.ctorThrowS hx htr (own := q.2.2.2.1.cls) (cls := E0) (names := mx_names) (ic := z) hown2 c5 (List.all_eq_true.mp c6) hat (fun x hx => nomatch hx) hfX hkX hcellA (by rw [hhp, hT]; exact Nat.le_refl _) (msg := .ref sa) rfl
    (g := { method := m, pc := pc + 6, locals := la, stack := .ref sa :: .ref T.heap.size :: .ref T.heap.size :: sv, locked := none }) rfl (mm_size h5) rfl rfl (rest := sv) rfl
    (by rw [hb]; exact d6) (by rw [hb]; exact d9) hout (by show 2 + 3 < R.frames; omega) (by
      have h0 : ({ method := m, pc := pc + 6, locals := la, stack := .ref sa :: .ref T.heap.size :: .ref T.heap.size :: sv, locked := none } : JFrame).monitorRoom = 0 := rfl
      simp only [List.map_cons, List.sum_cons, hcat, h0]
      show _ + (13 * (2 + 1) + 42) ≤ R.locals
      omega) hlocks
  obtain ⟨f1, f2⟩ := mx_old hsame
  rw [hhp] at f1 f2
  have hWs : s.WarmedH U.vm := State.WarmedH.trans hW0 hW
  have hcl : s.vm.findClass (Ex.getD x "") = some ce.cls := by
    have h9 := hO.cls
    rw [hvm] at h9
    rw [hEx]
    exact h9
  have hall : s.sameButNew ({ U with vm := s.vm } : State) locs (kc + 1) (ks + 6) := by
    subst hA
    obtain ⟨e1, e2⟩ := hsame
    rw [State.setFrames_setFrames] at e1
    have h2 : (T.setVm s.vm).sameButNew ({ U with vm := s.vm } : State) [] (0 + 1) (0 + 6) := ⟨e1, e2⟩
    have h3 := X0.same.trans h2
    rw [List.append_nil] at h3
    exact h3
  refine ⟨U, ?_, hend H locs ws U T.heap.size ce h1 h2 h3 h4 hrun hended hWs hall f1 (fun q hq => f2 q hq (fun z hz => nomatch hz)) hce hO.vm hcl⟩
  refine st1 _ ?_
  show Steps p.tables e below (T1.setTop { method := m, pc := pc + 3, locals := la, stack := .ref T.heap.size :: sv, locked := none }) _
  jvm_step X₁.here [X₁.here.top, hx, d3', Value.category]
  exact X₁.ldcString hx (own := q.2.2.2.1.cls) (text := tx) (a := sa) hown2 hstr.1 hstr.2
    (g := { method := m, pc := pc + 4, locals := la, stack := .ref T.heap.size :: .ref T.heap.size :: sv, locked := none }) rfl d4' _ hsteps
end MXS
end
section
/-! contracts of methods that may throw; a call of one; its catching; calls of methods that catch -/
section MXH
variable {Qh : Handler → Pre} {Eh : CtlPost} {e : Env} {dd : Bool} {acts : List Action} {s : State} {f : JFrame} {a : Addr}
/-- a row of a method's table that covers the place, her class linked: she takes it, or she is passed -/
theorem mx_row {x : ExceptionTableEntry} {t : List ExceptionTableEntry} {k : ClassId} {cell : Cell} (hx : covers x f.pc = true) (h0 : x.catchType ≠ 0) (hl : s.vm.ClassLinks e.platform f.method.cls x.catchType k) (hcell : s.heap[a]? = some cell) (hobj : ∀ z, cell.vm ≠ .statics z)
    (hk : ∃ z, s.vm.classes[cell.cls]? = some z) (hc : ∃ z, s.vm.classes[k]? = some z) :
    wp (findHandler.go f a (x :: t)) Qh Eh e dd acts s ↔ if s.vm.assignable cell.cls k = true then Qh (.found x.handlerPc) dd acts (s.setVm (s.vm.noted f.method.cls x.catchType (.cls k))) else wp (findHandler.go f a t) Qh Eh e dd acts (s.setVm (s.vm.noted f.method.cls x.catchType (.cls k))) := by
  simp only [covers] at hx
  obtain ⟨ha, ht⟩ := (resolveClass_links e.toSetting hl).op (op := VmOp.resolveClass f.method.cls x.catchType) rfl
  have hal : s.vm.Alike (s.vm.noted f.method.cls x.catchType (.cls k)) := (Vm.Alike.refl s.vm).noted _ _ _
  obtain ⟨k1, hk1⟩ := hk
  obtain ⟨k2, hk2⟩ := hc
  obtain ⟨k3, hk3, -⟩ := hal.2.2 _ _ hk1
  obtain ⟨k4, hk4, -⟩ := hal.2.2 _ _ hk2
  have hfit : (s.vm.noted f.method.cls x.catchType (.cls k)).assignable cell.cls k = s.vm.assignable cell.cls k := hal.assignable _ _
  cases hz : s.vm.assignable cell.cls k <;> rw [hz] at hfit <;>
    simp [findHandler.go, hx, h0, ha, ht, hcell, hobj, hk3, hk4, hfit, VmOp.dirties, VmOp.acts]
/-- the table, row by row, leads to hp -/
def mx_Fi (e : Env) (s : State) (f : JFrame) (cls : ClassId) (hp : Nat) : List ExceptionTableEntry → Prop
  | [] => False
  | x :: t => (covers x f.pc = false ∧ mx_Fi e s f cls hp t) ∨ (covers x f.pc = true ∧ x.catchType ≠ 0 ∧ ∃ k, s.vm.ClassLinks e.platform f.method.cls x.catchType k ∧ ((s.vm.assignable cls k = true ∧ x.handlerPc = hp) ∨ (s.vm.assignable cls k = false ∧ mx_Fi e s f cls hp t)))
theorem mx_seek {s0 : State} {cell : Cell} {hp : Nat} (hobj : ∀ z, cell.vm ≠ .statics z) (hk0 : ∃ k, s0.vm.classes[cell.cls]? = some k) :
    ∀ (t : List ExceptionTableEntry) (S : State), s0.WarmedH S.vm → S.heap[a]? = some cell → mx_Fi e s0 f cell.cls hp t → ∃ vm2, s0.WarmedH vm2 ∧ ∀ (Q : Handler → Pre) (E : CtlPost) (d : Bool) (acts : List Action), wp (findHandler.go f a t) Q E e d acts S ↔ Q (.found hp) d acts (S.setVm vm2) := by
  obtain ⟨k0, hk0⟩ := hk0
  intro t
  induction t with
  | nil => intro S _ _ h; exact h.elim
  | cons x t ih =>
    intro S hW hcell h
    rcases h with ⟨hcov, h⟩ | ⟨hcov, h0, k, hl, h⟩
    · obtain ⟨vm2, hW2, hq⟩ := ih S hW hcell h
      exact ⟨vm2, hW2, fun Q E d acts => by rw [W.findHandler_go_skip hcov]; exact hq Q E d acts⟩
    · obtain ⟨k1, hk1, -⟩ := hW.alike.2.2 _ _ hk0
      obtain ⟨dk, _, _, kt, hd, _, _, _, _, hkt, _, hopen⟩ := hl.here
      obtain ⟨k2, hk2, -⟩ := hW.alike.2.2 _ _ hkt
      have hW3 : s0.WarmedH (S.vm.noted f.method.cls x.catchType (.cls k)) := hW.noted hd hopen (State.rightAt_cls hl)
      rcases h with ⟨hfit, rfl⟩ | ⟨hfit, h⟩
      · refine ⟨_, hW3, fun Q E d acts => ?_⟩
        rw [mx_row hcov h0 (hW.classLinks hl) hcell hobj ⟨k1, hk1⟩ ⟨k2, hk2⟩, if_pos (by rw [hW.alike.assignable]; exact hfit)]
      · obtain ⟨vm2, hW2, hq⟩ := ih (S.setVm (S.vm.noted f.method.cls x.catchType (.cls k))) hW3 hcell h
        refine ⟨vm2, hW2, fun Q E d acts => ?_⟩
        rw [mx_row hcov h0 (hW.classLinks hl) hcell hobj ⟨k1, hk1⟩ ⟨k2, hk2⟩, if_neg (by rw [hW.alike.assignable, hfit]; decide)]
        exact hq Q E d acts
theorem mx_fvf (u : State) (vm2 : Vm) (F G : List Frame) : ((u.setFrames F).setVm vm2).setFrames G = (u.setVm vm2).setFrames G := by
  have h1 : (u.setFrames F).setVm vm2 = (u.setVm vm2).setFrames F := rfl
  rw [h1, State.setFrames_setFrames]
end MXH
section MXC
variable {p : Program} {l : Launch} {e : Env} {R : Room} {s : State} {m : MethodId} {args : Array Value} {below : List Frame} {meth : Method} {c : Code} {T : State} {locs : List Loc} {cells slots : Nat}
/-- a thrown object is caught in the method itself -/
theorem mx_caught (X : Stand p l e R s m args below meth c T locs cells slots) {a : Addr} {g : JFrame} (hg : g.method = m) {cell : Cell} (hcell : T.heap[a]? = some cell) (hv : cell.vm = .none) (hk0 : ∃ k, s.vm.classes[cell.cls]? = some k) {hp : Nat} (h : mx_Fi e s g cell.cls hp c.exceptionTable.toList) :
    ∃ vm2, Stand p l e R s m args below meth c (T.setVm vm2) locs cells slots ∧ ∀ target, Steps p.tables e below ((T.setVm vm2).setTop { g with pc := hp, stack := [.ref a] }) target → Steps p.tables e below ((T.setTop g).pushFrame (.throwing a)) target := by
  subst hg
  obtain ⟨vm2, hW2, hq⟩ := mx_seek (e := e) (f := g) (a := a) (s0 := s) (cell := cell) (hp := hp) (fun z hz => by rw [hv] at hz; cases hz) hk0 c.exceptionTable.toList ((T.setTop g).pushFrame (.throwing a)) X.warmed hcell h
  refine ⟨vm2, X.noted hW2, fun target hrest => ?_⟩
  have hfind : ∀ (Q : Handler → Pre) (E : CtlPost) (d : Bool) (acts : List Action), wp (findHandler g a) Q E e d acts ((T.setTop g).pushFrame (.throwing a)) ↔ Q (.found hp) d acts (((T.setTop g).pushFrame (.throwing a)).setVm vm2) := fun Q E d acts => by
    rw [W.findHandler_eq (show ((T.setTop g).pushFrame (.throwing a)).vm.method? g.method = some meth from X.method') X.code]
    exact hq Q E d acts
  have hstep : ∀ r, (stepThrowing e ((T.setTop g).pushFrame (.throwing a)) a (.java g :: r)).Is ((((T.setTop g).pushFrame (.throwing a)).setVm vm2).setFrames (.java { g with pc := hp, stack := [.ref a] } :: r)) [] := by
    intro r
    simp only [stepThrowing, searchFrame, vmDo]
    generalize hr : Sem.go _ e false [] ((T.setTop g).pushFrame (.throwing a)) = res
    obtain ⟨as, rfl, ha⟩ := Sem.eq_ok_of hr (a := Handler.found hp) (s' := ((T.setTop g).pushFrame (.throwing a)).setVm vm2) (acts' := []) (by simp [hfind _ _ _ _])
    exact ⟨rfl, ha⟩
  obtain ⟨hgo, hw⟩ := X.here.throwing a
  refine Steps.head hgo hw ?_
  rw [stepThread_throwing (frames_entered X.here.top _), (hstep _).1]
  obtain ⟨g₀, hg⟩ := Option.isSome_iff_exists.mp X.here.top
  obtain ⟨r, hr⟩ := State.topJava?_eq_some.mp hg
  have hr2 : (T.setVm vm2).frames = .java g₀ :: r := hr
  rw [State.setTop_of_frames _ hr2] at hrest
  rw [hr, List.tail_cons, State.pushFrame, mx_fvf, State.setTop_of_frames _ hr, mx_fvf]
  exact hrest
end MXC
end
section
/-! a call that may throw, and what becomes of it; a call of a method that catches -/
section MXQ
variable (D : va_G) (K : mK) (tys : List (ClassId × FieldType)) (b base : Nat) (Ex : List String)
def mx_Qc (ws : va_W) (Q : mR → List mE → Prop) (mc ms : Nat) : Array Value → State → Outcome → State → Prop := fun a st o t =>
  (∃ L, st.WarmedH t.vm ∧ st.sameButNew ({ t with vm := st.vm } : State) L mc ms ∧ ∀ z ∈ L, base ≤ z.base) ∧
  (mm_Qc D K tys b base ws Q a st o t ∨ ∃ (x : Addr) (E : Nat) (h1 : List mE) (ws1 : va_W) (ce : Cell), o = .threw x ∧ E < Ex.length ∧ Q (.inr E) h1 ∧ mm_h ws b tys h1 ws1 ∧ mm_ext ws ws1 ∧ va_P D (mm_cls K) ws1 t.heap ∧ va_D (fun a => base ≤ a) ws1 ∧ va_F (fun a => base ≤ a) st t ∧ t.heap[x]? = some ce ∧ ce.vm = .none ∧ st.vm.findClass (Ex.getD E "") = some ce.cls)
variable (p : Program) (l : Launch) (e : Env) (R : Room) (s : State) (m : MethodId) (args : Array Value) (below : List Frame) (meth : Method) (c : Code) (w0 : va_W) (Qs : State → Prop)
/-- the machine, with an object of the class E thrown over the method's frame, comes to Qs -/
def mx_G (E : Nat) (x : mC) : Prop := ∀ (H : Heap) (locs : List Loc) (ws : va_W) (la : Array Slot) (sv : List Value) (a : Addr) (ce : Cell), mm_h w0 b tys x.2.2.2.1 ws → va_P D (mm_cls K) ws H → va_D (fun a => base ≤ a) ws → va_S (fun a => base ≤ a) s.heap H locs → mm_l b ws c.maxLocals x.2.1 la →
  H[a]? = some ce → ce.vm = .none → s.vm.findClass (Ex.getD E "") = some ce.cls → ∀ T : State, T.heap = H → Stand p l e R s m args below meth c T locs x.2.2.2.2.1 x.2.2.2.2.2 → ∃ t, Steps p.tables e below ((T.setTop (F0 m x.1 la sv)).pushFrame (.throwing a)) t ∧ Qs t
end MXQ
section MXD
variable {p : Program} {l : Launch} {e : Env} {R : Room} {s : State} {m : MethodId} {args : Array Value} {below : List Frame} {meth : Method} {c : Code} {D : va_G} {K : mK} {tys : List (ClassId × FieldType)} {b base : Nat} {w0 : va_W} {Qs : State → Prop} {sc : mS} {Tb : List Cond} {q q2 : mM} {Ex : List String}
/-- a call that returns or throws -/
theorem mx_call_ok {Z : State → Prop} (hZ : mm_Zc base Z) (X : mm_X D K tys b base sc (Tb.filter goodWord) (Tb.filter mm_isN) Z p s m args meth c q) {d : Nat} (hR : R.cells = q.1 ∧ R.slots = q.2.1 ∧ d + 2 ≤ R.frames ∧ 31 * d + 103 ≤ R.locals)
    {pc len grp x k z : Nat} {ins : Instr} {hs : List Nat} {ls : mL} {st as r : List Value} {h : List mE} {kc ks : Nat} {Q : mR → List mE → Prop}
    (hd : decode q.2.2.2.2.1 pc = .ok (ins, 3)) (hck : mm_ckC Tb K q.2.2.2.1.cls q.2.2.2.2.2.2.2.2.2 q2 ins 6 k z hs = true)
    (hcl : mm_cl (pc, ins, len, grp, 6, x, k, z, hs) (pc, ls, st, h, kc, ks) = some (as, r)) (hk : kc + q2.1 ≤ q.1 ∧ ks + q2.2.1 ≤ q.2.1)
    (hM : ∀ (ws : va_W) (av : List Value), mm_h ws b tys h ws → mm_vs b ws as av → MetFree l q2.2.2.2.1 (headSpec (mm_ws (Tb.filter goodWord) q2) (mm_rm d q2)) (mm_Pc D K tys b base sc (Tb.filter mm_isN) Z ws av) (fun _ _ _ _ _ => True) (mx_Qc D K tys b base Ex ws Q q2.1 q2.2.1))
    (g : ∀ v h1, Q (.inl v) h1 → mm_G p l e R s m args below meth c D (mm_cls K) tys (fun a => base ≤ a) w0 b Qs (pc + 3, ls, v.toList ++ r, h1, kc + q2.1, ks + q2.2.1))
    (gx : ∀ E h1, E < Ex.length → Q (.inr E) h1 → mx_G D K tys b base Ex p l e R s m args below meth c w0 Qs E (pc, ls, r, h1, kc + q2.1, ks + q2.2.1)) :
    mm_G p l e R s m args below meth c D (mm_cls K) tys (fun a => base ≤ a) w0 b Qs (pc, ls, st, h, kc, ks) := by
  intro H locs ws la sv h1 h2 h3 h4 h5 h6
  obtain ⟨hx, hb, hml, hown, hlocks, hret, hname, hext, hts, E⟩ := X
  have hKs := E.1
  obtain ⟨ea, er, hlen, hc1, hrc, hsum⟩ := mm_cl_ok hcl
  dsimp only at ea er hlen hrc
  obtain ⟨h7, h8⟩ := mm_vs_take k h6
  have h9 := mm_vs_rev h7
  rw [← ea] at h9
  have h8r : mm_vs b ws r (sv.drop k) := by rw [er]; exact h8
  have hsv : sv = ((sv.take k).reverse).reverse ++ sv.drop k := by rw [List.reverse_reverse, List.take_append_drop]
  generalize hav : (sv.take k).reverse = av at h9 hsv
  generalize hre : sv.drop k = rest at h8r hsv
  have hrw : 2 * (F0 m pc la rest).monitorRoom + ((F0 m pc la rest).stack.map fun v => v.category).sum ≤ 8 := lv_room (by rw [show (rest.map fun v => v.category).sum = (rest.map Value.category).sum from rfl, mm_sum h8r]; exact hsum)
  have hmet := hM ws av (h1.re mm_ext.rf) h9
  have hNs : (Tb.filter mm_isN).all mm_isN = true := List.all_eq_true.mpr (fun w hw => (List.mem_filter.mp hw).2)
  have hgd : (Tb.filter goodWord).all goodWord = true := List.all_eq_true.mpr (fun w hw => (List.mem_filter.mp hw).2)
  have hbl : FrameBlind (mm_Pc D K tys b base sc (Tb.filter mm_isN) Z ws av) := mm_blind hZ hNs
  have hpre := mm_pre (av := av) hZ hNs E h2 h3 h4
  have hlav : av.length = as.length := mm_vs_len h9
  have hlas : as.length = k := by rw [ea, List.length_reverse, List.length_take]; omega
  unfold mm_ckC at hck
  simp only [Bool.and_eq_true] at hck
  obtain ⟨⟨hcw, hml2⟩, hck⟩ := hck
  have hml2 := Nat.le_of_ble_eq_true hml2
  have hcw := mm_hw_ok hcw
  have hgood : GoodIn (Tb.filter goodWord) (mm_ws (Tb.filter goodWord) q2) := mm_good hgd hcw
  obtain ⟨i, fs, as1, rfl, hi⟩ : ∃ (i : Nat) (fs : List Value) (as1 : List Value), as = .ref i :: as1 ∧ h[i]? = some (.inr (z, fs)) := by
    unfold mm_recv at hrc
    split at hrc
    · exact absurd ‹(6 : Nat) = 4› (by decide)
    · exact absurd ‹(6 : Nat) = 5› (by decide)
    · exact absurd ‹(6 : Nat) = 7› (by decide)
    · split at hrc
      · split at hrc
        · rename_i hi
          have e9 := eq_of_beq hrc
          subst e9
          exact ⟨_, _, _, rfl, hi⟩
        · cases hrc
      · cases hrc
  split at hck
  all_goals first | (exact absurd ‹(6 : Nat) = 0› (by decide)) | (exact absurd ‹(6 : Nat) = 1› (by decide)) | (exact absurd ‹(6 : Nat) = 2› (by decide)) | (exact absurd ‹(6 : Nat) = 3› (by decide)) | (exact absurd ‹(6 : Nat) = 4› (by decide)) | (exact absurd ‹(6 : Nat) = 5› (by decide)) | (exact absurd ‹(6 : Nat) = 7› (by decide)) | (cases hck; done) | skip
  · rename_i i0 _
    simp only [Bool.and_eq_true] at hck
    obtain ⟨e1, e2, e3, e4, e5, e6, e7, e8⟩ := hck
    obtain ⟨-, hpl⟩ := mm_plain_ok e1
    obtain ⟨w0, av1, rfl, hw, h9⟩ := h9
    obtain ⟨a0, e0, ha0, rfl⟩ := hw
    obtain ⟨gs, rfl, hgs⟩ := mm_cell h1 hi ha0
    have hcwe : mm_cw q2 = Cond.code q2.2.2.2.1 q2.2.2.2.2.1 q2.2.2.2.2.2.1 q2.2.2.2.2.2.2.1 := by
      unfold mm_cw
      rw [eq_of_beq e7]
    rw [hcwe] at hcw
    obtain ⟨r0, hr0, hr1⟩ : ∃ r0 : vw_C, (mm_cls K)[z]? = some r0 ∧ r0.1 = q2.2.2.2.1.cls := by
      have e9 := eq_of_beq e6
      cases hz : K[z]? with
      | none => rw [hz] at e9; cases e9
      | some r0 =>
        rw [hz] at e9
        exact ⟨(r0.1, r0.2.1, r0.2.2.1), by simp [mm_cls, hz], Option.some.inj e9⟩
    obtain ⟨cellB, hcB, hoB, hclB⟩ := va_recv hKs h2 hr0 ha0
    rw [hr1] at hclB
    intro T hT X0
    have hcode := hts _ hcw
    have hinst := hts _ (mm_hw_ok e3)
    obtain ⟨mk, methM, hnamed, hmethM, hstM, habM⟩ := Cond.instanceMethod_spec hinst
    obtain ⟨methM2, cM, hmethM2, hcM, -, hlM, -, -, -, hsigM⟩ := Cond.code_spec hnamed hcode
    cases hmethM.symm.trans hmethM2
    obtain ⟨c2, r2, m2, q1, q2x, q3, q4, kP, hkP, hkPi⟩ := Cond.selects_spec (hts _ (mm_hw_ok e5))
    cases hclB.symm.trans q1
    cases (State.methodFound?_of_named hnamed ⟨hpl.1, hpl.2.1⟩).symm.trans q2x
    cases hnamed.symm.trans q3
    have hselP : selectMethod e.platform s.vm cellB.cls mk = .method mk := by rw [Launch.admits_selectMethod X0.admits]; exact q4
    have hlen9 : av1.length = methM.sig.parameters.length := by
      have h9 := hpl.2.2
      rw [hsigM] at h9
      have h8 : methM.sig.parameters.length = k - 1 := Option.some.inj h9
      simp at hlav hlas
      omega
    obtain ⟨vm₁, X₁, hstep₁⟩ := X0.invokevirtual hx hown (hts _ (mm_hw_ok e2)) hnamed hmethM hstM hkP hkPi ⟨hpl.1, hpl.2.1⟩ (a := a0) (cell := cellB) (by rw [hT]; exact hcB)
      (fun z h => by rw [h] at hoB; cases hoB) hselP hmethM habM hkP hkPi (g := F0 m pc la sv) rfl (argsL := av1) (rest := rest) hlen9 (by rw [List.reverse_cons, List.append_assoc] at hsv; exact hsv) (by rw [hb]; exact hd)
    have hd2 : decode c.code (F0 m pc la rest).pc = .ok (.invokevirtual i0, 3) := by rw [hb]; exact hd
    have hpre1 : ∀ w ∈ mm_ws (Tb.filter goodWord) q2, w.before (Value.ref a0 :: av1).toArray (T.setVm vm₁) = true := fun w hw => word_at X₁.warmed (hgood w hw).2 (hts w (hgood w hw).1)
    have hk9 : (T.setVm vm₁).methodNamed? q2.2.2.2.1 = some mk := X₁.named hnamed
    obtain ⟨methY, cY, hmY, hcY, -, hlY, -, -, -, -⟩ := Cond.code_spec hk9 (hpre1 _ (by unfold mm_ws; rw [hcwe]; exact List.mem_cons_self))
    obtain ⟨kY, hkY, -⟩ := className_of_methodNamed hk9
    have hiniY : kY.init = .initialized := Cond.initialized_spec (findClass_of_methodNamed hk9) hkY (word_at (a' := (Value.ref a0 :: av1).toArray) X₁.warmed (good_of_word (List.mem_filter.mp (mm_hw_ok e4)).2) (hts _ (mm_hw_ok e4)))
    have happ : (headSpec (mm_ws (Tb.filter goodWord) q2) (mm_rm d q2)).appliesLoose q2.2.2.2.1 e.platform ((T.setVm vm₁).calling (F0 m pc la rest) mk (Value.ref a0 :: av1).toArray) = true :=
      Spec.appliesLoose_calling (g := F0 m pc la rest) X₁.here hd2 hk9 hkY hiniY
        (X₁.room_calling (g := F0 m pc la rest) (R' := (headSpec (mm_ws (Tb.filter goodWord) q2) (mm_rm d q2)).room) (mm_size h5) hmY hcY hR.2.2.1 (by rw [hlY]; show _ + (q2.2.2.2.2.2.1 + 11) + (31 * d + 72) ≤ R.locals; omega) (by rw [hR.1]; exact hk.1) (by rw [hR.2.1]; exact hk.2)) (atoms_intro hpre1)
    obtain ⟨mid, hmid⟩ := X₁.here.above
    have hfr : ((T.setVm vm₁).setTop (F0 m pc la rest)).frames = (.java (F0 m pc la rest) :: mid) ++ below := by rw [State.frames_setTop' _ X₁.here.top, hmid]; rfl
    obtain ⟨o, s₂, hsteps, -, hend, hq⟩ := Steps.callFree hmet p X₁.admits X₁.cas X₁.clock (acts := []) hfr happ (hbl _ _ (F0 m pc la rest) mk (hpre (T.setVm vm₁) hT X₁.warmed)) trivial
    rw [State.frames_setTop' _ X₁.here.top, X₁.tail] at hend
    obtain ⟨⟨L, hWq, hsm, hL⟩, hq⟩ := hq
    have hst₀ : ((T.setVm vm₁).calling (F0 m pc la rest) mk (Value.ref a0 :: av1).toArray).heap = H := hT
    rcases hq with ⟨v, w, h10, ws1, rfl, hq, hv, hh, hex, hP, hD, hF⟩ | ⟨xa, Ee, h10, ws1, ce, rfl, hEl, hq, hh, hex, hP, hD, hF, hce, hcv, hcl9⟩
    · obtain ⟨T2, X2, hW2, hsm2, ht⟩ := X₁.outOf (g := F0 m pc la rest) rfl hd2 hend hWq hsm
      obtain ⟨f1, f2⟩ := hF
      rw [show (State.pushFrame ((T.setVm vm₁).setTop (F0 m pc la rest)) (.invoking mk (Value.ref a0 :: av1).toArray)).heap = H from hT] at f1 f2
      have hhe : T2.heap = s₂.heap := by rw [ht]; rfl
      have hS2 : va_S (fun a => base ≤ a) s.heap s₂.heap (locs ++ L) := ⟨Nat.le_trans h4.1 f1, fun q h1 h2 => by rw [f2 q (Nat.lt_of_lt_of_le h1 h4.1) h2]; exact h4.2.1 q h1 h2, fun q hq => by
        rcases List.mem_append.mp hq with h | h
        · exact h4.2.2 q h
        · exact hL q h⟩
      obtain ⟨t2, a1, b1⟩ := g v h10 hq s₂.heap (locs ++ L) ws1 la (w.toList ++ rest) (hh.re (h1.2.1.tr hex)) hP hD hS2 (h5.ext hex) (mm_vs_app hv (h8r.ext hex)) T2 hhe X2
      refine ⟨t2, hstep₁ _ fun acts => ?_, b1⟩
      rw [doInvoke_state]
      refine Steps.trans hsteps ?_
      rw [ht]
      exact a1
    · obtain ⟨T2, X2, hW2, hsm2, ht⟩ := X₁.outOfThrown (g := F0 m pc la rest) rfl hend hWq hsm
      obtain ⟨f1, f2⟩ := hF
      rw [show (State.pushFrame ((T.setVm vm₁).setTop (F0 m pc la rest)) (.invoking mk (Value.ref a0 :: av1).toArray)).heap = H from hT] at f1 f2
      have hhe : T2.heap = s₂.heap := by rw [ht]; rfl
      have hS2 : va_S (fun a => base ≤ a) s.heap s₂.heap (locs ++ L) := ⟨Nat.le_trans h4.1 f1, fun q h1 h2 => by rw [f2 q (Nat.lt_of_lt_of_le h1 h4.1) h2]; exact h4.2.1 q h1 h2, fun q hq => by
        rcases List.mem_append.mp hq with h | h
        · exact h4.2.2 q h
        · exact hL q h⟩
      have hcl8 : s.vm.findClass (Ex.getD Ee "") = some ce.cls := by
        have h1 : vm₁.findClass (Ex.getD Ee "") = some ce.cls := hcl9
        have h2 := X₁.warmed.alike.findClass (Ex.getD Ee "")
        rw [← h2]
        exact h1
      obtain ⟨t2, a1, b1⟩ := gx Ee h10 hEl hq s₂.heap (locs ++ L) ws1 la rest xa ce (hh.re (h1.2.1.tr hex)) hP hD hS2 (h5.ext hex) hce hcv hcl8 T2 hhe X2
      refine ⟨t2, hstep₁ _ fun acts => ?_, b1⟩
      rw [doInvoke_state]
      refine Steps.trans hsteps ?_
      rw [ht]
      exact a1
end MXD
end
section
/-! how a method ends; caught throws; a call of a method that catches; a method's contract out of its walk -/
theorem mm_cw_spec {q : mM} {m : MethodId} {args : Array Value} {s : State} (hn : s.methodNamed? q.2.2.2.1 = some m) (h : (mm_cw q).before args s = true) :
    ∃ meth c, s.vm.method? m = some meth ∧ meth.code = some c ∧ c.code = q.2.2.2.2.1 ∧ c.maxLocals = q.2.2.2.2.2.1 ∧ meth.sig.returnType = q.2.2.2.2.2.2.1 ∧ meth.locks = false ∧
      c.exceptionTable.toList.map (fun h => (h.startPc, h.endPc, h.handlerPc, h.catchType)) = q.2.2.2.2.2.2.2.1 ∧ parseMethodDescriptor q.2.2.2.1.desc = some meth.sig := by
  unfold mm_cw at h
  split at h
  · rename_i hh
    obtain ⟨meth, c, h1, h2, h3, h4, h5, h6, h7, h8⟩ := Cond.code_spec hn h
    refine ⟨meth, c, h1, h2, h3, h4, h5, h6, ?_, h8⟩
    rw [hh]
    have h9 : c.exceptionTable = #[] := Array.isEmpty_iff.mp h7
    rw [h9]
    rfl
  · obtain ⟨m9, meth, c, hn9, h1, h2, h3, h4, h5, h6, h7, h8⟩ := Cond.codeWith_spec h
    cases hn.symm.trans hn9
    exact ⟨meth, c, h1, h2, h3, h4, h6, h7, h5, h8⟩
/-- what the handlers of a method owe -/
def mx_ckH (Tb : List Cond) (Ex : List String) (q : mM) : Bool :=
  ((q.2.2.2.2.2.2.2.1.map (fun h => h.2.2.2)).zip q.2.2.2.2.2.2.2.2.1).all (fun z => decide (z.1 ≠ 0) && (decide (z.2 < Ex.length) && decide (Cond.classLink q.2.2.2.1.cls z.1 (Ex.getD z.2 "") ∈ Tb.filter goodWord)))
section MXE
variable {p : Program} {l : Launch} {e : Env} {R : Room} {s : State} {m : MethodId} {args : Array Value} {below : List Frame} {meth : Method} {c : Code} {D : va_G} {K : mK} {tys : List (ClassId × FieldType)} {b base : Nat} {w0 : va_W} {Qs : State → Prop} {sc : mS} {Tb : List Cond} {q q2 : mM} {Ex : List String} {Sx : List (String × Nat × String)}
theorem mx_fi {g : JFrame} {cls : ClassId} {hp E pc : Nat} (hpc : g.pc = pc) (hg : g.method = m) : ∀ (t : List ExceptionTableEntry) (ks : List Nat), mm_hd pc E (t.map (fun h => (h.startPc, h.endPc, h.handlerPc, h.catchType))) ks = some hp →
    (∀ z ∈ (t.map (fun h => h.catchType)).zip ks, z.1 ≠ 0 ∧ ∃ k, s.vm.ClassLinks e.platform m.cls z.1 k ∧ s.vm.assignable cls k = decide (z.2 = E)) → mx_Fi e s g cls hp t := by
  intro t
  induction t with
  | nil => intro ks h; cases ks <;> cases h
  | cons x t ih =>
    intro ks h hf
    cases ks with
    | nil => cases h
    | cons k ks =>
      obtain ⟨h0, kk, hl, ha⟩ := hf (x.catchType, k) (by simp)
      have ih2 := fun h => ih ks h (fun z hz => hf z (by
        rw [List.map_cons, List.zip_cons_cons]
        exact List.mem_cons_of_mem _ hz))
      rw [List.map_cons] at h
      unfold mm_hd at h
      by_cases hcov : covers x g.pc = true
      · refine Or.inr ⟨hcov, h0, kk, by rw [hg]; exact hl, ?_⟩
        simp only [covers, Bool.and_eq_true, decide_eq_true_eq, hpc] at hcov
        split at h
        · rename_i hc
          simp only [Bool.and_eq_true] at hc
          have hk : k = E := eq_of_beq hc.2.2
          cases h
          exact Or.inl ⟨by rw [ha]; exact decide_eq_true hk, rfl⟩
        · rename_i hc
          refine Or.inr ⟨?_, ih2 h⟩
          rw [ha]
          refine decide_eq_false (fun hk => hc ?_)
          have hk : k = E := hk
          subst hk
          simp only [Bool.and_eq_true, decide_eq_true_eq, beq_self_eq_true, and_true]
          exact ⟨hcov.1, by rw [Nat.blt_eq]; exact hcov.2⟩
      · refine Or.inl ⟨by simpa using hcov, ih2 ?_⟩
        split at h
        · rename_i hc
          exfalso
          apply hcov
          simp only [Bool.and_eq_true, decide_eq_true_eq] at hc
          simp only [covers, Bool.and_eq_true, decide_eq_true_eq, hpc]
          exact ⟨hc.1, by rw [← Nat.blt_eq]; exact hc.2.1⟩
        · exact h
/-- caught in the method itself -/
theorem mx_catch_ok (X : mm_X D K tys b base sc (Tb.filter goodWord) (Tb.filter mm_isN) (mx_Z base (Tb.filter mx_isC) Ex Sx) p s m args meth c q) (hH : mx_ckH Tb Ex q = true) (hcast : ∀ i, i < Ex.length → Cond.castable (Ex.getD i "") (Ex.getD i "") ∈ Tb.filter mx_isC)
    {pc E hp pc2 i : Nat} {ins : Instr} {ls : mL} {r : List Value} {h : List mE} {kc ks : Nat} (hE : E < Ex.length) (hhd : mm_hd pc E q.2.2.2.2.2.2.2.1 q.2.2.2.2.2.2.2.2.1 = some hp) (hd : decode q.2.2.2.2.1 hp = .ok (ins, mm_len ins)) (hi : i < q.2.2.2.2.2.1)
    (hins : (∃ k : Fin 4, ins = .astore_n k ∧ i = k.val ∧ pc2 = hp + 1) ∨ (ins = .astore i ∧ pc2 = hp + 2))
    (g : mm_G p l e R s m args below meth c D (mm_cls K) tys (fun a => base ≤ a) w0 b Qs (pc2, ls.set i none, [], h, kc, ks)) : mx_G D K tys b base Ex p l e R s m args below meth c w0 Qs E (pc, ls, r, h, kc, ks) := by
  intro H locs ws la sv a ce h1 h2 h3 h4 h5 hce hcv hcl T hT X0
  obtain ⟨hx, hb, hml, hown, hlocks, hret, hname, hext, hts, hK, hXs, hN, hbase, hbb, htys, hZ⟩ := X
  have hpl : e.platform.magicAccessors = ({} : Platform).magicAccessors := by rw [X0.admits.platform]
  have hfi : mx_Fi e s (F0 m pc la sv) ce.cls hp c.exceptionTable.toList := by
    refine mx_fi (E := E) (pc := pc) rfl rfl c.exceptionTable.toList q.2.2.2.2.2.2.2.2.1 (by rw [hext]; exact hhd) (fun z hz => ?_)
    have hz2 : z ∈ (q.2.2.2.2.2.2.2.1.map (fun h => h.2.2.2)).zip q.2.2.2.2.2.2.2.2.1 := by
      rw [← hext, List.map_map]
      exact hz
    have h9 := List.all_eq_true.mp hH z hz2
    simp only [Bool.and_eq_true, decide_eq_true_eq] at h9
    obtain ⟨h0, hlt, hw⟩ := h9
    obtain ⟨k, hk, hlk⟩ := Cond.classLink_spec hown (hts _ hw) e.platform hpl
    refine ⟨h0, k, hlk, ?_⟩
    by_cases hzE : z.2 = E
    · obtain ⟨c3, c4, hc3, hc4, hasg⟩ := Cond.castable_spec (va_Nw.use (A := args) rfl (hZ.2.2.2.2 _ (hcast E hE)))
      rw [decide_eq_true hzE]
      rw [hzE] at hk
      cases hc3.symm.trans hcl
      cases hc4.symm.trans hk
      exact hasg
    · obtain ⟨c3, c4, hc3, hc4, hasg⟩ := hZ.1 E z.2 hE hlt (fun z => hzE z.symm)
      rw [decide_eq_false hzE]
      cases hc3.symm.trans hcl
      cases hc4.symm.trans hk
      exact hasg
  obtain ⟨vm2, X2, st⟩ := mx_caught X0 (g := F0 m pc la sv) rfl (by rw [hT]; exact hce) hcv (by obtain ⟨k9, h9, -⟩ := Vm.findClass_spec hcl; exact ⟨k9, h9⟩) hfi
  have hW : W p l e R s m args below meth c H locs kc ks Qs (F0 m hp la [.ref a]) := by
    obtain ⟨h50, lv, h51, h52⟩ := h5
    rcases hins with ⟨k, rfl, rfl, rfl⟩ | ⟨rfl, rfl⟩
    · exact lv_astore_n hx hb hd rfl h51 (by omega) rfl (fun la2 hl2 => g H locs ws la2 [] h1 h2 h3 h4 (mm_l.drop h50 h52 hl2) rfl)
    · exact lv_astore hx hb hd h51 (by omega) rfl (fun la2 hl2 => g H locs ws la2 [] h1 h2 h3 h4 (mm_l.drop h50 h52 hl2) rfl)
  obtain ⟨t, a1, b1⟩ := hW (T.setVm vm2) hT X2
  exact ⟨t, st t a1, b1⟩
/-- not caught: it leaves the method -/
theorem mx_out_ok (X : mm_X D K tys b base sc (Tb.filter goodWord) (Tb.filter mm_isN) (mx_Z base (Tb.filter mx_isC) Ex Sx) p s m args meth c q) {pc E : Nat} {ls : mL} {r : List Value} {h : List mE} {kc ks : Nat} (hno : q.2.2.2.2.2.2.2.1 = [])
    (hend : ∀ (H : Heap) (locs : List Loc) (ws : va_W) (U : State) (a : Addr) (ce : Cell), mm_h w0 b tys h ws → va_P D (mm_cls K) ws H → va_D (fun a => base ≤ a) ws → va_S (fun a => base ≤ a) s.heap H locs → U.status = .running → Ended U below (.threw a) → s.WarmedH U.vm → s.sameButNew ({ U with vm := s.vm } : State) locs kc ks →
      H.size ≤ U.heap.size → (∀ q : Nat, q < H.size → U.heap[q]? = H[q]?) → U.heap[a]? = some ce → ce.vm = .none → s.vm.findClass (Ex.getD E "") = some ce.cls → Qs U) :
    mx_G D K tys b base Ex p l e R s m args below meth c w0 Qs E (pc, ls, r, h, kc, ks) := by
  intro H locs ws la sv a ce h1 h2 h3 h4 h5 hce hcv hcl T hT X0
  obtain ⟨hx, hb, hml, hown, hlocks, hret, hname, hext, hts, E2⟩ := X
  have hout : ∀ x ∈ c.exceptionTable.toList, covers x pc = false := by
    rw [hno] at hext
    have h9 : c.exceptionTable.toList = [] := List.map_eq_nil_iff.mp hext
    rw [h9]
    exact fun x hx => nomatch hx
  obtain ⟨st1, hrun, hended, hW, hsm⟩ := X0.leaveThrown a (g := F0 m pc la sv) rfl rfl rfl hout hlocks
  refine ⟨_, st1, hend H locs ws _ a ce h1 h2 h3 h4 hrun hended hW hsm (by show H.size ≤ T.heap.size; rw [hT]; exact Nat.le_refl _) (fun q _ => by show T.heap[q]? = H[q]?; rw [hT]) (by show T.heap[a]? = some ce; rw [hT]; exact hce) hcv hcl⟩
/-- a call of a method that catches -/
theorem mm_callW_ok {Z : State → Prop} (hZ : mm_Zc base Z) (X : mm_X D K tys b base sc (Tb.filter goodWord) (Tb.filter mm_isN) Z p s m args meth c q) {d : Nat} (hR : R.cells = q.1 ∧ R.slots = q.2.1 ∧ d + 2 ≤ R.frames ∧ 31 * d + 103 ≤ R.locals)
    {pc len grp x k z : Nat} {ins : Instr} {hs : List Nat} {ls : mL} {st as r : List Value} {h : List mE} {kc ks : Nat} {Q : mR → List mE → Prop}
    (hd : decode q.2.2.2.2.1 pc = .ok (ins, 3)) (hck : mm_ckC Tb K q.2.2.2.1.cls q.2.2.2.2.2.2.2.2.2 q2 ins 7 k z hs = true)
    (hcl : mm_cl (pc, ins, len, grp, 7, x, k, z, hs) (pc, ls, st, h, kc, ks) = some (as, r)) (hk : kc + q2.1 ≤ q.1 ∧ ks + q2.2.1 ≤ q.2.1)
    (hM : ∀ (ws : va_W) (av : List Value), mm_h ws b tys h ws → mm_vs b ws as av → Met l q2.2.2.2.1 (mm_ws (Tb.filter goodWord) q2) (mm_rm d q2) (mm_Pc D K tys b base sc (Tb.filter mm_isN) Z ws av) (mm_Qc D K tys b base ws Q) q2.1 q2.2.1 (fun a => base ≤ a))
    (g : ∀ v h1, Q (.inl v) h1 → mm_G p l e R s m args below meth c D (mm_cls K) tys (fun a => base ≤ a) w0 b Qs (pc + 3, ls, v.toList ++ r, h1, kc + q2.1, ks + q2.2.1)) :
    mm_G p l e R s m args below meth c D (mm_cls K) tys (fun a => base ≤ a) w0 b Qs (pc, ls, st, h, kc, ks) := by
  intro H locs ws la sv h1 h2 h3 h4 h5 h6
  obtain ⟨hx, hb, hml, hown, hlocks, hret, hname, hext, hts, E⟩ := X
  obtain ⟨ea, er, hlen, hc1, hrc, hsum⟩ := mm_cl_ok hcl
  dsimp only at ea er hlen hrc
  obtain ⟨h7, h8⟩ := mm_vs_take k h6
  have h9 := mm_vs_rev h7
  rw [← ea] at h9
  have h8r : mm_vs b ws r (sv.drop k) := by rw [er]; exact h8
  have hsv : sv = ((sv.take k).reverse).reverse ++ sv.drop k := by rw [List.reverse_reverse, List.take_append_drop]
  generalize hav : (sv.take k).reverse = av at h9 hsv
  generalize hre : sv.drop k = rest at h8r hsv
  have hrw : 2 * (F0 m pc la rest).monitorRoom + ((F0 m pc la rest).stack.map fun v => v.category).sum ≤ 8 := lv_room (by rw [show (rest.map fun v => v.category).sum = (rest.map Value.category).sum from rfl, mm_sum h8r]; exact hsum)
  have hmet := hM ws av (h1.re mm_ext.rf) h9
  have hNs : (Tb.filter mm_isN).all mm_isN = true := List.all_eq_true.mpr (fun w hw => (List.mem_filter.mp hw).2)
  have hgd : (Tb.filter goodWord).all goodWord = true := List.all_eq_true.mpr (fun w hw => (List.mem_filter.mp hw).2)
  have hbl : FrameBlind (mm_Pc D K tys b base sc (Tb.filter mm_isN) Z ws av) := mm_blind hZ hNs
  have hpre := mm_pre (av := av) hZ hNs E h2 h3 h4
  have hlav : av.length = as.length := mm_vs_len h9
  have hlas : as.length = k := by rw [ea, List.length_reverse, List.length_take]; omega
  unfold mm_ckC at hck
  simp only [Bool.and_eq_true] at hck
  obtain ⟨⟨hcw, hml2⟩, hck⟩ := hck
  have hml2 := Nat.le_of_ble_eq_true hml2
  have hcw := mm_hw_ok hcw
  have hgood : GoodIn (Tb.filter goodWord) (mm_ws (Tb.filter goodWord) q2) := mm_good hgd hcw
  split at hck
  all_goals first | (exact absurd ‹(7 : Nat) = 0› (by decide)) | (exact absurd ‹(7 : Nat) = 1› (by decide)) | (exact absurd ‹(7 : Nat) = 2› (by decide)) | (exact absurd ‹(7 : Nat) = 3› (by decide)) | (exact absurd ‹(7 : Nat) = 4› (by decide)) | (exact absurd ‹(7 : Nat) = 5› (by decide)) | (exact absurd ‹(7 : Nat) = 6› (by decide)) | (cases hck; done) | skip
  · rename_i i0 _
    simp only [Bool.and_eq_true] at hck
    obtain ⟨e1, e2, e3, e4⟩ := hck
    obtain ⟨-, hpl⟩ := mm_plain_ok e1
    have hini := hts _ (mm_hw_ok e4)
    have hstat := hts _ (mm_hw_ok e3)
    have hws : ∀ w ∈ mm_ws (Tb.filter goodWord) q2, ∀ (a' : Array Value) (U : State), s.WarmedH U.vm → w.before a' U = true := fun w hw a' U hW => word_at hW (hgood w hw).2 (hts w (hgood w hw).1)
    have hiniW : ∀ (a' : Array Value) (U : State), s.WarmedH U.vm → (Cond.initialized q2.2.2.2.1.cls).before a' U = true := fun a' U hW => word_at hW (good_of_word (List.mem_filter.mp (mm_hw_ok e4)).2) hini
    have hK : Back l R p e below s args q2.2.2.2.1 3 8 (PreOf R q2.1 q2.2.1 (mm_Pc D K tys b base sc (Tb.filter mm_isN) Z ws av)) (PostOf (mm_Qc D K tys b base ws Q) q2.1 q2.2.1 (fun a => base ≤ a)) := by
      cases hhh : q2.2.2.2.2.2.2.2.1 with
      | nil => exact back_of (bytes := q2.2.2.2.2.1) (maxL := q2.2.2.2.2.2.1) (ret := q2.2.2.2.2.2.2.1) hmet hbl rfl rfl hR.2.2.1 (by show 8 + (q2.2.2.2.2.2.1 + 11) + (31 * d + 72) ≤ R.locals; omega) hws (by unfold mm_ws mm_cw; rw [hhh]; exact List.mem_cons_self) hiniW
      | cons hh0 hh1 => exact va_backW (hh := hh0 :: hh1) (bytes := q2.2.2.2.2.1) (maxL := q2.2.2.2.2.2.1) (ret := q2.2.2.2.2.2.2.1) hmet hbl rfl rfl hR.2.2.1 (by show 8 + (q2.2.2.2.2.2.1 + 11) + (31 * d + 72) ≤ R.locals; omega) hws (by unfold mm_ws mm_cw; rw [hhh]; exact List.mem_cons_self) hiniW
    refine mm_back (mc := q2.1) (ms := q2.2.1) (rest := rest) (a := av.toArray) ?_ h4 h5 h8r h1.2.1 g
    intro T hT X0
    obtain ⟨mk, hnamed⟩ : ∃ mk, s.methodNamed? q2.2.2.2.1 = some mk := by
      have hc9 := hts _ hcw
      unfold mm_cw at hc9
      split at hc9
      · exact Cond.code_named hc9
      · obtain ⟨m9, -, -, hn9, -⟩ := Cond.codeWith_spec hc9
        exact ⟨m9, hn9⟩
    obtain ⟨methM, cM, hmethM, -, -, -, -, -, -, hsigM⟩ := mm_cw_spec hnamed (hts _ hcw)
    have hstatic : methM.isStatic = true := Cond.static_spec hnamed hmethM hstat
    obtain ⟨kP, hkP, -⟩ := className_of_methodNamed hnamed
    have hinitP : kP.init = .initialized := Cond.initialized_spec (findClass_of_methodNamed hnamed) hkP hini
    have hlen9 : av.length = methM.sig.parameters.length := by
      have h9 := hpl.2.2
      rw [hsigM] at h9
      have h8 : methM.sig.parameters.length = k := Option.some.inj h9
      omega
    obtain ⟨vm₁, X₁, hstep₁⟩ := X0.invokestatic hx hown (hts _ (mm_hw_ok e2)) hnamed hmethM hstatic hkP hinitP ⟨hpl.1, hpl.2.1⟩ (g := F0 m pc la sv) rfl (argsL := av) (rest := rest) hlen9 hsv (by rw [hb]; exact hd)
    obtain ⟨v, B, X', ⟨g', mk', t, L, e1, e2, hq, e3, hL, e4, e5⟩, hsteps⟩ := hK m meth c ⟨T.setVm vm₁, locs, kc, ks⟩ (F0 m pc la rest) (.invokestatic i0) mk av.toArray X₁ rfl (mm_size h5) (by rw [hb]; exact hd) hrw (X₁.named hnamed) ⟨by rw [hR.1]; exact hk.1, by rw [hR.2.1]; exact hk.2, hpre (T.setVm vm₁) hT X₁.warmed⟩
    obtain ⟨U2, l2, c2, s2⟩ := B
    dsimp only [Pt.U, Pt.locs, Pt.cells, Pt.slots] at X' e1 e2 hq e3 e4 e5 hsteps
    subst e3
    subst e4
    subst e5
    exact ⟨v, (T.setVm vm₁).calling g' mk' av.toArray, t, U2, L, hT, X', hL, e1, e2, hq, fun target ht => hstep₁ _ fun acts => by rw [doInvoke_state]; exact hsteps.trans ht⟩
end MXE
end
section
/-! the small machine told whole: what it proves of a method, the machine does -/
def mm_ckB (Tb : List Cond) (Ex : List String) (Sx : List (String × Nat × String)) (K : mK) (P : List mM) (q : mM) (b : mB) : Bool := match b with
  | (pc, ins, len, grp, kd, x, y, z, hs) => decide (decode q.2.2.2.2.1 pc = .ok (ins, len)) && (match grp with
    | 0 => (kd == 17 || len == mm_len ins) && mm_ckP Tb K q.2.2.2.1 q.2.2.2.2.2.2.2.2.2 pc ins kd x y z hs
    | 1 => (match ins with
      | .ifCond _ off => len == 3 && decide ((pc : Int) + off = (x : Int))
      | .if_icmp _ off => len == 3 && decide ((pc : Int) + off = (x : Int))
      | _ => false)
    | 2 => len == 3 && (match P[x]? with
      | some q2 => mm_ckC Tb K q.2.2.2.1.cls q.2.2.2.2.2.2.2.2.2 q2 ins kd y z hs
      | none => false)
    | 3 => len == 1
    | 4 => mx_ckT Tb Ex Sx q.2.2.2.2.1 q.2.2.2.1.cls pc ins x y z hs && decide (x < Ex.length)
    | _ => false)
def mm_ckM (Tb : List Cond) (Ex : List String) (Sx : List (String × Nat × String)) (K : mK) (P : List mM) (q : mM) : Bool :=
  q.2.2.1.all (mm_ckB Tb Ex Sx K P q) && (mx_ckH Tb Ex q && (plainName q.2.2.2.1.cls && q.2.2.2.2.2.2.2.1.all (fun h => match q.2.2.1.find? (fun b => b.1 == h.2.2.1) with
    | some b => b.2.2.2.1 == 0 && (b.2.2.2.2.1 == 2 && (match mm_hs b with
      | some (_, i) => decide (i < q.2.2.2.2.2.1)
      | none => false))
    | none => false)))
theorem mm_hd_mem {pc E hp : Nat} : ∀ {hs : List (Nat × Nat × Nat × Nat)} {ks : List Nat}, mm_hd pc E hs ks = some hp → ∃ h ∈ hs, h.2.2.1 = hp
  | [], _, h => by cases h
  | _ :: _, [], h => by cases h
  | x :: hs, k :: ks, h => by
    obtain ⟨s0, s1, h0, ct⟩ := x
    unfold mm_hd at h
    split at h
    · cases h
      exact ⟨_, List.mem_cons_self, rfl⟩
    · obtain ⟨z, hz, he⟩ := mm_hd_mem h
      exact ⟨z, List.mem_cons_of_mem _ hz, he⟩
theorem mm_W_mono {p : Program} {l : Launch} {e : Env} {R : Room} {s : State} {m : MethodId} {args : Array Value} {below : List Frame} {meth : Method} {c : Code} {H : Heap} {locs : List Loc} {cells slots : Nat} {Q Q2 : State → Prop} {g : JFrame} (h : ∀ t, Q t → Q2 t) (k : W p l e R s m args below meth c H locs cells slots Q g) : W p l e R s m args below meth c H locs cells slots Q2 g := by
  intro T hT X
  obtain ⟨t, a1, b1⟩ := k T hT X
  exact ⟨t, a1, h t b1⟩
section MMZ
variable (l : Launch) (D : va_G) (K : mK) (tys : List (ClassId × FieldType)) (b base : Nat) (sc : mS) (Tb : List Cond) (P : List mM) (Ex : List String) (Sx : List (String × Nat × String))
/-- n steps of the small machine are the machine's -/
def mm_Sd (n : Nat) : Prop := ∀ (d M : Nat) (c0 : mC) (Q : mR → List mE → Prop) (q : mM), P[M]? = some q → mm_wp sc K P n d M c0 Q →
  ∀ (p : Program) (e : Env) (R : Room) (s : State) (m : MethodId) (args : Array Value) (below : List Frame) (meth : Method) (c : Code) (w0 : va_W) (Qs : State → Prop),
  mm_X D K tys b base sc (Tb.filter goodWord) (Tb.filter mm_isN) (mx_Z base (Tb.filter mx_isC) Ex Sx) p s m args meth c q → (R.cells = q.1 ∧ R.slots = q.2.1 ∧ d + 1 ≤ R.frames ∧ 31 * d + 72 ≤ R.locals) →
  (∀ (pc : Nat) (ins : Instr) (ls : mL) (st : List Value) (h : List mE) (kc ks : Nat) (ps : List Prop) (v : Option Value), decode q.2.2.2.2.1 pc = .ok (ins, 1) → mm_ret ins q.2.2.2.2.2.2.1 st = some (ps, v) → mm_all ps → Q (.inl v) h → kc ≤ q.1 → ks ≤ q.2.1 →
    mm_G p l e R s m args below meth c D (mm_cls K) tys (fun a => base ≤ a) w0 b Qs (pc, ls, st, h, kc, ks)) →
  (∀ (E : Nat) (h : List mE) (kc ks : Nat), E < Ex.length → Q (.inr E) h → kc ≤ q.1 → ks ≤ q.2.1 → ∀ (H : Heap) (locs : List Loc) (ws : va_W) (U : State) (a : Addr) (ce : Cell), mm_h w0 b tys h ws → va_P D (mm_cls K) ws H → va_D (fun a => base ≤ a) ws → va_S (fun a => base ≤ a) s.heap H locs → U.status = .running → Ended U below (.threw a) → s.WarmedH U.vm → s.sameButNew ({ U with vm := s.vm } : State) locs kc ks →
      H.size ≤ U.heap.size → (∀ q : Nat, q < H.size → U.heap[q]? = H[q]?) → U.heap[a]? = some ce → ce.vm = .none → s.vm.findClass (Ex.getD E "") = some ce.cls → Qs U) →
  mm_G p l e R s m args below meth c D (mm_cls K) tys (fun a => base ≤ a) w0 b Qs c0
end MMZ
section MMY
variable {l : Launch} {D : va_G} {K : mK} {tys : List (ClassId × FieldType)} {b base : Nat} {sc : mS} {Tb : List Cond} {P : List mM} {Ex : List String} {Sx : List (String × Nat × String)}
/-- a method's contract -/
theorem mx_met {n d M : Nat} {q : mM} {as : List Value} {h : List mE} {Q : mR → List mE → Prop} (hS : mm_Sd l D K tys b base sc Tb P Ex Sx n) (hq : P[M]? = some q) (hck : mm_ckM Tb Ex Sx K P q = true) (hwp : mm_wp sc K P n d M (0, mm_en q.2.2.2.2.2.1 as, [], h, 0, 0) Q) (hc1 : as.all mm_c1 = true) (hlen : as.length ≤ q.2.2.2.2.2.1)
    (ws : va_W) (av : List Value) (h1 : mm_h ws b tys h ws) (h9 : mm_vs b ws as av) :
    MetFree l q.2.2.2.1 (headSpec (mm_ws (Tb.filter goodWord) q) (mm_rm d q)) (mm_Pc D K tys b base sc (Tb.filter mm_isN) (mx_Z base (Tb.filter mx_isC) Ex Sx) ws av) (fun _ _ _ _ _ => True) (mx_Qc D K tys b base Ex ws Q q.1 q.2.1) := by
  unfold mm_ckM at hck
  simp only [Bool.and_eq_true] at hck
  obtain ⟨-, -, hpn, -⟩ := hck
  refine MetFree.of_bodyS (code := q.2.2.2.2.1) (maxLocals := q.2.2.2.2.2.1) (ret := q.2.2.2.2.2.2.1) hpn ?_ ?_
  · intro args s m h hn
    obtain ⟨meth, c, g1, g2, g3, g4, g5, g6, -, -⟩ := mm_cw_spec hn (atoms_spec (ws := mm_ws (Tb.filter goodWord) q) h _ List.mem_cons_self)
    exact ⟨meth, c, g1, g2, g3, g4, g5, g6⟩
  · intro p e s m args below meth c s₁ B hml hP _
    obtain ⟨rfl, hPw, hDw, hEn⟩ := hP
    have hts0 : ∀ w ∈ mm_ws (Tb.filter goodWord) q, w.before av.toArray s = true := atoms_spec (ws := mm_ws (Tb.filter goodWord) q) B.pre
    have hts : ∀ w ∈ Tb.filter goodWord, w.before av.toArray s = true := fun w hw => hts0 w (List.mem_cons_of_mem _ hw)
    have hh0 : s₁.heap = s.heap := by rw [B.state]; rfl
    have hSt := Stand.of_body B
    obtain ⟨meth2, c2, g1, g2, g3, g4, g5, g6, g7, g8⟩ := mm_cw_spec B.named (hts0 _ List.mem_cons_self)
    cases B.method.symm.trans g1
    cases hSt.code.symm.trans g2
    have hX : mm_X D K tys b base sc (Tb.filter goodWord) (Tb.filter mm_isN) (mx_Z base (Tb.filter mx_isC) Ex Sx) p s m av.toArray meth c q := ⟨B.exec, B.bytes, hml, findClass_of_methodNamed B.named, B.notSynchronized, B.returns, (name_of_methodNamed B.named B.method).1, g7, hts, hEn⟩
    have hS0 : va_S (fun a => base ≤ a) s.heap s.heap [] := va_S.rf
    have hW := hS d M _ Q q hq hwp p e (headSpec (mm_ws (Tb.filter goodWord) q) (mm_rm d q)).room s m av.toArray below meth c ws (fun t => ∃ o, t.status = .running ∧ Ended t below o ∧ mx_Qc D K tys b base Ex ws Q q.1 q.2.1 av.toArray s o t) hX ⟨rfl, rfl, Nat.le_refl _, Nat.le_refl _⟩ ?_ ?_
      s.heap [] ws _ [] h1 hPw hDw hS0 (by rw [hml]; exact mm_entry h9 hc1 hlen) rfl
    · rw [lg_entry_eq]
      obtain ⟨t, a1, o, b1, b2, b3⟩ := hW s₁ hh0 hSt
      exact ⟨t, o, a1, b1, b2, b3⟩
    · intro pc ins ls st h0 kc ks ps v hd hret hps hQ hkc hks H locs ws1 la sv k1 k2 k3 k4 k5 k6
      have fin : ∀ (w : Option Value), mm_vs b ws1 v.toList w.toList → ∀ t : State, t.heap = H → s.WarmedH t.vm → mm_Qc D K tys b base ws Q av.toArray s (.returned w) t := fun w hw t ht hWm => ⟨v, w, h0, ws1, rfl, hQ, hw, k1, k1.2.1, by rw [ht]; exact k2, k3, ⟨by rw [ht]; exact k4.1, fun z hz1 hz2 => by rw [ht]; exact k4.2.1 z hz1 hz2⟩⟩
      have conv : ∀ t, MQ below (mm_Qc D K tys b base ws Q) av.toArray s q.1 q.2.1 (fun a => base ≤ a) t → ∃ o, t.status = .running ∧ Ended t below o ∧ mx_Qc D K tys b base Ex ws Q q.1 q.2.1 av.toArray s o t := by
        intro t ht
        obtain ⟨o, c1, c2, c3, L, ⟨-, c4, c5⟩, c6⟩ := ht
        exact ⟨o, c1, c2, ⟨L, c4, c5, c6⟩, Or.inl c3⟩
      refine W.widen hkc hks (mm_W_mono conv ?_)
      have hr := hX.2.2.2.2.2.1
      have hlk := hX.2.2.2.2.1
      unfold mm_ret at hret
      split at hret
      · rename_i hrt
        cases hret
        rw [hrt] at hr
        obtain ⟨w0, w1, rfl, hw, k6⟩ := k6
        cases hw
        cases k6
        exact W.iret B.exec B.bytes hr (fin _ ⟨_, _, rfl, rfl, rfl⟩) k4.2.2 hd hlk
      · rename_i hrt
        cases hret
        rw [hrt] at hr
        obtain ⟨w0, w1, rfl, hw, k6⟩ := k6
        cases hw
        cases k6
        refine W.zret B.exec B.bytes hr ?_ (fin _ ⟨_, _, rfl, rfl, rfl⟩) k4.2.2 hd hlk
        rcases hps.1 with rfl | rfl <;> decide
      · rename_i hrt
        cases hret
        rw [hrt] at hr
        cases k6
        exact W.vret B.exec B.bytes hr (fin none rfl) k4.2.2 hd hlk
      · cases hret
    · intro E h0 kc ks hEl hQ hkc hks H locs ws1 U a ce k1 k2 k3 k4 u1 u2 u3 u4 u5 u6 u7 u8 u9
      refine ⟨.threw a, u1, u2, ⟨locs, u3, u4.mono hkc hks, k4.2.2⟩, Or.inr ⟨a, E, h0, ws1, ce, rfl, hEl, hQ, k1, k1.2.1, ?_, k3, ?_, u7, u8, u9⟩⟩
      · exact va_P.kept k2 (fun i z hz => u6 z.1 (va_at.lt (k2 i z hz)))
      · exact ⟨Nat.le_trans k4.1 u5, fun z hz1 hz2 => by rw [u6 z (Nat.lt_of_lt_of_le hz1 k4.1)]; exact k4.2.1 z hz1 hz2⟩
end MMY
end
section
/-! every step of the small machine is the machine's -/
theorem mm_at_ok {P : List mM} {M pc : Nat} {q : mM} {b : mB} (h : mm_at P M pc = some (q, b)) : P[M]? = some q ∧ b ∈ q.2.2.1 ∧ b.1 = pc ∧ q.2.2.1.find? (fun b => b.1 == pc) = some b := by
  unfold mm_at at h
  split at h
  · rename_i q1 hq
    split at h
    · rename_i b1 hb
      cases h
      exact ⟨hq, List.mem_of_find?_eq_some hb, eq_of_beq (List.find?_some (p := fun b : mB => b.1 == pc) hb), hb⟩
    · cases h
  · cases h
section MMV
variable {l : Launch} {D : va_G} {K : mK} {tys : List (ClassId × FieldType)} {b base : Nat} {sc : mS} {Tb : List Cond} {P : List mM} {Ex : List String} {Sx : List (String × Nat × String)}
theorem mm_met {y : MethodName} {S : Spec} {Pc : Array Value → State → Prop} {ws : va_W} {Q : mR → List mE → Prop} {mc ms : Nat} (h : MetFree l y S Pc (fun _ _ _ _ _ => True) (mx_Qc D K tys b base Ex ws Q mc ms)) (hno : ∀ E h, ¬ Q (.inr E) h) :
    MetFree l y S Pc (fun _ _ _ _ _ => True) (fun a st o t => mm_Qc D K tys b base ws Q a st o t ∧ ∃ L, FrameEnd st o t L mc ms ∧ ∀ q ∈ L, base ≤ q.base) := by
  intro p e ha hc hk s m args below hf happ hP hK
  obtain ⟨n, o, h1, h2, h3, ⟨L, h4, h5, h6⟩, h7⟩ := h p e ha hc hk s m args below hf happ hP hK
  rcases h7 with h7 | ⟨x, E, h1, ws1, ce, -, -, hQ, -⟩
  · obtain ⟨v, w, h8, ws1, h9, h10⟩ := id h7
    exact ⟨n, o, h1, h2, h3, h7, L, ⟨⟨w, h9⟩, h4, h5⟩, h6⟩
  · exact absurd hQ (hno E _)
set_option maxHeartbeats 4000000 in
theorem mm_sound (hKK : K.all (mm_ckK (Tb.filter goodWord)) = true) (harr : ∀ ty ∈ ([.int, .boolean, .long] : List FieldType), Cond.arrayClass ty ∈ Tb.filter goodWord) (hP : ∀ q ∈ P, mm_ckM Tb Ex Sx K P q = true) (hcast : ∀ i, i < Ex.length → Cond.castable (Ex.getD i "") (Ex.getD i "") ∈ Tb.filter mx_isC) (hl : l.stackTraces = false) :
    ∀ n, mm_Sd l D K tys b base sc Tb P Ex Sx n := by
  intro n
  induction n with
  | zero => intro d M c0 Q q hq hwp; exact hwp.elim
  | succ n ih =>
    intro d M c0 Q q hq hwp p e R s m args below meth c w0 Qs X hR hret hthr
    have hCx : (Tb.filter mx_isC).all mx_isC = true := List.all_eq_true.mpr (fun w hw => (List.mem_filter.mp hw).2)
    unfold mm_wp at hwp
    split at hwp
    · exact hwp.elim
    · rename_i q1 b1 hat
      obtain ⟨hq1, hb1, hpc, -⟩ := mm_at_ok hat
      cases hq.symm.trans hq1
      have hckM := hP q (List.mem_of_getElem? hq)
      unfold mm_ckM at hckM
      simp only [Bool.and_eq_true] at hckM
      obtain ⟨hrows, hH, hpn, hHr⟩ := hckM
      have hck := List.all_eq_true.mp hrows b1 hb1
      obtain ⟨pc, ins, len, grp, kd, x, y, z, hs⟩ := b1
      obtain ⟨pc2, ls, st, h, kc, ks⟩ := c0
      dsimp only at hpc hwp
      subst hpc
      unfold mm_ckB at hck
      dsimp only at hck
      rw [Bool.and_eq_true, decide_eq_true_eq] at hck
      obtain ⟨hd, hck⟩ := hck
      have hR1 : q.1 ≤ R.cells ∧ q.2.1 ≤ R.slots ∧ 1 ≤ R.frames ∧ 64 ≤ R.locals := ⟨by omega, by omega, by omega, by omega⟩
      split at hwp
      · split at hwp
        · rename_i ps c1 hop
          simp only [Bool.and_eq_true, Bool.or_eq_true] at hck
          have hln : kd = 17 ∨ len = mm_len ins := by
            rcases hck.1 with h9 | h9
            · exact Or.inl (eq_of_beq h9)
            · exact Or.inr (eq_of_beq h9)
          exact mm_op_ok X hKK harr hR1 hd hln hck.2 hop hwp.1 (ih d M c1 Q q hq hwp.2 p e R s m args below meth c w0 Qs X hR hret hthr)
        · exact hwp.elim
      · split at hwp
        · rename_i pp c1 c2 hbr
          unfold mm_br at hbr
          dsimp only at hbr
          split at hbr
          · cases hbr
            simp only [Bool.and_eq_true, decide_eq_true_eq] at hck
            have hl3 := eq_of_beq hck.1
            subst hl3
            exact mm_if_ok X.1 X.2.1 hd rfl rfl hck.2 (fun z => ih d M _ Q q hq (hwp.1 z) p e R s m args below meth c w0 Qs X hR hret hthr) (fun z => ih d M _ Q q hq (hwp.2 z) p e R s m args below meth c w0 Qs X hR hret hthr)
          · cases hbr
            simp only [Bool.and_eq_true, decide_eq_true_eq] at hck
            have hl3 := eq_of_beq hck.1
            subst hl3
            exact mm_icmp_ok X.1 X.2.1 hd rfl rfl hck.2 (fun z => ih d M _ Q q hq (hwp.1 z) p e R s m args below meth c w0 Qs X hR hret hthr) (fun z => ih d M _ Q q hq (hwp.2 z) p e R s m args below meth c w0 Qs X hR hret hthr)
          · cases hbr
        · exact hwp.elim
      · split at hwp
        · rename_i d2 as r q2 hcl hq2
          simp only [Bool.and_eq_true] at hck
          have hl3 := eq_of_beq hck.1
          subst hl3
          have hck := hck.2
          rw [hq2] at hck
          dsimp only at hck
          obtain ⟨⟨hk1, hk2, hk3⟩, hwp⟩ := hwp
          obtain ⟨-, -, -, hc1, -, -⟩ := mm_cl_ok hcl
          have hmet := fun ws av h1 h9 => mx_met (M := x) (l := l) (D := D) (tys := tys) (b := b) (base := base) (Tb := Tb) (Ex := Ex) (Sx := Sx) ih hq2 (hP q2 (List.mem_of_getElem? hq2)) hwp hc1 hk3 ws av h1 h9
          have hR2 : R.cells = q.1 ∧ R.slots = q.2.1 ∧ d2 + 2 ≤ R.frames ∧ 31 * d2 + 103 ≤ R.locals := ⟨hR.1, hR.2.1, by omega, by omega⟩
          have hgo : ∀ (v : Option Value) (h1 : List mE), mm_wp sc K P n (d2 + 1) M (pc + 3, ls, v.toList ++ r, h1, kc + q2.1, ks + q2.2.1) Q → mm_G p l e R s m args below meth c D (mm_cls K) tys (fun a => base ≤ a) w0 b Qs (pc + 3, ls, v.toList ++ r, h1, kc + q2.1, ks + q2.2.1) := fun v h1 hw => ih (d2 + 1) M _ Q q hq hw p e R s m args below meth c w0 Qs X hR hret hthr
          by_cases h6 : kd = 6
          · subst h6
            refine mx_call_ok (mx_Zc hCx) X hR2 hd hck hcl ⟨hk1, hk2⟩ hmet (fun v h1 hw => hgo v h1 hw) (fun E h1 hE hw => ?_)
            obtain ⟨-, hw⟩ := hw
            split at hw
            · rename_i hp hhd
              split at hw
              · rename_i pc3 i hbd
                cases hz : mm_at P M hp with
                | none => rw [hz] at hbd; cases hbd
                | some zz =>
                  rw [hz] at hbd
                  obtain ⟨q3, b3⟩ := zz
                  obtain ⟨hq3, hb3, hpc3, hfd⟩ := mm_at_ok hz
                  cases hq.symm.trans hq3
                  have hhs : mm_hs b3 = some (pc3, i) := hbd
                  obtain ⟨hh, hhm, hhe⟩ := mm_hd_mem hhd
                  have h7 := List.all_eq_true.mp hHr hh hhm
                  rw [hhe, hfd] at h7
                  simp only [hhs] at h7
                  simp only [Bool.and_eq_true, decide_eq_true_eq] at h7
                  obtain ⟨g0, g2, hi⟩ := h7
                  have hck3 := List.all_eq_true.mp hrows b3 hb3
                  obtain ⟨pc4, ins4, len4, grp4, kd4, x4, y4, z4, hs4⟩ := b3
                  dsimp only at hpc3 g0 g2
                  have g0 := eq_of_beq g0
                  have g2 := eq_of_beq g2
                  subst hpc3
                  subst g0
                  subst g2
                  unfold mm_ckB at hck3
                  dsimp only at hck3
                  simp only [Bool.and_eq_true, decide_eq_true_eq, Bool.or_eq_true] at hck3
                  obtain ⟨hd4, hl4, -⟩ := hck3
                  have hl4 : len4 = mm_len ins4 := by
                    rcases hl4 with h9 | h9
                    · exact absurd (eq_of_beq h9) (by decide)
                    · exact eq_of_beq h9
                  rw [hl4] at hd4
                  refine mx_catch_ok X hH hcast hE hhd hd4 hi ?_ (ih (d2 + 1) M _ Q q hq hw p e R s m args below meth c w0 Qs X hR hret hthr)
                  unfold mm_hs at hhs
                  split at hhs
                  · rename_i pc5 k5 _ he
                    cases he
                    cases hhs
                    exact Or.inl ⟨_, rfl, rfl, rfl⟩
                  · rename_i pc5 i5 _ he
                    cases he
                    cases hhs
                    exact Or.inr ⟨rfl, rfl⟩
                  · cases hhs
              · exact hw.elim
            · exact mx_out_ok X hw.1 (hthr E h1 _ _ hE hw.2 hk1 hk2)
          · have hno : ∀ E h, ¬ (fun (res : mR) (h' : List mE) => match res with
              | .inl v => mm_wp sc K P n (d2 + 1) M (pc + 3, ls, v.toList ++ r, h', kc + q2.1, ks + q2.2.1) Q
              | .inr E => kd = 6 ∧ (match mm_hd pc E q.2.2.2.2.2.2.2.1 q.2.2.2.2.2.2.2.2.1 with
                | some hp => (match (mm_at P M hp).bind (fun z => mm_hs z.2) with
                  | some (pc', i) => mm_wp sc K P n (d2 + 1) M (pc', ls.set i none, [], h', kc + q2.1, ks + q2.2.1) Q
                  | none => False)
                | none => q.2.2.2.2.2.2.2.1 = [] ∧ Q (.inr E) h')) (.inr E) h := fun E h hz => h6 hz.1
            have hmet2 := fun ws av h1 h9 => mm_met (hmet ws av h1 h9) hno
            by_cases h7 : kd = 7
            · subst h7
              exact mm_callW_ok (mx_Zc hCx) X hR2 hd hck hcl ⟨hk1, hk2⟩ hmet2 (fun v h1 hw => hgo v h1 hw)
            · exact mm_call_ok (mx_Zc hCx) X hR2 hd hck ⟨h6, h7⟩ hcl ⟨hk1, hk2⟩ hmet2 (fun v h1 hw => hgo v h1 hw)
        · exact hwp.elim
      · split at hwp
        · rename_i ps v hr
          have hl1 := eq_of_beq hck
          subst hl1
          exact hret pc ins ls st h kc ks ps v hd hr hwp.2.1 hwp.2.2 hwp.1.1 hwp.1.2
        · exact hwp.elim
      · simp only [Bool.and_eq_true, decide_eq_true_eq] at hck
        obtain ⟨⟨hd5, hk1, hk2, hno, hst⟩, hQ⟩ := hwp
        exact mx_site_ok X hl ⟨by omega, by omega, by omega, by omega⟩ hck.1 hno ⟨hk1, hk2⟩ hst (hthr x h _ _ hck.2 hQ hk1 hk2)
      · exact hwp.elim
end MMV
end
section
-- ===== PART A: goes FIRST, ahead of the names: the tables' words, and 'selects' of the private methods out of them =====
/-- a private method of a class that the tables say can be made, by its rows of tables_1 -/
def lw_okq (q : MethodName × Nat) : Prop := (q.1.cls ≠ "java/lang/invoke/MethodHandle" ∧ q.1.cls ≠ "java/lang/invoke/VarHandle") ∧ Cond.instantiable q.1.cls q.2 ∈ tables_1 ∧ Cond.privateMethod q.1 ∈ tables_1 ∧ Cond.instanceMethod q.1 ∈ tables_1
theorem lw_p0 : lw_okq (⟨"SlabPatterns", "forgetAll", "()V"⟩, 7) := ⟨⟨by decide +kernel, by decide +kernel⟩, List.mem_of_getElem? (i := 17) (by decide +kernel), List.mem_of_getElem? (i := 208) (by decide +kernel), List.mem_of_getElem? (i := 209) (by decide +kernel)⟩
theorem lw_p1 : lw_okq (⟨"SlabPatterns$Slab", "reset", "()V"⟩, 10) := ⟨⟨by decide +kernel, by decide +kernel⟩, List.mem_of_getElem? (i := 25) (by decide +kernel), List.mem_of_getElem? (i := 212) (by decide +kernel), List.mem_of_getElem? (i := 213) (by decide +kernel)⟩
theorem lw_p2 : lw_okq (⟨"SlabPatterns", "forgetPattern", "()V"⟩, 7) := ⟨⟨by decide +kernel, by decide +kernel⟩, List.mem_of_getElem? (i := 17) (by decide +kernel), List.mem_of_getElem? (i := 216) (by decide +kernel), List.mem_of_getElem? (i := 217) (by decide +kernel)⟩
theorem lw_p3 : lw_okq (⟨"java/lang/Throwable", "fillInStackTrace", "(I)Ljava/lang/Throwable;"⟩, 6) := ⟨⟨by decide +kernel, by decide +kernel⟩, List.mem_of_getElem? (i := 296) (by decide +kernel), List.mem_of_getElem? (i := 294) (by decide +kernel), List.mem_of_getElem? (i := 295) (by decide +kernel)⟩
theorem lw_p4 : lw_okq (⟨"SlabPatterns$Wanted", "isFull", "()Z"⟩, 7) := ⟨⟨by decide +kernel, by decide +kernel⟩, List.mem_of_getElem? (i := 75) (by decide +kernel), List.mem_of_getElem? (i := 336) (by decide +kernel), List.mem_of_getElem? (i := 337) (by decide +kernel)⟩
theorem lw_p5 : lw_okq (⟨"SlabPatterns$Wanted", "add", "(IIIII)I"⟩, 7) := ⟨⟨by decide +kernel, by decide +kernel⟩, List.mem_of_getElem? (i := 75) (by decide +kernel), List.mem_of_getElem? (i := 357) (by decide +kernel), List.mem_of_getElem? (i := 358) (by decide +kernel)⟩
theorem lw_p6 : lw_okq (⟨"SlabPatterns$Wanted", "has", "(I)Z"⟩, 7) := ⟨⟨by decide +kernel, by decide +kernel⟩, List.mem_of_getElem? (i := 75) (by decide +kernel), List.mem_of_getElem? (i := 370) (by decide +kernel), List.mem_of_getElem? (i := 371) (by decide +kernel)⟩
theorem lw_p7 : lw_okq (⟨"SlabPatterns$Slab", "addBar", "(II)I"⟩, 10) := ⟨⟨by decide +kernel, by decide +kernel⟩, List.mem_of_getElem? (i := 25) (by decide +kernel), List.mem_of_getElem? (i := 407) (by decide +kernel), List.mem_of_getElem? (i := 408) (by decide +kernel)⟩
theorem lw_p8 : lw_okq (⟨"SlabPatterns$Kinds", "list", "(LSlabPatterns$Slab;LSlabPatterns$Wanted;)V"⟩, 7) := ⟨⟨by decide +kernel, by decide +kernel⟩, List.mem_of_getElem? (i := 108) (by decide +kernel), List.mem_of_getElem? (i := 422) (by decide +kernel), List.mem_of_getElem? (i := 423) (by decide +kernel)⟩
theorem lw_p9 : lw_okq (⟨"SlabPatterns$Wanted", "manyOf", "(I)I"⟩, 7) := ⟨⟨by decide +kernel, by decide +kernel⟩, List.mem_of_getElem? (i := 75) (by decide +kernel), List.mem_of_getElem? (i := 426) (by decide +kernel), List.mem_of_getElem? (i := 427) (by decide +kernel)⟩
theorem lw_p10 : lw_okq (⟨"SlabPatterns$Kinds", "add", "(LSlabPatterns$Slab;LSlabPatterns$Wanted;IZ)V"⟩, 7) := ⟨⟨by decide +kernel, by decide +kernel⟩, List.mem_of_getElem? (i := 108) (by decide +kernel), List.mem_of_getElem? (i := 432) (by decide +kernel), List.mem_of_getElem? (i := 433) (by decide +kernel)⟩
theorem lw_p11 : lw_okq (⟨"SlabPatterns$Wanted", "acrossOf", "(IZ)I"⟩, 7) := ⟨⟨by decide +kernel, by decide +kernel⟩, List.mem_of_getElem? (i := 75) (by decide +kernel), List.mem_of_getElem? (i := 436) (by decide +kernel), List.mem_of_getElem? (i := 437) (by decide +kernel)⟩
theorem lw_p12 : lw_okq (⟨"SlabPatterns$Slab", "mostAcross", "(I)I"⟩, 10) := ⟨⟨by decide +kernel, by decide +kernel⟩, List.mem_of_getElem? (i := 25) (by decide +kernel), List.mem_of_getElem? (i := 440) (by decide +kernel), List.mem_of_getElem? (i := 441) (by decide +kernel)⟩
theorem lw_p13 : lw_okq (⟨"SlabPatterns$Wanted", "lengthOf", "(IZ)I"⟩, 7) := ⟨⟨by decide +kernel, by decide +kernel⟩, List.mem_of_getElem? (i := 75) (by decide +kernel), List.mem_of_getElem? (i := 448) (by decide +kernel), List.mem_of_getElem? (i := 449) (by decide +kernel)⟩
theorem lw_p14 : lw_okq (⟨"SlabPatterns$Search", "explore", "(LSlabPatterns$Slab;LSlabPatterns$Kinds;LSlabPatterns$Strips;I)Z"⟩, 6) := ⟨⟨by decide +kernel, by decide +kernel⟩, List.mem_of_getElem? (i := 143) (by decide +kernel), List.mem_of_getElem? (i := 452) (by decide +kernel), List.mem_of_getElem? (i := 453) (by decide +kernel)⟩
theorem lw_p15 : lw_okq (⟨"SlabPatterns$Search", "start", "(LSlabPatterns$Slab;LSlabPatterns$Kinds;LSlabPatterns$Strips;)V"⟩, 6) := ⟨⟨by decide +kernel, by decide +kernel⟩, List.mem_of_getElem? (i := 143) (by decide +kernel), List.mem_of_getElem? (i := 456) (by decide +kernel), List.mem_of_getElem? (i := 457) (by decide +kernel)⟩
def lw_privs_1 : List (MethodName × Nat) := [(⟨"SlabPatterns", "forgetAll", "()V"⟩, 7), (⟨"SlabPatterns$Slab", "reset", "()V"⟩, 10), (⟨"SlabPatterns", "forgetPattern", "()V"⟩, 7), (⟨"java/lang/Throwable", "fillInStackTrace", "(I)Ljava/lang/Throwable;"⟩, 6), (⟨"SlabPatterns$Wanted", "isFull", "()Z"⟩, 7), (⟨"SlabPatterns$Wanted", "add", "(IIIII)I"⟩, 7), (⟨"SlabPatterns$Wanted", "has", "(I)Z"⟩, 7), (⟨"SlabPatterns$Slab", "addBar", "(II)I"⟩, 10), (⟨"SlabPatterns$Kinds", "list", "(LSlabPatterns$Slab;LSlabPatterns$Wanted;)V"⟩, 7), (⟨"SlabPatterns$Wanted", "manyOf", "(I)I"⟩, 7), (⟨"SlabPatterns$Kinds", "add", "(LSlabPatterns$Slab;LSlabPatterns$Wanted;IZ)V"⟩, 7), (⟨"SlabPatterns$Wanted", "acrossOf", "(IZ)I"⟩, 7), (⟨"SlabPatterns$Slab", "mostAcross", "(I)I"⟩, 10), (⟨"SlabPatterns$Wanted", "lengthOf", "(IZ)I"⟩, 7), (⟨"SlabPatterns$Search", "explore", "(LSlabPatterns$Slab;LSlabPatterns$Kinds;LSlabPatterns$Strips;I)Z"⟩, 6), (⟨"SlabPatterns$Search", "start", "(LSlabPatterns$Slab;LSlabPatterns$Kinds;LSlabPatterns$Strips;)V"⟩, 6)]
theorem lw_r1 : ∀ q ∈ lw_privs_1, lw_okq q := List.forall_mem_cons.mpr ⟨lw_p0, List.forall_mem_cons.mpr ⟨lw_p1, List.forall_mem_cons.mpr ⟨lw_p2, List.forall_mem_cons.mpr ⟨lw_p3, List.forall_mem_cons.mpr ⟨lw_p4, List.forall_mem_cons.mpr ⟨lw_p5, List.forall_mem_cons.mpr ⟨lw_p6, List.forall_mem_cons.mpr ⟨lw_p7, List.forall_mem_cons.mpr ⟨lw_p8, List.forall_mem_cons.mpr ⟨lw_p9, List.forall_mem_cons.mpr ⟨lw_p10, List.forall_mem_cons.mpr ⟨lw_p11, List.forall_mem_cons.mpr ⟨lw_p12, List.forall_mem_cons.mpr ⟨lw_p13, List.forall_mem_cons.mpr ⟨lw_p14, List.forall_mem_cons.mpr ⟨lw_p15, fun _ h => absurd h List.not_mem_nil⟩⟩⟩⟩⟩⟩⟩⟩⟩⟩⟩⟩⟩⟩⟩⟩
theorem lw_p16 : lw_okq (⟨"SlabPatterns$Search", "findKind", "(LSlabPatterns$Slab;LSlabPatterns$Kinds;)I"⟩, 6) := ⟨⟨by decide +kernel, by decide +kernel⟩, List.mem_of_getElem? (i := 143) (by decide +kernel), List.mem_of_getElem? (i := 460) (by decide +kernel), List.mem_of_getElem? (i := 461) (by decide +kernel)⟩
theorem lw_p17 : lw_okq (⟨"SlabPatterns$Slab", "isBarred", "(I)Z"⟩, 10) := ⟨⟨by decide +kernel, by decide +kernel⟩, List.mem_of_getElem? (i := 25) (by decide +kernel), List.mem_of_getElem? (i := 465) (by decide +kernel), List.mem_of_getElem? (i := 466) (by decide +kernel)⟩
theorem lw_p18 : lw_okq (⟨"SlabPatterns$Slab", "lastEnd", "()I"⟩, 10) := ⟨⟨by decide +kernel, by decide +kernel⟩, List.mem_of_getElem? (i := 25) (by decide +kernel), List.mem_of_getElem? (i := 469) (by decide +kernel), List.mem_of_getElem? (i := 470) (by decide +kernel)⟩
theorem lw_p19 : lw_okq (⟨"SlabPatterns$Search", "leftOf", "(I)I"⟩, 6) := ⟨⟨by decide +kernel, by decide +kernel⟩, List.mem_of_getElem? (i := 143) (by decide +kernel), List.mem_of_getElem? (i := 473) (by decide +kernel), List.mem_of_getElem? (i := 474) (by decide +kernel)⟩
theorem lw_p20 : lw_okq (⟨"SlabPatterns$Search", "lift", "()V"⟩, 6) := ⟨⟨by decide +kernel, by decide +kernel⟩, List.mem_of_getElem? (i := 143) (by decide +kernel), List.mem_of_getElem? (i := 477) (by decide +kernel), List.mem_of_getElem? (i := 478) (by decide +kernel)⟩
theorem lw_p21 : lw_okq (⟨"SlabPatterns$Search", "use", "(II)V"⟩, 6) := ⟨⟨by decide +kernel, by decide +kernel⟩, List.mem_of_getElem? (i := 143) (by decide +kernel), List.mem_of_getElem? (i := 481) (by decide +kernel), List.mem_of_getElem? (i := 482) (by decide +kernel)⟩
theorem lw_p22 : lw_okq (⟨"SlabPatterns$Search", "lay", "(ILSlabPatterns$Slab;LSlabPatterns$Kinds;)V"⟩, 6) := ⟨⟨by decide +kernel, by decide +kernel⟩, List.mem_of_getElem? (i := 143) (by decide +kernel), List.mem_of_getElem? (i := 485) (by decide +kernel), List.mem_of_getElem? (i := 486) (by decide +kernel)⟩
theorem lw_p23 : lw_okq (⟨"SlabPatterns$Kinds", "has", "(I)Z"⟩, 7) := ⟨⟨by decide +kernel, by decide +kernel⟩, List.mem_of_getElem? (i := 108) (by decide +kernel), List.mem_of_getElem? (i := 489) (by decide +kernel), List.mem_of_getElem? (i := 490) (by decide +kernel)⟩
theorem lw_p24 : lw_okq (⟨"SlabPatterns$Search", "keepIfBetter", "(LSlabPatterns$Strips;)V"⟩, 6) := ⟨⟨by decide +kernel, by decide +kernel⟩, List.mem_of_getElem? (i := 143) (by decide +kernel), List.mem_of_getElem? (i := 494) (by decide +kernel), List.mem_of_getElem? (i := 495) (by decide +kernel)⟩
theorem lw_p25 : lw_okq (⟨"SlabPatterns$Strips", "copyFrom", "(LSlabPatterns$Strips;)V"⟩, 6) := ⟨⟨by decide +kernel, by decide +kernel⟩, List.mem_of_getElem? (i := 149) (by decide +kernel), List.mem_of_getElem? (i := 498) (by decide +kernel), List.mem_of_getElem? (i := 499) (by decide +kernel)⟩
theorem lw_p26 : lw_okq (⟨"SlabPatterns$Strips", "stretch", "(LSlabPatterns$Slab;LSlabPatterns$Wanted;)V"⟩, 6) := ⟨⟨by decide +kernel, by decide +kernel⟩, List.mem_of_getElem? (i := 149) (by decide +kernel), List.mem_of_getElem? (i := 504) (by decide +kernel), List.mem_of_getElem? (i := 505) (by decide +kernel)⟩
theorem lw_p27 : lw_okq (⟨"SlabPatterns$Wanted", "longestOf", "(IZ)I"⟩, 7) := ⟨⟨by decide +kernel, by decide +kernel⟩, List.mem_of_getElem? (i := 75) (by decide +kernel), List.mem_of_getElem? (i := 508) (by decide +kernel), List.mem_of_getElem? (i := 509) (by decide +kernel)⟩
theorem lw_p28 : lw_okq (⟨"SlabPatterns$Strips", "growthOf", "(IILSlabPatterns$Slab;)I"⟩, 6) := ⟨⟨by decide +kernel, by decide +kernel⟩, List.mem_of_getElem? (i := 149) (by decide +kernel), List.mem_of_getElem? (i := 512) (by decide +kernel), List.mem_of_getElem? (i := 513) (by decide +kernel)⟩
theorem lw_p29 : lw_okq (⟨"SlabPatterns$Strips", "endOf", "(I)I"⟩, 6) := ⟨⟨by decide +kernel, by decide +kernel⟩, List.mem_of_getElem? (i := 149) (by decide +kernel), List.mem_of_getElem? (i := 517) (by decide +kernel), List.mem_of_getElem? (i := 518) (by decide +kernel)⟩
theorem lw_p30 : lw_okq (⟨"SlabPatterns$Strips", "has", "(I)Z"⟩, 6) := ⟨⟨by decide +kernel, by decide +kernel⟩, List.mem_of_getElem? (i := 149) (by decide +kernel), List.mem_of_getElem? (i := 521) (by decide +kernel), List.mem_of_getElem? (i := 522) (by decide +kernel)⟩
theorem lw_p31 : lw_okq (⟨"SlabPatterns$Strips", "mayGrow", "(IILSlabPatterns$Slab;)Z"⟩, 6) := ⟨⟨by decide +kernel, by decide +kernel⟩, List.mem_of_getElem? (i := 149) (by decide +kernel), List.mem_of_getElem? (i := 525) (by decide +kernel), List.mem_of_getElem? (i := 526) (by decide +kernel)⟩
def lw_privs_2 : List (MethodName × Nat) := [(⟨"SlabPatterns$Search", "findKind", "(LSlabPatterns$Slab;LSlabPatterns$Kinds;)I"⟩, 6), (⟨"SlabPatterns$Slab", "isBarred", "(I)Z"⟩, 10), (⟨"SlabPatterns$Slab", "lastEnd", "()I"⟩, 10), (⟨"SlabPatterns$Search", "leftOf", "(I)I"⟩, 6), (⟨"SlabPatterns$Search", "lift", "()V"⟩, 6), (⟨"SlabPatterns$Search", "use", "(II)V"⟩, 6), (⟨"SlabPatterns$Search", "lay", "(ILSlabPatterns$Slab;LSlabPatterns$Kinds;)V"⟩, 6), (⟨"SlabPatterns$Kinds", "has", "(I)Z"⟩, 7), (⟨"SlabPatterns$Search", "keepIfBetter", "(LSlabPatterns$Strips;)V"⟩, 6), (⟨"SlabPatterns$Strips", "copyFrom", "(LSlabPatterns$Strips;)V"⟩, 6), (⟨"SlabPatterns$Strips", "stretch", "(LSlabPatterns$Slab;LSlabPatterns$Wanted;)V"⟩, 6), (⟨"SlabPatterns$Wanted", "longestOf", "(IZ)I"⟩, 7), (⟨"SlabPatterns$Strips", "growthOf", "(IILSlabPatterns$Slab;)I"⟩, 6), (⟨"SlabPatterns$Strips", "endOf", "(I)I"⟩, 6), (⟨"SlabPatterns$Strips", "has", "(I)Z"⟩, 6), (⟨"SlabPatterns$Strips", "mayGrow", "(IILSlabPatterns$Slab;)Z"⟩, 6)]
theorem lw_r2 : ∀ q ∈ lw_privs_2, lw_okq q := List.forall_mem_cons.mpr ⟨lw_p16, List.forall_mem_cons.mpr ⟨lw_p17, List.forall_mem_cons.mpr ⟨lw_p18, List.forall_mem_cons.mpr ⟨lw_p19, List.forall_mem_cons.mpr ⟨lw_p20, List.forall_mem_cons.mpr ⟨lw_p21, List.forall_mem_cons.mpr ⟨lw_p22, List.forall_mem_cons.mpr ⟨lw_p23, List.forall_mem_cons.mpr ⟨lw_p24, List.forall_mem_cons.mpr ⟨lw_p25, List.forall_mem_cons.mpr ⟨lw_p26, List.forall_mem_cons.mpr ⟨lw_p27, List.forall_mem_cons.mpr ⟨lw_p28, List.forall_mem_cons.mpr ⟨lw_p29, List.forall_mem_cons.mpr ⟨lw_p30, List.forall_mem_cons.mpr ⟨lw_p31, fun _ h => absurd h List.not_mem_nil⟩⟩⟩⟩⟩⟩⟩⟩⟩⟩⟩⟩⟩⟩⟩⟩
theorem lw_p32 : lw_okq (⟨"SlabPatterns$Strips", "moveBehind", "(II)V"⟩, 6) := ⟨⟨by decide +kernel, by decide +kernel⟩, List.mem_of_getElem? (i := 149) (by decide +kernel), List.mem_of_getElem? (i := 530) (by decide +kernel), List.mem_of_getElem? (i := 531) (by decide +kernel)⟩
theorem lw_p33 : lw_okq (⟨"SlabPatterns", "requirePattern", "()V"⟩, 7) := ⟨⟨by decide +kernel, by decide +kernel⟩, List.mem_of_getElem? (i := 17) (by decide +kernel), List.mem_of_getElem? (i := 542) (by decide +kernel), List.mem_of_getElem? (i := 543) (by decide +kernel)⟩
theorem lw_p34 : lw_okq (⟨"SlabPatterns$Strips", "copiesOf", "(II)I"⟩, 6) := ⟨⟨by decide +kernel, by decide +kernel⟩, List.mem_of_getElem? (i := 149) (by decide +kernel), List.mem_of_getElem? (i := 586) (by decide +kernel), List.mem_of_getElem? (i := 587) (by decide +kernel)⟩
theorem lw_p35 : lw_okq (⟨"SlabPatterns", "restLength", "()I"⟩, 7) := ⟨⟨by decide +kernel, by decide +kernel⟩, List.mem_of_getElem? (i := 17) (by decide +kernel), List.mem_of_getElem? (i := 597) (by decide +kernel), List.mem_of_getElem? (i := 598) (by decide +kernel)⟩
theorem lw_p36 : lw_okq (⟨"SlabPatterns$Strips", "isRight", "(ILSlabPatterns$Slab;LSlabPatterns$Wanted;)Z"⟩, 6) := ⟨⟨by decide +kernel, by decide +kernel⟩, List.mem_of_getElem? (i := 149) (by decide +kernel), List.mem_of_getElem? (i := 611) (by decide +kernel), List.mem_of_getElem? (i := 612) (by decide +kernel)⟩
theorem lw_p37 : lw_okq (⟨"SlabPatternsModel", "goes", "(ZZZ)Z"⟩, 30) := ⟨⟨by decide +kernel, by decide +kernel⟩, List.mem_of_getElem? (i := 619) (by decide +kernel), List.mem_of_getElem? (i := 730) (by decide +kernel), List.mem_of_getElem? (i := 731) (by decide +kernel)⟩
theorem lw_p38 : lw_okq (⟨"SlabPatternsModel", "isPiece", "(I)Z"⟩, 30) := ⟨⟨by decide +kernel, by decide +kernel⟩, List.mem_of_getElem? (i := 619) (by decide +kernel), List.mem_of_getElem? (i := 743) (by decide +kernel), List.mem_of_getElem? (i := 744) (by decide +kernel)⟩
theorem lw_p39 : lw_okq (⟨"SlabPatternsModel", "fits", "(II)Z"⟩, 30) := ⟨⟨by decide +kernel, by decide +kernel⟩, List.mem_of_getElem? (i := 619) (by decide +kernel), List.mem_of_getElem? (i := 759) (by decide +kernel), List.mem_of_getElem? (i := 760) (by decide +kernel)⟩
theorem lw_p40 : lw_okq (⟨"SlabPatternsModel", "lengthOf", "(I)I"⟩, 30) := ⟨⟨by decide +kernel, by decide +kernel⟩, List.mem_of_getElem? (i := 619) (by decide +kernel), List.mem_of_getElem? (i := 763) (by decide +kernel), List.mem_of_getElem? (i := 764) (by decide +kernel)⟩
theorem lw_p41 : lw_okq (⟨"SlabPatternsModel", "isBarred", "(I)Z"⟩, 30) := ⟨⟨by decide +kernel, by decide +kernel⟩, List.mem_of_getElem? (i := 619) (by decide +kernel), List.mem_of_getElem? (i := 767) (by decide +kernel), List.mem_of_getElem? (i := 768) (by decide +kernel)⟩
theorem lw_p42 : lw_okq (⟨"SlabPatternsModel", "hold", "(II)I"⟩, 30) := ⟨⟨by decide +kernel, by decide +kernel⟩, List.mem_of_getElem? (i := 619) (by decide +kernel), List.mem_of_getElem? (i := 771) (by decide +kernel), List.mem_of_getElem? (i := 772) (by decide +kernel)⟩
theorem lw_p43 : lw_okq (⟨"SlabPatternsModel", "acrossOf", "(I)I"⟩, 30) := ⟨⟨by decide +kernel, by decide +kernel⟩, List.mem_of_getElem? (i := 619) (by decide +kernel), List.mem_of_getElem? (i := 775) (by decide +kernel), List.mem_of_getElem? (i := 776) (by decide +kernel)⟩
theorem lw_p44 : lw_okq (⟨"SlabPatternsModel", "keeps", "(I)V"⟩, 30) := ⟨⟨by decide +kernel, by decide +kernel⟩, List.mem_of_getElem? (i := 619) (by decide +kernel), List.mem_of_getElem? (i := 779) (by decide +kernel), List.mem_of_getElem? (i := 780) (by decide +kernel)⟩
theorem lw_p45 : lw_okq (⟨"SlabPatternsModel", "stretch", "()V"⟩, 30) := ⟨⟨by decide +kernel, by decide +kernel⟩, List.mem_of_getElem? (i := 619) (by decide +kernel), List.mem_of_getElem? (i := 783) (by decide +kernel), List.mem_of_getElem? (i := 784) (by decide +kernel)⟩
theorem lw_p46 : lw_okq (⟨"SlabPatternsModel", "stands", "(II)Z"⟩, 30) := ⟨⟨by decide +kernel, by decide +kernel⟩, List.mem_of_getElem? (i := 619) (by decide +kernel), List.mem_of_getElem? (i := 787) (by decide +kernel), List.mem_of_getElem? (i := 788) (by decide +kernel)⟩
def lw_privs_3 : List (MethodName × Nat) := [(⟨"SlabPatterns$Strips", "moveBehind", "(II)V"⟩, 6), (⟨"SlabPatterns", "requirePattern", "()V"⟩, 7), (⟨"SlabPatterns$Strips", "copiesOf", "(II)I"⟩, 6), (⟨"SlabPatterns", "restLength", "()I"⟩, 7), (⟨"SlabPatterns$Strips", "isRight", "(ILSlabPatterns$Slab;LSlabPatterns$Wanted;)Z"⟩, 6), (⟨"SlabPatternsModel", "goes", "(ZZZ)Z"⟩, 30), (⟨"SlabPatternsModel", "isPiece", "(I)Z"⟩, 30), (⟨"SlabPatternsModel", "fits", "(II)Z"⟩, 30), (⟨"SlabPatternsModel", "lengthOf", "(I)I"⟩, 30), (⟨"SlabPatternsModel", "isBarred", "(I)Z"⟩, 30), (⟨"SlabPatternsModel", "hold", "(II)I"⟩, 30), (⟨"SlabPatternsModel", "acrossOf", "(I)I"⟩, 30), (⟨"SlabPatternsModel", "keeps", "(I)V"⟩, 30), (⟨"SlabPatternsModel", "stretch", "()V"⟩, 30), (⟨"SlabPatternsModel", "stands", "(II)Z"⟩, 30)]
theorem lw_r3 : ∀ q ∈ lw_privs_3, lw_okq q := List.forall_mem_cons.mpr ⟨lw_p32, List.forall_mem_cons.mpr ⟨lw_p33, List.forall_mem_cons.mpr ⟨lw_p34, List.forall_mem_cons.mpr ⟨lw_p35, List.forall_mem_cons.mpr ⟨lw_p36, List.forall_mem_cons.mpr ⟨lw_p37, List.forall_mem_cons.mpr ⟨lw_p38, List.forall_mem_cons.mpr ⟨lw_p39, List.forall_mem_cons.mpr ⟨lw_p40, List.forall_mem_cons.mpr ⟨lw_p41, List.forall_mem_cons.mpr ⟨lw_p42, List.forall_mem_cons.mpr ⟨lw_p43, List.forall_mem_cons.mpr ⟨lw_p44, List.forall_mem_cons.mpr ⟨lw_p45, List.forall_mem_cons.mpr ⟨lw_p46, fun _ h => absurd h List.not_mem_nil⟩⟩⟩⟩⟩⟩⟩⟩⟩⟩⟩⟩⟩⟩⟩
def lw_privs : List (MethodName × Nat) := lw_privs_1 ++ (lw_privs_2 ++ (lw_privs_3))
def lw_tbl : List Cond := k2_sels lw_privs ++ tables_1
theorem lw_privs_ok : ∀ q ∈ lw_privs, lw_okq q := by
  show ∀ q ∈ lw_privs_1 ++ (lw_privs_2 ++ (lw_privs_3)), lw_okq q
  exact List.forall_mem_append.mpr ⟨lw_r1, List.forall_mem_append.mpr ⟨lw_r2, lw_r3⟩⟩
end
section
/-! the table of the code, written by wip/whole/gentab.py out of the Statement: classes, methods, where their words stand in lw_tbl -/
def mT0 : u_T := fun k => match k with
  | 0 => ("SlabPatterns", "slab", "LSlabPatterns$Slab;", true)
  | 1 => ("SlabPatterns", "wanted", "LSlabPatterns$Wanted;", true)
  | 2 => ("SlabPatterns", "kinds", "LSlabPatterns$Kinds;", true)
  | 3 => ("SlabPatterns", "search", "LSlabPatterns$Search;", true)
  | 4 => ("SlabPatterns", "pattern", "LSlabPatterns$Strips;", true)
  | 5 => ("SlabPatterns", "hasPattern", "Z", false)
  | _ => ("SlabPatterns", "wasProved", "Z", false)
def mT1 : u_T := fun k => match k with
  | 0 => ("SlabPatterns$Slab", "length", "I", false)
  | 1 => ("SlabPatterns$Slab", "width", "I", false)
  | 2 => ("SlabPatterns$Slab", "kerf", "I", false)
  | 3 => ("SlabPatterns$Slab", "stages", "I", false)
  | 4 => ("SlabPatterns$Slab", "knives", "I", false)
  | 5 => ("SlabPatterns$Slab", "frontTrim", "I", false)
  | 6 => ("SlabPatterns$Slab", "endTrim", "I", false)
  | 7 => ("SlabPatterns$Slab", "least", "I", false)
  | 8 => ("SlabPatterns$Slab", "bars", "I", false)
  | _ => ("SlabPatterns$Slab", "barred", "[Z", true)
def mT2 : u_T := fun k => match k with
  | 0 => ("SlabPatterns$Wanted", "count", "I", false)
  | 1 => ("SlabPatterns$Wanted", "low", "[I", true)
  | 2 => ("SlabPatterns$Wanted", "high", "[I", true)
  | 3 => ("SlabPatterns$Wanted", "across", "[I", true)
  | 4 => ("SlabPatterns$Wanted", "worth", "[I", true)
  | 5 => ("SlabPatterns$Wanted", "many", "[I", true)
  | _ => ("SlabPatterns$Wanted", "mayTurn", "[Z", true)
def mT3 : u_T := fun k => match k with
  | 0 => ("SlabPatterns$Kinds", "count", "I", false)
  | 1 => ("SlabPatterns$Kinds", "piece", "[I", true)
  | 2 => ("SlabPatterns$Kinds", "turned", "[Z", true)
  | 3 => ("SlabPatterns$Kinds", "length", "[I", true)
  | 4 => ("SlabPatterns$Kinds", "most", "[I", true)
  | 5 => ("SlabPatterns$Kinds", "worth", "[I", true)
  | _ => ("SlabPatterns$Kinds", "many", "[I", true)
def mT4 : u_T := fun k => match k with
  | 0 => ("SlabPatterns$Search", "bestWorth", "I", false)
  | 1 => ("SlabPatterns$Search", "trial", "LSlabPatterns$Strips;", true)
  | 2 => ("SlabPatterns$Search", "left", "[I", true)
  | 3 => ("SlabPatterns$Search", "nextKind", "[I", true)
  | 4 => ("SlabPatterns$Search", "nextBegin", "[I", true)
  | _ => ("SlabPatterns$Search", "worthLaid", "[I", true)
def mT5 : u_T := fun k => match k with
  | 0 => ("SlabPatterns$Strips", "count", "I", false)
  | 1 => ("SlabPatterns$Strips", "piece", "[I", true)
  | 2 => ("SlabPatterns$Strips", "turned", "[Z", true)
  | 3 => ("SlabPatterns$Strips", "begin", "[I", true)
  | 4 => ("SlabPatterns$Strips", "length", "[I", true)
  | _ => ("SlabPatterns$Strips", "copiesAcross", "[I", true)
def mT6 : u_T := fun k => match k with
  | 0 => ("SlabPatternsModel", "thrown", "I", false)
  | 1 => ("SlabPatternsModel", "length", "I", false)
  | 2 => ("SlabPatternsModel", "width", "I", false)
  | 3 => ("SlabPatternsModel", "kerf", "I", false)
  | 4 => ("SlabPatternsModel", "front", "I", false)
  | 5 => ("SlabPatternsModel", "back", "I", false)
  | 6 => ("SlabPatternsModel", "stages", "I", false)
  | 7 => ("SlabPatternsModel", "knives", "I", false)
  | 8 => ("SlabPatternsModel", "least", "I", false)
  | 9 => ("SlabPatternsModel", "pieces", "I", false)
  | 10 => ("SlabPatternsModel", "low", "[I", true)
  | 11 => ("SlabPatternsModel", "high", "[I", true)
  | 12 => ("SlabPatternsModel", "across", "[I", true)
  | 13 => ("SlabPatternsModel", "worth", "[I", true)
  | 14 => ("SlabPatternsModel", "many", "[I", true)
  | 15 => ("SlabPatternsModel", "may", "[Z", true)
  | 16 => ("SlabPatternsModel", "bars", "I", false)
  | 17 => ("SlabPatternsModel", "barFrom", "[I", true)
  | 18 => ("SlabPatternsModel", "barTo", "[I", true)
  | 19 => ("SlabPatternsModel", "choice", "[I", true)
  | 20 => ("SlabPatternsModel", "place", "[I", true)
  | 21 => ("SlabPatternsModel", "copies", "[I", true)
  | 22 => ("SlabPatternsModel", "left", "[I", true)
  | 23 => ("SlabPatternsModel", "found", "Z", false)
  | 24 => ("SlabPatternsModel", "proved", "Z", false)
  | 25 => ("SlabPatternsModel", "strips", "I", false)
  | 26 => ("SlabPatternsModel", "best", "[I", true)
  | 27 => ("SlabPatternsModel", "begins", "[I", true)
  | 28 => ("SlabPatternsModel", "long0", "[I", true)
  | _ => ("SlabPatternsModel", "bestCopies", "[I", true)
def mmK : mK := [("SlabPatterns", mT0, 7, [.object "SlabPatterns$Slab", .object "SlabPatterns$Wanted", .object "SlabPatterns$Kinds", .object "SlabPatterns$Search", .object "SlabPatterns$Strips", .boolean, .boolean]),
  ("SlabPatterns$Slab", mT1, 10, [.int, .int, .int, .int, .int, .int, .int, .int, .int, .array .boolean]),
  ("SlabPatterns$Wanted", mT2, 7, [.int, .array .int, .array .int, .array .int, .array .int, .array .int, .array .boolean]),
  ("SlabPatterns$Kinds", mT3, 7, [.int, .array .int, .array .boolean, .array .int, .array .int, .array .int, .array .int]),
  ("SlabPatterns$Search", mT4, 6, [.int, .object "SlabPatterns$Strips", .array .int, .array .int, .array .int, .array .int]),
  ("SlabPatterns$Strips", mT5, 6, [.int, .array .int, .array .boolean, .array .int, .array .int, .array .int]),
  ("SlabPatternsModel", mT6, 30, [.int, .int, .int, .int, .int, .int, .int, .int, .int, .int, .array .int, .array .int, .array .int, .array .int, .array .int, .array .boolean, .int, .array .int, .array .int, .array .int, .array .int, .array .int, .array .int, .boolean, .boolean, .int, .array .int, .array .int, .array .int, .array .int])]
def mmEx : List String := ["java/lang/IllegalArgumentException", "java/lang/IllegalStateException", "java/lang/IndexOutOfBoundsException", "java/lang/UnsupportedOperationException"]
def mmSx : List (String × Nat × String) := [("SlabPatterns", 53, "no such plate"), ("SlabPatterns", 72, "no such piece can be wanted"), ("SlabPatterns", 80, "no room for one more piece"), ("SlabPatterns", 93, "no such piece"), ("SlabPatterns", 100, "no such rules"), ("SlabPatterns", 117, "no such stretch"), ("SlabPatterns", 122, "no room for one more bar"), ("SlabPatterns", 128, "no such number of nodes"), ("SlabPatterns", 190, "there is no pattern"), ("SlabPatterns", 157, "no such what"), ("SlabPatterns", 160, "no such strip")]
/-- SlabPatternsLaw.law([I)Z -/
def mc0_0 : List mB := [(0, .new 8, 3, 0, 11, 0, 0, 0, [63, 64, 48]),
  (3, .dup, 1, 0, 5, 0, 0, 0, []),
  (4, .invokespecial 61, 3, 2, 0, 1, 1, 0, [67, 65, 66, 48]),
  (7, .astore_n 1, 1, 0, 2, 0, 0, 0, []),
  (8, .new 62, 3, 0, 11, 6, 0, 0, [665, 666, 54]),
  (11, .dup, 1, 0, 5, 0, 0, 0, []),
  (12, .invokespecial 64, 3, 2, 0, 57, 1, 6, [669, 667, 668, 54]),
  (15, .astore_n 2, 1, 0, 2, 0, 0, 0, []),
  (16, .iconst 1, 1, 0, 0, 0, 0, 0, []),
  (17, .newarray .long, 2, 0, 12, 0, 0, 0, []),
  (19, .astore_n 3, 1, 0, 2, 0, 0, 0, []),
  (20, .iconst 0, 1, 0, 0, 0, 0, 0, []),
  (21, .istore 4, 2, 0, 2, 0, 0, 0, []),
  (23, .iload 4, 2, 0, 1, 0, 0, 0, []),
  (25, .aload_n 0, 1, 0, 1, 0, 0, 0, []),
  (26, .arraylength, 1, 0, 10, 0, 0, 0, []),
  (27, .bipush 6, 2, 0, 0, 0, 0, 0, []),
  (29, .isub, 1, 0, 3, 0, 0, 0, []),
  (30, .if_icmp .gt 850, 3, 1, 0, 880, 0, 0, []),
  (33, .aload_n 0, 1, 0, 1, 0, 0, 0, []),
  (34, .iload 4, 2, 0, 1, 0, 0, 0, []),
  (36, .iaload, 1, 0, 8, 0, 0, 0, []),
  (37, .bipush 15, 2, 0, 0, 0, 0, 0, []),
  (39, .iand, 1, 0, 3, 0, 0, 0, []),
  (40, .tableswitch 834 0 12 #[68, 128, 232, 296, 380, 448, 504, 555, 599, 667, 723, 779, 823], 68, 0, 17, 0, 0, 0, []),
  (108, .aload_n 1, 1, 0, 1, 0, 0, 0, []),
  (109, .aload_n 0, 1, 0, 1, 0, 0, 0, []),
  (110, .iload 4, 2, 0, 1, 0, 0, 0, []),
  (112, .iconst 1, 1, 0, 0, 0, 0, 0, []),
  (113, .iadd, 1, 0, 3, 0, 0, 0, []),
  (114, .iaload, 1, 0, 8, 0, 0, 0, []),
  (115, .aload_n 0, 1, 0, 1, 0, 0, 0, []),
  (116, .iload 4, 2, 0, 1, 0, 0, 0, []),
  (118, .iconst 2, 1, 0, 0, 0, 0, 0, []),
  (119, .iadd, 1, 0, 3, 0, 0, 0, []),
  (120, .iaload, 1, 0, 8, 0, 0, 0, []),
  (121, .aload_n 0, 1, 0, 1, 0, 0, 0, []),
  (122, .iload 4, 2, 0, 1, 0, 0, 0, []),
  (124, .iconst 3, 1, 0, 0, 0, 0, 0, []),
  (125, .iadd, 1, 0, 3, 0, 0, 0, [])]
def mc0_1 : List mB := [(126, .iaload, 1, 0, 8, 0, 0, 0, []),
  (127, .invokestatic 65, 3, 2, 7, 84, 4, 0, [294, 292, 293, 47]),
  (130, .istore 5, 2, 0, 2, 0, 0, 0, []),
  (132, .aload_n 2, 1, 0, 1, 0, 0, 0, []),
  (133, .aload_n 0, 1, 0, 1, 0, 0, 0, []),
  (134, .iload 4, 2, 0, 1, 0, 0, 0, []),
  (136, .iconst 1, 1, 0, 0, 0, 0, 0, []),
  (137, .iadd, 1, 0, 3, 0, 0, 0, []),
  (138, .iaload, 1, 0, 8, 0, 0, 0, []),
  (139, .aload_n 0, 1, 0, 1, 0, 0, 0, []),
  (140, .iload 4, 2, 0, 1, 0, 0, 0, []),
  (142, .iconst 2, 1, 0, 0, 0, 0, 0, []),
  (143, .iadd, 1, 0, 3, 0, 0, 0, []),
  (144, .iaload, 1, 0, 8, 0, 0, 0, []),
  (145, .aload_n 0, 1, 0, 1, 0, 0, 0, []),
  (146, .iload 4, 2, 0, 1, 0, 0, 0, []),
  (148, .iconst 3, 1, 0, 0, 0, 0, 0, []),
  (149, .iadd, 1, 0, 3, 0, 0, 0, []),
  (150, .iaload, 1, 0, 8, 0, 0, 0, []),
  (151, .invokevirtual 70, 3, 2, 2, 59, 4, 6, [769, 766, 767, 54, 768]),
  (154, .aload_n 2, 1, 0, 1, 0, 0, 0, []),
  (155, .invokevirtual 71, 3, 2, 2, 58, 1, 6, [765, 762, 763, 54, 764]),
  (158, .iload 5, 2, 0, 1, 0, 0, 0, []),
  (160, .if_icmp .eq 5, 3, 1, 0, 165, 0, 0, []),
  (163, .iconst 0, 1, 0, 0, 0, 0, 0, []),
  (164, .ireturn, 1, 3, 0, 0, 0, 0, []),
  (165, .goto 709, 3, 0, 16, 874, 0, 0, []),
  (168, .aload_n 1, 1, 0, 1, 0, 0, 0, []),
  (169, .aload_n 0, 1, 0, 1, 0, 0, 0, []),
  (170, .iload 4, 2, 0, 1, 0, 0, 0, []),
  (172, .iconst 1, 1, 0, 0, 0, 0, 0, []),
  (173, .iadd, 1, 0, 3, 0, 0, 0, []),
  (174, .iaload, 1, 0, 8, 0, 0, 0, []),
  (175, .aload_n 0, 1, 0, 1, 0, 0, 0, []),
  (176, .iload 4, 2, 0, 1, 0, 0, 0, []),
  (178, .iconst 2, 1, 0, 0, 0, 0, 0, []),
  (179, .iadd, 1, 0, 3, 0, 0, 0, []),
  (180, .iaload, 1, 0, 8, 0, 0, 0, []),
  (181, .aload_n 0, 1, 0, 1, 0, 0, 0, []),
  (182, .iload 4, 2, 0, 1, 0, 0, 0, [])]
def mc0_2 : List mB := [(184, .iconst 3, 1, 0, 0, 0, 0, 0, []),
  (185, .iadd, 1, 0, 3, 0, 0, 0, []),
  (186, .iaload, 1, 0, 8, 0, 0, 0, []),
  (187, .aload_n 0, 1, 0, 1, 0, 0, 0, []),
  (188, .iload 4, 2, 0, 1, 0, 0, 0, []),
  (190, .iconst 4, 1, 0, 0, 0, 0, 0, []),
  (191, .iadd, 1, 0, 3, 0, 0, 0, []),
  (192, .iaload, 1, 0, 8, 0, 0, 0, []),
  (193, .aload_n 0, 1, 0, 1, 0, 0, 0, []),
  (194, .iload 4, 2, 0, 1, 0, 0, 0, []),
  (196, .iconst 5, 1, 0, 0, 0, 0, 0, []),
  (197, .iadd, 1, 0, 3, 0, 0, 0, []),
  (198, .iaload, 1, 0, 8, 0, 0, 0, []),
  (199, .aload_n 3, 1, 0, 1, 0, 0, 0, []),
  (200, .invokestatic 74, 3, 2, 7, 85, 7, 0, [374, 372, 373, 47]),
  (203, .istore 5, 2, 0, 2, 0, 0, 0, []),
  (205, .aload_n 2, 1, 0, 1, 0, 0, 0, []),
  (206, .aload_n 0, 1, 0, 1, 0, 0, 0, []),
  (207, .iload 4, 2, 0, 1, 0, 0, 0, []),
  (209, .iconst 1, 1, 0, 0, 0, 0, 0, []),
  (210, .iadd, 1, 0, 3, 0, 0, 0, []),
  (211, .iaload, 1, 0, 8, 0, 0, 0, []),
  (212, .aload_n 0, 1, 0, 1, 0, 0, 0, []),
  (213, .iload 4, 2, 0, 1, 0, 0, 0, []),
  (215, .iconst 2, 1, 0, 0, 0, 0, 0, []),
  (216, .iadd, 1, 0, 3, 0, 0, 0, []),
  (217, .iaload, 1, 0, 8, 0, 0, 0, []),
  (218, .aload_n 0, 1, 0, 1, 0, 0, 0, []),
  (219, .iload 4, 2, 0, 1, 0, 0, 0, []),
  (221, .iconst 3, 1, 0, 0, 0, 0, 0, []),
  (222, .iadd, 1, 0, 3, 0, 0, 0, []),
  (223, .iaload, 1, 0, 8, 0, 0, 0, []),
  (224, .aload_n 0, 1, 0, 1, 0, 0, 0, []),
  (225, .iload 4, 2, 0, 1, 0, 0, 0, []),
  (227, .iconst 4, 1, 0, 0, 0, 0, 0, []),
  (228, .iadd, 1, 0, 3, 0, 0, 0, []),
  (229, .iaload, 1, 0, 8, 0, 0, 0, []),
  (230, .aload_n 0, 1, 0, 1, 0, 0, 0, []),
  (231, .iload 4, 2, 0, 1, 0, 0, 0, []),
  (233, .iconst 5, 1, 0, 0, 0, 0, 0, [])]
def mc0_3 : List mB := [(234, .iadd, 1, 0, 3, 0, 0, 0, []),
  (235, .iaload, 1, 0, 8, 0, 0, 0, []),
  (236, .invokevirtual 77, 3, 2, 2, 63, 6, 6, [783, 780, 781, 54, 782]),
  (239, .istore 6, 2, 0, 2, 0, 0, 0, []),
  (241, .aload_n 2, 1, 0, 1, 0, 0, 0, []),
  (242, .invokevirtual 71, 3, 2, 2, 58, 1, 6, [765, 762, 763, 54, 764]),
  (245, .iload 5, 2, 0, 1, 0, 0, 0, []),
  (247, .if_icmp .eq 5, 3, 1, 0, 252, 0, 0, []),
  (250, .iconst 0, 1, 0, 0, 0, 0, 0, []),
  (251, .ireturn, 1, 3, 0, 0, 0, 0, []),
  (252, .iload 5, 2, 0, 1, 0, 0, 0, []),
  (254, .ifCond .ne 15, 3, 1, 0, 269, 0, 0, []),
  (257, .aload_n 3, 1, 0, 1, 0, 0, 0, []),
  (258, .iconst 0, 1, 0, 0, 0, 0, 0, []),
  (259, .laload, 1, 0, 8, 0, 0, 0, []),
  (260, .iload 6, 2, 0, 1, 0, 0, 0, []),
  (262, .i2l, 1, 0, 4, 0, 0, 0, []),
  (263, .lcmp, 1, 0, 14, 0, 0, 0, []),
  (264, .ifCond .eq 5, 3, 1, 0, 269, 0, 0, []),
  (267, .iconst 0, 1, 0, 0, 0, 0, 0, []),
  (268, .ireturn, 1, 3, 0, 0, 0, 0, []),
  (269, .goto 605, 3, 0, 16, 874, 0, 0, []),
  (272, .aload_n 1, 1, 0, 1, 0, 0, 0, []),
  (273, .aload_n 0, 1, 0, 1, 0, 0, 0, []),
  (274, .iload 4, 2, 0, 1, 0, 0, 0, []),
  (276, .iconst 1, 1, 0, 0, 0, 0, 0, []),
  (277, .iadd, 1, 0, 3, 0, 0, 0, []),
  (278, .iaload, 1, 0, 8, 0, 0, 0, []),
  (279, .aload_n 0, 1, 0, 1, 0, 0, 0, []),
  (280, .iload 4, 2, 0, 1, 0, 0, 0, []),
  (282, .iconst 2, 1, 0, 0, 0, 0, 0, []),
  (283, .iadd, 1, 0, 3, 0, 0, 0, []),
  (284, .iaload, 1, 0, 8, 0, 0, 0, []),
  (285, .ifCond .eq 7, 3, 1, 0, 292, 0, 0, []),
  (288, .iconst 1, 1, 0, 0, 0, 0, 0, []),
  (289, .goto 4, 3, 0, 16, 293, 0, 0, []),
  (292, .iconst 0, 1, 0, 0, 0, 0, 0, []),
  (293, .invokestatic 78, 3, 2, 7, 86, 3, 0, [410, 408, 409, 47]),
  (296, .istore 5, 2, 0, 2, 0, 0, 0, []),
  (298, .aload_n 2, 1, 0, 1, 0, 0, 0, [])]
def mc0_4 : List mB := [(299, .aload_n 0, 1, 0, 1, 0, 0, 0, []),
  (300, .iload 4, 2, 0, 1, 0, 0, 0, []),
  (302, .iconst 1, 1, 0, 0, 0, 0, 0, []),
  (303, .iadd, 1, 0, 3, 0, 0, 0, []),
  (304, .iaload, 1, 0, 8, 0, 0, 0, []),
  (305, .aload_n 0, 1, 0, 1, 0, 0, 0, []),
  (306, .iload 4, 2, 0, 1, 0, 0, 0, []),
  (308, .iconst 2, 1, 0, 0, 0, 0, 0, []),
  (309, .iadd, 1, 0, 3, 0, 0, 0, []),
  (310, .iaload, 1, 0, 8, 0, 0, 0, []),
  (311, .ifCond .eq 7, 3, 1, 0, 318, 0, 0, []),
  (314, .iconst 1, 1, 0, 0, 0, 0, 0, []),
  (315, .goto 4, 3, 0, 16, 319, 0, 0, []),
  (318, .iconst 0, 1, 0, 0, 0, 0, 0, []),
  (319, .invokevirtual 81, 3, 2, 2, 64, 3, 6, [788, 785, 786, 54, 787]),
  (322, .aload_n 2, 1, 0, 1, 0, 0, 0, []),
  (323, .invokevirtual 71, 3, 2, 2, 58, 1, 6, [765, 762, 763, 54, 764]),
  (326, .iload 5, 2, 0, 1, 0, 0, 0, []),
  (328, .if_icmp .eq 5, 3, 1, 0, 333, 0, 0, []),
  (331, .iconst 0, 1, 0, 0, 0, 0, 0, []),
  (332, .ireturn, 1, 3, 0, 0, 0, 0, []),
  (333, .goto 541, 3, 0, 16, 874, 0, 0, []),
  (336, .aload_n 1, 1, 0, 1, 0, 0, 0, []),
  (337, .aload_n 0, 1, 0, 1, 0, 0, 0, []),
  (338, .iload 4, 2, 0, 1, 0, 0, 0, []),
  (340, .iconst 1, 1, 0, 0, 0, 0, 0, []),
  (341, .iadd, 1, 0, 3, 0, 0, 0, []),
  (342, .iaload, 1, 0, 8, 0, 0, 0, []),
  (343, .aload_n 0, 1, 0, 1, 0, 0, 0, []),
  (344, .iload 4, 2, 0, 1, 0, 0, 0, []),
  (346, .iconst 2, 1, 0, 0, 0, 0, 0, []),
  (347, .iadd, 1, 0, 3, 0, 0, 0, []),
  (348, .iaload, 1, 0, 8, 0, 0, 0, []),
  (349, .aload_n 0, 1, 0, 1, 0, 0, 0, []),
  (350, .iload 4, 2, 0, 1, 0, 0, 0, []),
  (352, .iconst 3, 1, 0, 0, 0, 0, 0, []),
  (353, .iadd, 1, 0, 3, 0, 0, 0, []),
  (354, .iaload, 1, 0, 8, 0, 0, 0, []),
  (355, .aload_n 0, 1, 0, 1, 0, 0, 0, []),
  (356, .iload 4, 2, 0, 1, 0, 0, 0, [])]
def mc0_5 : List mB := [(358, .iconst 4, 1, 0, 0, 0, 0, 0, []),
  (359, .iadd, 1, 0, 3, 0, 0, 0, []),
  (360, .iaload, 1, 0, 8, 0, 0, 0, []),
  (361, .aload_n 0, 1, 0, 1, 0, 0, 0, []),
  (362, .iload 4, 2, 0, 1, 0, 0, 0, []),
  (364, .iconst 5, 1, 0, 0, 0, 0, 0, []),
  (365, .iadd, 1, 0, 3, 0, 0, 0, []),
  (366, .iaload, 1, 0, 8, 0, 0, 0, []),
  (367, .invokestatic 82, 3, 2, 7, 87, 6, 0, [438, 436, 437, 47]),
  (370, .istore 5, 2, 0, 2, 0, 0, 0, []),
  (372, .aload_n 2, 1, 0, 1, 0, 0, 0, []),
  (373, .aload_n 0, 1, 0, 1, 0, 0, 0, []),
  (374, .iload 4, 2, 0, 1, 0, 0, 0, []),
  (376, .iconst 1, 1, 0, 0, 0, 0, 0, []),
  (377, .iadd, 1, 0, 3, 0, 0, 0, []),
  (378, .iaload, 1, 0, 8, 0, 0, 0, []),
  (379, .aload_n 0, 1, 0, 1, 0, 0, 0, []),
  (380, .iload 4, 2, 0, 1, 0, 0, 0, []),
  (382, .iconst 2, 1, 0, 0, 0, 0, 0, []),
  (383, .iadd, 1, 0, 3, 0, 0, 0, []),
  (384, .iaload, 1, 0, 8, 0, 0, 0, []),
  (385, .aload_n 0, 1, 0, 1, 0, 0, 0, []),
  (386, .iload 4, 2, 0, 1, 0, 0, 0, []),
  (388, .iconst 3, 1, 0, 0, 0, 0, 0, []),
  (389, .iadd, 1, 0, 3, 0, 0, 0, []),
  (390, .iaload, 1, 0, 8, 0, 0, 0, []),
  (391, .aload_n 0, 1, 0, 1, 0, 0, 0, []),
  (392, .iload 4, 2, 0, 1, 0, 0, 0, []),
  (394, .iconst 4, 1, 0, 0, 0, 0, 0, []),
  (395, .iadd, 1, 0, 3, 0, 0, 0, []),
  (396, .iaload, 1, 0, 8, 0, 0, 0, []),
  (397, .aload_n 0, 1, 0, 1, 0, 0, 0, []),
  (398, .iload 4, 2, 0, 1, 0, 0, 0, []),
  (400, .iconst 5, 1, 0, 0, 0, 0, 0, []),
  (401, .iadd, 1, 0, 3, 0, 0, 0, []),
  (402, .iaload, 1, 0, 8, 0, 0, 0, []),
  (403, .invokevirtual 85, 3, 2, 2, 66, 6, 6, [796, 793, 794, 54, 795]),
  (406, .aload_n 2, 1, 0, 1, 0, 0, 0, []),
  (407, .invokevirtual 71, 3, 2, 2, 58, 1, 6, [765, 762, 763, 54, 764]),
  (410, .iload 5, 2, 0, 1, 0, 0, 0, [])]
def mc0_6 : List mB := [(412, .if_icmp .eq 5, 3, 1, 0, 417, 0, 0, []),
  (415, .iconst 0, 1, 0, 0, 0, 0, 0, []),
  (416, .ireturn, 1, 3, 0, 0, 0, 0, []),
  (417, .goto 457, 3, 0, 16, 874, 0, 0, []),
  (420, .aload_n 1, 1, 0, 1, 0, 0, 0, []),
  (421, .aload_n 0, 1, 0, 1, 0, 0, 0, []),
  (422, .iload 4, 2, 0, 1, 0, 0, 0, []),
  (424, .iconst 1, 1, 0, 0, 0, 0, 0, []),
  (425, .iadd, 1, 0, 3, 0, 0, 0, []),
  (426, .iaload, 1, 0, 8, 0, 0, 0, []),
  (427, .aload_n 0, 1, 0, 1, 0, 0, 0, []),
  (428, .iload 4, 2, 0, 1, 0, 0, 0, []),
  (430, .iconst 2, 1, 0, 0, 0, 0, 0, []),
  (431, .iadd, 1, 0, 3, 0, 0, 0, []),
  (432, .iaload, 1, 0, 8, 0, 0, 0, []),
  (433, .aload_n 3, 1, 0, 1, 0, 0, 0, []),
  (434, .invokestatic 86, 3, 2, 7, 88, 4, 0, [446, 444, 445, 47]),
  (437, .istore 5, 2, 0, 2, 0, 0, 0, []),
  (439, .aload_n 2, 1, 0, 1, 0, 0, 0, []),
  (440, .aload_n 0, 1, 0, 1, 0, 0, 0, []),
  (441, .iload 4, 2, 0, 1, 0, 0, 0, []),
  (443, .iconst 1, 1, 0, 0, 0, 0, 0, []),
  (444, .iadd, 1, 0, 3, 0, 0, 0, []),
  (445, .iaload, 1, 0, 8, 0, 0, 0, []),
  (446, .aload_n 0, 1, 0, 1, 0, 0, 0, []),
  (447, .iload 4, 2, 0, 1, 0, 0, 0, []),
  (449, .iconst 2, 1, 0, 0, 0, 0, 0, []),
  (450, .iadd, 1, 0, 3, 0, 0, 0, []),
  (451, .iaload, 1, 0, 8, 0, 0, 0, []),
  (452, .invokevirtual 89, 3, 2, 2, 67, 3, 6, [800, 797, 798, 54, 799]),
  (455, .istore 6, 2, 0, 2, 0, 0, 0, []),
  (457, .aload_n 2, 1, 0, 1, 0, 0, 0, []),
  (458, .invokevirtual 71, 3, 2, 2, 58, 1, 6, [765, 762, 763, 54, 764]),
  (461, .iload 5, 2, 0, 1, 0, 0, 0, []),
  (463, .if_icmp .eq 5, 3, 1, 0, 468, 0, 0, []),
  (466, .iconst 0, 1, 0, 0, 0, 0, 0, []),
  (467, .ireturn, 1, 3, 0, 0, 0, 0, []),
  (468, .iload 5, 2, 0, 1, 0, 0, 0, []),
  (470, .ifCond .ne 15, 3, 1, 0, 485, 0, 0, []),
  (473, .aload_n 3, 1, 0, 1, 0, 0, 0, [])]
def mc0_7 : List mB := [(474, .iconst 0, 1, 0, 0, 0, 0, 0, []),
  (475, .laload, 1, 0, 8, 0, 0, 0, []),
  (476, .iload 6, 2, 0, 1, 0, 0, 0, []),
  (478, .i2l, 1, 0, 4, 0, 0, 0, []),
  (479, .lcmp, 1, 0, 14, 0, 0, 0, []),
  (480, .ifCond .eq 5, 3, 1, 0, 485, 0, 0, []),
  (483, .iconst 0, 1, 0, 0, 0, 0, 0, []),
  (484, .ireturn, 1, 3, 0, 0, 0, 0, []),
  (485, .goto 389, 3, 0, 16, 874, 0, 0, []),
  (488, .aload_n 1, 1, 0, 1, 0, 0, 0, []),
  (489, .aload_n 0, 1, 0, 1, 0, 0, 0, []),
  (490, .iload 4, 2, 0, 1, 0, 0, 0, []),
  (492, .iconst 1, 1, 0, 0, 0, 0, 0, []),
  (493, .iadd, 1, 0, 3, 0, 0, 0, []),
  (494, .iaload, 1, 0, 8, 0, 0, 0, []),
  (495, .aload_n 3, 1, 0, 1, 0, 0, 0, []),
  (496, .invokestatic 90, 3, 2, 7, 89, 3, 0, [462, 460, 461, 47]),
  (499, .istore 5, 2, 0, 2, 0, 0, 0, []),
  (501, .aload_n 2, 1, 0, 1, 0, 0, 0, []),
  (502, .aload_n 0, 1, 0, 1, 0, 0, 0, []),
  (503, .iload 4, 2, 0, 1, 0, 0, 0, []),
  (505, .iconst 1, 1, 0, 0, 0, 0, 0, []),
  (506, .iadd, 1, 0, 3, 0, 0, 0, []),
  (507, .iaload, 1, 0, 8, 0, 0, 0, []),
  (508, .invokevirtual 93, 3, 2, 2, 68, 2, 6, [804, 801, 802, 54, 803]),
  (511, .istore 6, 2, 0, 2, 0, 0, 0, []),
  (513, .aload_n 2, 1, 0, 1, 0, 0, 0, []),
  (514, .invokevirtual 71, 3, 2, 2, 58, 1, 6, [765, 762, 763, 54, 764]),
  (517, .iload 5, 2, 0, 1, 0, 0, 0, []),
  (519, .if_icmp .eq 5, 3, 1, 0, 524, 0, 0, []),
  (522, .iconst 0, 1, 0, 0, 0, 0, 0, []),
  (523, .ireturn, 1, 3, 0, 0, 0, 0, []),
  (524, .iload 5, 2, 0, 1, 0, 0, 0, []),
  (526, .ifCond .ne 15, 3, 1, 0, 541, 0, 0, []),
  (529, .aload_n 3, 1, 0, 1, 0, 0, 0, []),
  (530, .iconst 0, 1, 0, 0, 0, 0, 0, []),
  (531, .laload, 1, 0, 8, 0, 0, 0, []),
  (532, .iload 6, 2, 0, 1, 0, 0, 0, []),
  (534, .i2l, 1, 0, 4, 0, 0, 0, []),
  (535, .lcmp, 1, 0, 14, 0, 0, 0, [])]
def mc0_8 : List mB := [(536, .ifCond .eq 5, 3, 1, 0, 541, 0, 0, []),
  (539, .iconst 0, 1, 0, 0, 0, 0, 0, []),
  (540, .ireturn, 1, 3, 0, 0, 0, 0, []),
  (541, .goto 333, 3, 0, 16, 874, 0, 0, []),
  (544, .aload_n 1, 1, 0, 1, 0, 0, 0, []),
  (545, .aload_n 3, 1, 0, 1, 0, 0, 0, []),
  (546, .invokestatic 94, 3, 2, 7, 90, 2, 0, [582, 580, 581, 47]),
  (549, .istore 5, 2, 0, 2, 0, 0, 0, []),
  (551, .aload_n 2, 1, 0, 1, 0, 0, 0, []),
  (552, .invokevirtual 97, 3, 2, 2, 77, 1, 6, [840, 837, 838, 54, 839]),
  (555, .istore 6, 2, 0, 2, 0, 0, 0, []),
  (557, .aload_n 2, 1, 0, 1, 0, 0, 0, []),
  (558, .invokevirtual 71, 3, 2, 2, 58, 1, 6, [765, 762, 763, 54, 764]),
  (561, .iload 5, 2, 0, 1, 0, 0, 0, []),
  (563, .if_icmp .eq 5, 3, 1, 0, 568, 0, 0, []),
  (566, .iconst 0, 1, 0, 0, 0, 0, 0, []),
  (567, .ireturn, 1, 3, 0, 0, 0, 0, []),
  (568, .iload 5, 2, 0, 1, 0, 0, 0, []),
  (570, .ifCond .ne 22, 3, 1, 0, 592, 0, 0, []),
  (573, .aload_n 3, 1, 0, 1, 0, 0, 0, []),
  (574, .iconst 0, 1, 0, 0, 0, 0, 0, []),
  (575, .laload, 1, 0, 8, 0, 0, 0, []),
  (576, .iload 6, 2, 0, 1, 0, 0, 0, []),
  (578, .ifCond .eq 7, 3, 1, 0, 585, 0, 0, []),
  (581, .lconst 1, 1, 0, 0, 0, 0, 0, []),
  (582, .goto 4, 3, 0, 16, 586, 0, 0, []),
  (585, .lconst 0, 1, 0, 0, 0, 0, 0, []),
  (586, .lcmp, 1, 0, 14, 0, 0, 0, []),
  (587, .ifCond .eq 5, 3, 1, 0, 592, 0, 0, []),
  (590, .iconst 0, 1, 0, 0, 0, 0, 0, []),
  (591, .ireturn, 1, 3, 0, 0, 0, 0, []),
  (592, .goto 282, 3, 0, 16, 874, 0, 0, []),
  (595, .aload_n 1, 1, 0, 1, 0, 0, 0, []),
  (596, .aload_n 3, 1, 0, 1, 0, 0, 0, []),
  (597, .invokestatic 98, 3, 2, 7, 91, 2, 0, [610, 608, 609, 47]),
  (600, .istore 5, 2, 0, 2, 0, 0, 0, []),
  (602, .aload_n 2, 1, 0, 1, 0, 0, 0, []),
  (603, .invokevirtual 100, 3, 2, 2, 78, 1, 6, [844, 841, 842, 54, 843]),
  (606, .istore 6, 2, 0, 2, 0, 0, 0, []),
  (608, .aload_n 2, 1, 0, 1, 0, 0, 0, [])]
def mc0_9 : List mB := [(609, .invokevirtual 71, 3, 2, 2, 58, 1, 6, [765, 762, 763, 54, 764]),
  (612, .iload 5, 2, 0, 1, 0, 0, 0, []),
  (614, .if_icmp .eq 5, 3, 1, 0, 619, 0, 0, []),
  (617, .iconst 0, 1, 0, 0, 0, 0, 0, []),
  (618, .ireturn, 1, 3, 0, 0, 0, 0, []),
  (619, .iload 5, 2, 0, 1, 0, 0, 0, []),
  (621, .ifCond .ne 15, 3, 1, 0, 636, 0, 0, []),
  (624, .aload_n 3, 1, 0, 1, 0, 0, 0, []),
  (625, .iconst 0, 1, 0, 0, 0, 0, 0, []),
  (626, .laload, 1, 0, 8, 0, 0, 0, []),
  (627, .iload 6, 2, 0, 1, 0, 0, 0, []),
  (629, .i2l, 1, 0, 4, 0, 0, 0, []),
  (630, .lcmp, 1, 0, 14, 0, 0, 0, []),
  (631, .ifCond .eq 5, 3, 1, 0, 636, 0, 0, []),
  (634, .iconst 0, 1, 0, 0, 0, 0, 0, []),
  (635, .ireturn, 1, 3, 0, 0, 0, 0, []),
  (636, .goto 238, 3, 0, 16, 874, 0, 0, []),
  (639, .aload_n 1, 1, 0, 1, 0, 0, 0, []),
  (640, .aload_n 0, 1, 0, 1, 0, 0, 0, []),
  (641, .iload 4, 2, 0, 1, 0, 0, 0, []),
  (643, .iconst 1, 1, 0, 0, 0, 0, 0, []),
  (644, .iadd, 1, 0, 3, 0, 0, 0, []),
  (645, .iaload, 1, 0, 8, 0, 0, 0, []),
  (646, .aload_n 0, 1, 0, 1, 0, 0, 0, []),
  (647, .iload 4, 2, 0, 1, 0, 0, 0, []),
  (649, .iconst 2, 1, 0, 0, 0, 0, 0, []),
  (650, .iadd, 1, 0, 3, 0, 0, 0, []),
  (651, .iaload, 1, 0, 8, 0, 0, 0, []),
  (652, .aload_n 3, 1, 0, 1, 0, 0, 0, []),
  (653, .invokestatic 101, 3, 2, 7, 92, 4, 0, [617, 615, 616, 47]),
  (656, .istore 5, 2, 0, 2, 0, 0, 0, []),
  (658, .aload_n 2, 1, 0, 1, 0, 0, 0, []),
  (659, .aload_n 0, 1, 0, 1, 0, 0, 0, []),
  (660, .iload 4, 2, 0, 1, 0, 0, 0, []),
  (662, .iconst 1, 1, 0, 0, 0, 0, 0, []),
  (663, .iadd, 1, 0, 3, 0, 0, 0, []),
  (664, .iaload, 1, 0, 8, 0, 0, 0, []),
  (665, .aload_n 0, 1, 0, 1, 0, 0, 0, []),
  (666, .iload 4, 2, 0, 1, 0, 0, 0, []),
  (668, .iconst 2, 1, 0, 0, 0, 0, 0, [])]
def mc0_10 : List mB := [(669, .iadd, 1, 0, 3, 0, 0, 0, []),
  (670, .iaload, 1, 0, 8, 0, 0, 0, []),
  (671, .invokevirtual 103, 3, 2, 2, 79, 3, 6, [848, 845, 846, 54, 847]),
  (674, .istore 6, 2, 0, 2, 0, 0, 0, []),
  (676, .aload_n 2, 1, 0, 1, 0, 0, 0, []),
  (677, .invokevirtual 71, 3, 2, 2, 58, 1, 6, [765, 762, 763, 54, 764]),
  (680, .iload 5, 2, 0, 1, 0, 0, 0, []),
  (682, .if_icmp .eq 5, 3, 1, 0, 687, 0, 0, []),
  (685, .iconst 0, 1, 0, 0, 0, 0, 0, []),
  (686, .ireturn, 1, 3, 0, 0, 0, 0, []),
  (687, .iload 5, 2, 0, 1, 0, 0, 0, []),
  (689, .ifCond .ne 15, 3, 1, 0, 704, 0, 0, []),
  (692, .aload_n 3, 1, 0, 1, 0, 0, 0, []),
  (693, .iconst 0, 1, 0, 0, 0, 0, 0, []),
  (694, .laload, 1, 0, 8, 0, 0, 0, []),
  (695, .iload 6, 2, 0, 1, 0, 0, 0, []),
  (697, .i2l, 1, 0, 4, 0, 0, 0, []),
  (698, .lcmp, 1, 0, 14, 0, 0, 0, []),
  (699, .ifCond .eq 5, 3, 1, 0, 704, 0, 0, []),
  (702, .iconst 0, 1, 0, 0, 0, 0, 0, []),
  (703, .ireturn, 1, 3, 0, 0, 0, 0, []),
  (704, .goto 170, 3, 0, 16, 874, 0, 0, []),
  (707, .aload_n 1, 1, 0, 1, 0, 0, 0, []),
  (708, .aload_n 0, 1, 0, 1, 0, 0, 0, []),
  (709, .iload 4, 2, 0, 1, 0, 0, 0, []),
  (711, .iconst 1, 1, 0, 0, 0, 0, 0, []),
  (712, .iadd, 1, 0, 3, 0, 0, 0, []),
  (713, .iaload, 1, 0, 8, 0, 0, 0, []),
  (714, .aload_n 3, 1, 0, 1, 0, 0, 0, []),
  (715, .invokestatic 104, 3, 2, 7, 93, 3, 0, [627, 625, 626, 47]),
  (718, .istore 5, 2, 0, 2, 0, 0, 0, []),
  (720, .aload_n 2, 1, 0, 1, 0, 0, 0, []),
  (721, .aload_n 0, 1, 0, 1, 0, 0, 0, []),
  (722, .iload 4, 2, 0, 1, 0, 0, 0, []),
  (724, .iconst 1, 1, 0, 0, 0, 0, 0, []),
  (725, .iadd, 1, 0, 3, 0, 0, 0, []),
  (726, .iaload, 1, 0, 8, 0, 0, 0, []),
  (727, .invokevirtual 106, 3, 2, 2, 80, 2, 6, [852, 849, 850, 54, 851]),
  (730, .istore 6, 2, 0, 2, 0, 0, 0, []),
  (732, .aload_n 2, 1, 0, 1, 0, 0, 0, [])]
def mc0_11 : List mB := [(733, .invokevirtual 71, 3, 2, 2, 58, 1, 6, [765, 762, 763, 54, 764]),
  (736, .iload 5, 2, 0, 1, 0, 0, 0, []),
  (738, .if_icmp .eq 5, 3, 1, 0, 743, 0, 0, []),
  (741, .iconst 0, 1, 0, 0, 0, 0, 0, []),
  (742, .ireturn, 1, 3, 0, 0, 0, 0, []),
  (743, .iload 5, 2, 0, 1, 0, 0, 0, []),
  (745, .ifCond .ne 15, 3, 1, 0, 760, 0, 0, []),
  (748, .aload_n 3, 1, 0, 1, 0, 0, 0, []),
  (749, .iconst 0, 1, 0, 0, 0, 0, 0, []),
  (750, .laload, 1, 0, 8, 0, 0, 0, []),
  (751, .iload 6, 2, 0, 1, 0, 0, 0, []),
  (753, .i2l, 1, 0, 4, 0, 0, 0, []),
  (754, .lcmp, 1, 0, 14, 0, 0, 0, []),
  (755, .ifCond .eq 5, 3, 1, 0, 760, 0, 0, []),
  (758, .iconst 0, 1, 0, 0, 0, 0, 0, []),
  (759, .ireturn, 1, 3, 0, 0, 0, 0, []),
  (760, .goto 114, 3, 0, 16, 874, 0, 0, []),
  (763, .aload_n 1, 1, 0, 1, 0, 0, 0, []),
  (764, .aload_n 0, 1, 0, 1, 0, 0, 0, []),
  (765, .iload 4, 2, 0, 1, 0, 0, 0, []),
  (767, .iconst 1, 1, 0, 0, 0, 0, 0, []),
  (768, .iadd, 1, 0, 3, 0, 0, 0, []),
  (769, .iaload, 1, 0, 8, 0, 0, 0, []),
  (770, .aload_n 3, 1, 0, 1, 0, 0, 0, []),
  (771, .invokestatic 107, 3, 2, 7, 94, 3, 0, [638, 636, 637, 47]),
  (774, .istore 5, 2, 0, 2, 0, 0, 0, []),
  (776, .aload_n 2, 1, 0, 1, 0, 0, 0, []),
  (777, .aload_n 0, 1, 0, 1, 0, 0, 0, []),
  (778, .iload 4, 2, 0, 1, 0, 0, 0, []),
  (780, .iconst 1, 1, 0, 0, 0, 0, 0, []),
  (781, .iadd, 1, 0, 3, 0, 0, 0, []),
  (782, .iaload, 1, 0, 8, 0, 0, 0, []),
  (783, .invokevirtual 109, 3, 2, 2, 81, 2, 6, [856, 853, 854, 54, 855]),
  (786, .istore 6, 2, 0, 2, 0, 0, 0, []),
  (788, .aload_n 2, 1, 0, 1, 0, 0, 0, []),
  (789, .invokevirtual 71, 3, 2, 2, 58, 1, 6, [765, 762, 763, 54, 764]),
  (792, .iload 5, 2, 0, 1, 0, 0, 0, []),
  (794, .if_icmp .eq 5, 3, 1, 0, 799, 0, 0, []),
  (797, .iconst 0, 1, 0, 0, 0, 0, 0, []),
  (798, .ireturn, 1, 3, 0, 0, 0, 0, [])]
def mc0_12 : List mB := [(799, .iload 5, 2, 0, 1, 0, 0, 0, []),
  (801, .ifCond .ne 15, 3, 1, 0, 816, 0, 0, []),
  (804, .aload_n 3, 1, 0, 1, 0, 0, 0, []),
  (805, .iconst 0, 1, 0, 0, 0, 0, 0, []),
  (806, .laload, 1, 0, 8, 0, 0, 0, []),
  (807, .iload 6, 2, 0, 1, 0, 0, 0, []),
  (809, .i2l, 1, 0, 4, 0, 0, 0, []),
  (810, .lcmp, 1, 0, 14, 0, 0, 0, []),
  (811, .ifCond .eq 5, 3, 1, 0, 816, 0, 0, []),
  (814, .iconst 0, 1, 0, 0, 0, 0, 0, []),
  (815, .ireturn, 1, 3, 0, 0, 0, 0, []),
  (816, .goto 58, 3, 0, 16, 874, 0, 0, []),
  (819, .aload_n 1, 1, 0, 1, 0, 0, 0, []),
  (820, .aload_n 3, 1, 0, 1, 0, 0, 0, []),
  (821, .invokestatic 110, 3, 2, 7, 95, 2, 0, [652, 650, 651, 47]),
  (824, .istore 5, 2, 0, 2, 0, 0, 0, []),
  (826, .aload_n 2, 1, 0, 1, 0, 0, 0, []),
  (827, .invokevirtual 112, 3, 2, 2, 82, 1, 6, [860, 857, 858, 54, 859]),
  (830, .istore 6, 2, 0, 2, 0, 0, 0, []),
  (832, .aload_n 2, 1, 0, 1, 0, 0, 0, []),
  (833, .invokevirtual 71, 3, 2, 2, 58, 1, 6, [765, 762, 763, 54, 764]),
  (836, .iload 5, 2, 0, 1, 0, 0, 0, []),
  (838, .if_icmp .eq 5, 3, 1, 0, 843, 0, 0, []),
  (841, .iconst 0, 1, 0, 0, 0, 0, 0, []),
  (842, .ireturn, 1, 3, 0, 0, 0, 0, []),
  (843, .iload 5, 2, 0, 1, 0, 0, 0, []),
  (845, .ifCond .ne 15, 3, 1, 0, 860, 0, 0, []),
  (848, .aload_n 3, 1, 0, 1, 0, 0, 0, []),
  (849, .iconst 0, 1, 0, 0, 0, 0, 0, []),
  (850, .laload, 1, 0, 8, 0, 0, 0, []),
  (851, .iload 6, 2, 0, 1, 0, 0, 0, []),
  (853, .i2l, 1, 0, 4, 0, 0, 0, []),
  (854, .lcmp, 1, 0, 14, 0, 0, 0, []),
  (855, .ifCond .eq 5, 3, 1, 0, 860, 0, 0, []),
  (858, .iconst 0, 1, 0, 0, 0, 0, 0, []),
  (859, .ireturn, 1, 3, 0, 0, 0, 0, []),
  (860, .goto 14, 3, 0, 16, 874, 0, 0, []),
  (863, .aload_n 1, 1, 0, 1, 0, 0, 0, []),
  (864, .invokevirtual 113, 3, 2, 2, 4, 1, 0, [291, 288, 289, 48, 290]),
  (867, .aload_n 2, 1, 0, 1, 0, 0, 0, [])]
def mc0_13 : List mB := [(868, .invokevirtual 116, 3, 2, 2, 83, 1, 6, [864, 861, 862, 54, 863]),
  (871, .goto 3, 3, 0, 16, 874, 0, 0, []),
  (874, .iinc 4 6, 3, 0, 2, 0, 0, 0, []),
  (877, .goto (-854), 3, 0, 16, 23, 0, 0, []),
  (880, .iconst 1, 1, 0, 0, 0, 0, 0, []),
  (881, .ireturn, 1, 3, 0, 0, 0, 0, [])]
def mc0 : List mB := mc0_0 ++ (mc0_1 ++ (mc0_2 ++ (mc0_3 ++ (mc0_4 ++ (mc0_5 ++ (mc0_6 ++ (mc0_7 ++ (mc0_8 ++ (mc0_9 ++ (mc0_10 ++ (mc0_11 ++ (mc0_12 ++ (mc0_13)))))))))))))
def mq0 : mM := (1089, 11401, mc0, x, code, 7, ret, [], [], "SlabPatternsLaw")
/-- SlabPatterns.<init>()V -/
def mc1_0 : List mB := [(0, .aload_n 0, 1, 0, 1, 0, 0, 0, []),
  (1, .invokespecial 3, 3, 0, 15, 0, 0, 0, [68, 69, 70]),
  (4, .aload_n 0, 1, 0, 1, 0, 0, 0, []),
  (5, .new 9, 3, 0, 11, 1, 0, 0, [71, 72, 49]),
  (8, .dup, 1, 0, 5, 0, 0, 0, []),
  (9, .invokespecial 11, 3, 2, 1, 20, 1, 1, [75, 73, 74, 49]),
  (12, .putfield 12, 3, 0, 7, 0, 0, 2, [266]),
  (15, .aload_n 0, 1, 0, 1, 0, 0, 0, []),
  (16, .new 16, 3, 0, 11, 2, 0, 0, [121, 122, 50]),
  (19, .dup, 1, 0, 5, 0, 0, 0, []),
  (20, .invokespecial 18, 3, 2, 1, 26, 1, 2, [125, 123, 124, 50]),
  (23, .putfield 19, 3, 0, 7, 0, 1, 2, [267]),
  (26, .aload_n 0, 1, 0, 1, 0, 0, 0, []),
  (27, .new 23, 3, 0, 11, 3, 0, 0, [154, 155, 51]),
  (30, .dup, 1, 0, 5, 0, 0, 0, []),
  (31, .invokespecial 25, 3, 2, 1, 34, 1, 3, [158, 156, 157, 51]),
  (34, .putfield 26, 3, 0, 7, 0, 2, 2, [268]),
  (37, .aload_n 0, 1, 0, 1, 0, 0, 0, []),
  (38, .new 30, 3, 0, 11, 4, 0, 0, [189, 190, 52]),
  (41, .dup, 1, 0, 5, 0, 0, 0, []),
  (42, .invokespecial 32, 3, 2, 1, 38, 1, 4, [193, 191, 192, 52]),
  (45, .putfield 33, 3, 0, 7, 0, 3, 2, [269]),
  (48, .aload_n 0, 1, 0, 1, 0, 0, 0, []),
  (49, .new 37, 3, 0, 11, 5, 0, 0, [252, 196, 53]),
  (52, .dup, 1, 0, 5, 0, 0, 0, []),
  (53, .invokespecial 39, 3, 2, 1, 47, 1, 5, [199, 253, 198, 53]),
  (56, .putfield 40, 3, 0, 7, 0, 4, 2, [270]),
  (59, .aload_n 0, 1, 0, 1, 0, 0, 0, []),
  (60, .invokevirtual 44, 3, 2, 2, 2, 1, 0, [257, 254, 256, 48, 0]),
  (63, .return_, 1, 3, 0, 0, 0, 0, [])]
def mc1 : List mB := mc1_0
def mq1 : mM := (33, 1636, mc1, ⟨"SlabPatterns", "<init>", "()V"⟩, prog_1_method_1_code, 1, none, [], [], "SlabPatterns")
/-- SlabPatterns.forgetAll()V -/
def mc2_0 : List mB := [(0, .aload_n 0, 1, 0, 1, 0, 0, 0, []),
  (1, .getfield 12, 3, 0, 6, 0, 0, 0, [266]),
  (4, .invokevirtual 205, 3, 2, 3, 21, 1, 1, [261, 258, 260, 49, 1]),
  (7, .aload_n 0, 1, 0, 1, 0, 0, 0, []),
  (8, .getfield 19, 3, 0, 6, 0, 1, 0, [267]),
  (11, .iconst 0, 1, 0, 0, 0, 0, 0, []),
  (12, .putfield 208, 3, 0, 7, 2, 0, 1, [128]),
  (15, .aload_n 0, 1, 0, 1, 0, 0, 0, []),
  (16, .invokevirtual 68, 3, 2, 2, 3, 1, 0, [265, 262, 264, 48, 2]),
  (19, .return_, 1, 3, 0, 0, 0, 0, [])]
def mc2 : List mB := mc2_0
def mq2 : mM := (0, 0, mc2, ⟨"SlabPatterns", "forgetAll", "()V"⟩, prog_1_method_19_code, 1, none, [], [], "SlabPatterns")
/-- SlabPatterns.forgetPattern()V -/
def mc3_0 : List mB := [(0, .aload_n 0, 1, 0, 1, 0, 0, 0, []),
  (1, .iconst 0, 1, 0, 0, 0, 0, 0, []),
  (2, .putfield 145, 3, 0, 7, 0, 5, 0, [271]),
  (5, .aload_n 0, 1, 0, 1, 0, 0, 0, []),
  (6, .iconst 0, 1, 0, 0, 0, 0, 0, []),
  (7, .putfield 138, 3, 0, 7, 0, 6, 0, [272]),
  (10, .aload_n 0, 1, 0, 1, 0, 0, 0, []),
  (11, .getfield 40, 3, 0, 6, 0, 4, 0, [270]),
  (14, .iconst 0, 1, 0, 0, 0, 0, 0, []),
  (15, .putfield 154, 3, 0, 7, 5, 0, 1, [203]),
  (18, .return_, 1, 3, 0, 0, 0, 0, [])]
def mc3 : List mB := mc3_0
def mq3 : mM := (0, 0, mc3, ⟨"SlabPatterns", "forgetPattern", "()V"⟩, prog_1_method_18_code, 1, none, [], [], "SlabPatterns")
/-- SlabPatterns.clear()V -/
def mc4_0 : List mB := [(0, .aload_n 0, 1, 0, 1, 0, 0, 0, []),
  (1, .invokevirtual 44, 3, 2, 2, 2, 1, 0, [257, 254, 256, 48, 0]),
  (4, .return_, 1, 3, 0, 0, 0, 0, [])]
def mc4 : List mB := mc4_0
def mq4 : mM := (0, 0, mc4, ⟨"SlabPatterns", "clear", "()V"⟩, prog_1_method_14_code, 1, none, [], [], "SlabPatterns")
/-- SlabPatterns.plate(III)V -/
def mc5_0 : List mB := [(0, .iload_n 1, 1, 0, 1, 0, 0, 0, []),
  (1, .iconst 1, 1, 0, 0, 0, 0, 0, []),
  (2, .sipush 200, 3, 0, 0, 0, 0, 0, []),
  (5, .invokestatic 47, 3, 2, 4, 6, 3, 0, [302, 300, 301, 48]),
  (8, .ifCond .ne 24, 3, 1, 0, 32, 0, 0, []),
  (11, .iload_n 2, 1, 0, 1, 0, 0, 0, []),
  (12, .iconst 1, 1, 0, 0, 0, 0, 0, []),
  (13, .sipush 200, 3, 0, 0, 0, 0, 0, []),
  (16, .invokestatic 47, 3, 2, 4, 6, 3, 0, [302, 300, 301, 48]),
  (19, .ifCond .ne 13, 3, 1, 0, 32, 0, 0, []),
  (22, .iload_n 3, 1, 0, 1, 0, 0, 0, []),
  (23, .iconst 0, 1, 0, 0, 0, 0, 0, []),
  (24, .bipush 20, 2, 0, 0, 0, 0, 0, []),
  (26, .invokestatic 47, 3, 2, 4, 6, 3, 0, [302, 300, 301, 48]),
  (29, .ifCond .eq 13, 3, 1, 0, 42, 0, 0, []),
  (32, .new 51, 3, 4, 0, 0, 53, 55, [303, 58, 0]),
  (42, .aload_n 0, 1, 0, 1, 0, 0, 0, []),
  (43, .getfield 12, 3, 0, 6, 0, 0, 0, [266]),
  (46, .iload_n 1, 1, 0, 1, 0, 0, 0, []),
  (47, .putfield 58, 3, 0, 7, 1, 0, 1, [78]),
  (50, .aload_n 0, 1, 0, 1, 0, 0, 0, []),
  (51, .getfield 12, 3, 0, 6, 0, 0, 0, [266]),
  (54, .iload_n 2, 1, 0, 1, 0, 0, 0, []),
  (55, .putfield 62, 3, 0, 7, 1, 1, 1, [80]),
  (58, .aload_n 0, 1, 0, 1, 0, 0, 0, []),
  (59, .getfield 12, 3, 0, 6, 0, 0, 0, [266]),
  (62, .iload_n 3, 1, 0, 1, 0, 0, 0, []),
  (63, .putfield 65, 3, 0, 7, 1, 2, 1, [82]),
  (66, .aload_n 0, 1, 0, 1, 0, 0, 0, []),
  (67, .invokevirtual 68, 3, 2, 2, 3, 1, 0, [265, 262, 264, 48, 2]),
  (70, .return_, 1, 3, 0, 0, 0, 0, [])]
def mc5 : List mB := mc5_0
def mq5 : mM := (1, 6, mc5, ⟨"SlabPatterns", "plate", "(III)V"⟩, prog_1_method_2_code, 4, none, [], [], "SlabPatterns")
/-- SlabPatterns.isOutside(III)Z -/
def mc6_0 : List mB := [(0, .iload_n 0, 1, 0, 1, 0, 0, 0, []),
  (1, .iload_n 1, 1, 0, 1, 0, 0, 0, []),
  (2, .if_icmp .lt 8, 3, 1, 0, 10, 0, 0, []),
  (5, .iload_n 0, 1, 0, 1, 0, 0, 0, []),
  (6, .iload_n 2, 1, 0, 1, 0, 0, 0, []),
  (7, .if_icmp .le 7, 3, 1, 0, 14, 0, 0, []),
  (10, .iconst 1, 1, 0, 0, 0, 0, 0, []),
  (11, .goto 4, 3, 0, 16, 15, 0, 0, []),
  (14, .iconst 0, 1, 0, 0, 0, 0, 0, []),
  (15, .ireturn, 1, 3, 0, 0, 0, 0, [])]
def mc6 : List mB := mc6_0
def mq6 : mM := (0, 0, mc6, ⟨"SlabPatterns", "isOutside", "(III)Z"⟩, prog_1_method_15_code, 3, some .boolean, [], [], "SlabPatterns")
/-- SlabPatterns.want(IIIII)I -/
def mc7_0 : List mB := [(0, .iload_n 1, 1, 0, 1, 0, 0, 0, []),
  (1, .iconst 1, 1, 0, 0, 0, 0, 0, []),
  (2, .sipush 200, 3, 0, 0, 0, 0, 0, []),
  (5, .invokestatic 47, 3, 2, 4, 6, 3, 0, [302, 300, 301, 48]),
  (8, .ifCond .ne 47, 3, 1, 0, 55, 0, 0, []),
  (11, .iload_n 2, 1, 0, 1, 0, 0, 0, []),
  (12, .iload_n 1, 1, 0, 1, 0, 0, 0, []),
  (13, .sipush 200, 3, 0, 0, 0, 0, 0, []),
  (16, .invokestatic 47, 3, 2, 4, 6, 3, 0, [302, 300, 301, 48]),
  (19, .ifCond .ne 36, 3, 1, 0, 55, 0, 0, []),
  (22, .iload_n 3, 1, 0, 1, 0, 0, 0, []),
  (23, .iconst 1, 1, 0, 0, 0, 0, 0, []),
  (24, .sipush 200, 3, 0, 0, 0, 0, 0, []),
  (27, .invokestatic 47, 3, 2, 4, 6, 3, 0, [302, 300, 301, 48]),
  (30, .ifCond .ne 25, 3, 1, 0, 55, 0, 0, []),
  (33, .iload 4, 2, 0, 1, 0, 0, 0, []),
  (35, .iconst 0, 1, 0, 0, 0, 0, 0, []),
  (36, .ldc 71, 2, 0, 0, 100000, 0, 0, [380]),
  (38, .invokestatic 47, 3, 2, 4, 6, 3, 0, [302, 300, 301, 48]),
  (41, .ifCond .ne 14, 3, 1, 0, 55, 0, 0, []),
  (44, .iload 5, 2, 0, 1, 0, 0, 0, []),
  (46, .iconst 0, 1, 0, 0, 0, 0, 0, []),
  (47, .bipush 20, 2, 0, 0, 0, 0, 0, []),
  (49, .invokestatic 47, 3, 2, 4, 6, 3, 0, [302, 300, 301, 48]),
  (52, .ifCond .eq 13, 3, 1, 0, 65, 0, 0, []),
  (55, .new 51, 3, 4, 0, 0, 72, 55, [303, 58, 1]),
  (65, .aload_n 0, 1, 0, 1, 0, 0, 0, []),
  (66, .getfield 19, 3, 0, 6, 0, 1, 0, [267]),
  (69, .invokevirtual 74, 3, 2, 3, 27, 1, 2, [385, 382, 384, 50, 4]),
  (72, .ifCond .eq 13, 3, 1, 0, 85, 0, 0, []),
  (75, .new 78, 3, 4, 0, 3, 80, 82, [387, 59, 2]),
  (85, .aload_n 0, 1, 0, 1, 0, 0, 0, []),
  (86, .getfield 19, 3, 0, 6, 0, 1, 0, [267]),
  (89, .iload_n 1, 1, 0, 1, 0, 0, 0, []),
  (90, .iload_n 2, 1, 0, 1, 0, 0, 0, []),
  (91, .iload_n 3, 1, 0, 1, 0, 0, 0, []),
  (92, .iload 4, 2, 0, 1, 0, 0, 0, []),
  (94, .iload 5, 2, 0, 1, 0, 0, 0, []),
  (96, .invokevirtual 83, 3, 2, 3, 28, 6, 2, [406, 403, 405, 50, 5]),
  (99, .ireturn, 1, 3, 0, 0, 0, 0, [])]
def mc7 : List mB := mc7_0
def mq7 : mM := (1, 6, mc7, ⟨"SlabPatterns", "want", "(IIIII)I"⟩, prog_1_method_3_code, 6, some .int, [], [], "SlabPatterns")
/-- SlabPatterns.turn(IZ)V -/
def mc8_0 : List mB := [(0, .aload_n 0, 1, 0, 1, 0, 0, 0, []),
  (1, .getfield 19, 3, 0, 6, 0, 1, 0, [267]),
  (4, .iload_n 1, 1, 0, 1, 0, 0, 0, []),
  (5, .invokevirtual 87, 3, 2, 3, 29, 2, 2, [419, 416, 418, 50, 6]),
  (8, .ifCond .ne 13, 3, 1, 0, 21, 0, 0, []),
  (11, .new 91, 3, 4, 0, 2, 93, 95, [420, 60, 3]),
  (21, .aload_n 0, 1, 0, 1, 0, 0, 0, []),
  (22, .getfield 19, 3, 0, 6, 0, 1, 0, [267]),
  (25, .getfield 96, 3, 0, 6, 2, 6, 1, [137]),
  (28, .iload_n 1, 1, 0, 1, 0, 0, 0, []),
  (29, .iload_n 2, 1, 0, 1, 0, 0, 0, []),
  (30, .bastore, 1, 0, 9, 0, 0, 0, []),
  (31, .return_, 1, 3, 0, 0, 0, 0, [])]
def mc8 : List mB := mc8_0
def mq8 : mM := (1, 6, mc8, ⟨"SlabPatterns", "turn", "(IZ)V"⟩, prog_1_method_4_code, 3, none, [], [], "SlabPatterns")
/-- SlabPatterns.rules(IIIII)V -/
def mc9_0 : List mB := [(0, .iload_n 1, 1, 0, 1, 0, 0, 0, []),
  (1, .iconst 1, 1, 0, 0, 0, 0, 0, []),
  (2, .iconst 2, 1, 0, 0, 0, 0, 0, []),
  (3, .invokestatic 47, 3, 2, 4, 6, 3, 0, [302, 300, 301, 48]),
  (6, .ifCond .ne 48, 3, 1, 0, 54, 0, 0, []),
  (9, .iload_n 2, 1, 0, 1, 0, 0, 0, []),
  (10, .iconst 0, 1, 0, 0, 0, 0, 0, []),
  (11, .bipush 20, 2, 0, 0, 0, 0, 0, []),
  (13, .invokestatic 47, 3, 2, 4, 6, 3, 0, [302, 300, 301, 48]),
  (16, .ifCond .ne 38, 3, 1, 0, 54, 0, 0, []),
  (19, .iload_n 3, 1, 0, 1, 0, 0, 0, []),
  (20, .iconst 0, 1, 0, 0, 0, 0, 0, []),
  (21, .sipush 200, 3, 0, 0, 0, 0, 0, []),
  (24, .invokestatic 47, 3, 2, 4, 6, 3, 0, [302, 300, 301, 48]),
  (27, .ifCond .ne 27, 3, 1, 0, 54, 0, 0, []),
  (30, .iload 4, 2, 0, 1, 0, 0, 0, []),
  (32, .iconst 0, 1, 0, 0, 0, 0, 0, []),
  (33, .sipush 200, 3, 0, 0, 0, 0, 0, []),
  (36, .invokestatic 47, 3, 2, 4, 6, 3, 0, [302, 300, 301, 48]),
  (39, .ifCond .ne 15, 3, 1, 0, 54, 0, 0, []),
  (42, .iload 5, 2, 0, 1, 0, 0, 0, []),
  (44, .iconst 0, 1, 0, 0, 0, 0, 0, []),
  (45, .sipush 200, 3, 0, 0, 0, 0, 0, []),
  (48, .invokestatic 47, 3, 2, 4, 6, 3, 0, [302, 300, 301, 48]),
  (51, .ifCond .eq 13, 3, 1, 0, 64, 0, 0, []),
  (54, .new 51, 3, 4, 0, 0, 100, 55, [303, 58, 4]),
  (64, .aload_n 0, 1, 0, 1, 0, 0, 0, []),
  (65, .getfield 12, 3, 0, 6, 0, 0, 0, [266]),
  (68, .iload_n 1, 1, 0, 1, 0, 0, 0, []),
  (69, .putfield 102, 3, 0, 7, 1, 3, 1, [85]),
  (72, .aload_n 0, 1, 0, 1, 0, 0, 0, []),
  (73, .getfield 12, 3, 0, 6, 0, 0, 0, [266]),
  (76, .iload_n 2, 1, 0, 1, 0, 0, 0, []),
  (77, .putfield 105, 3, 0, 7, 1, 4, 1, [87]),
  (80, .aload_n 0, 1, 0, 1, 0, 0, 0, []),
  (81, .getfield 12, 3, 0, 6, 0, 0, 0, [266]),
  (84, .iload_n 3, 1, 0, 1, 0, 0, 0, []),
  (85, .putfield 108, 3, 0, 7, 1, 5, 1, [90]),
  (88, .aload_n 0, 1, 0, 1, 0, 0, 0, []),
  (89, .getfield 12, 3, 0, 6, 0, 0, 0, [266])]
def mc9_1 : List mB := [(92, .iload 4, 2, 0, 1, 0, 0, 0, []),
  (94, .putfield 111, 3, 0, 7, 1, 6, 1, [93]),
  (97, .aload_n 0, 1, 0, 1, 0, 0, 0, []),
  (98, .getfield 12, 3, 0, 6, 0, 0, 0, [266]),
  (101, .iload 5, 2, 0, 1, 0, 0, 0, []),
  (103, .putfield 114, 3, 0, 7, 1, 7, 1, [95]),
  (106, .return_, 1, 3, 0, 0, 0, 0, [])]
def mc9 : List mB := mc9_0 ++ (mc9_1)
def mq9 : mM := (1, 6, mc9, ⟨"SlabPatterns", "rules", "(IIIII)V"⟩, prog_1_method_5_code, 6, none, [], [], "SlabPatterns")
/-- SlabPatterns.bar(II)I -/
def mc10_0 : List mB := [(0, .iload_n 1, 1, 0, 1, 0, 0, 0, []),
  (1, .iconst 0, 1, 0, 0, 0, 0, 0, []),
  (2, .sipush 200, 3, 0, 0, 0, 0, 0, []),
  (5, .invokestatic 47, 3, 2, 4, 6, 3, 0, [302, 300, 301, 48]),
  (8, .ifCond .ne 19, 3, 1, 0, 27, 0, 0, []),
  (11, .iload_n 2, 1, 0, 1, 0, 0, 0, []),
  (12, .iconst 0, 1, 0, 0, 0, 0, 0, []),
  (13, .sipush 200, 3, 0, 0, 0, 0, 0, []),
  (16, .invokestatic 47, 3, 2, 4, 6, 3, 0, [302, 300, 301, 48]),
  (19, .ifCond .ne 8, 3, 1, 0, 27, 0, 0, []),
  (22, .iload_n 2, 1, 0, 1, 0, 0, 0, []),
  (23, .iload_n 1, 1, 0, 1, 0, 0, 0, []),
  (24, .if_icmp .gt 13, 3, 1, 0, 37, 0, 0, []),
  (27, .new 51, 3, 4, 0, 0, 117, 55, [303, 58, 5]),
  (37, .aload_n 0, 1, 0, 1, 0, 0, 0, []),
  (38, .getfield 12, 3, 0, 6, 0, 0, 0, [266]),
  (41, .getfield 119, 3, 0, 6, 1, 8, 1, [97]),
  (44, .iconst 4, 1, 0, 0, 0, 0, 0, []),
  (45, .if_icmp .lt 13, 3, 1, 0, 58, 0, 0, []),
  (48, .new 78, 3, 4, 0, 3, 122, 82, [387, 59, 6]),
  (58, .aload_n 0, 1, 0, 1, 0, 0, 0, []),
  (59, .getfield 12, 3, 0, 6, 0, 0, 0, [266]),
  (62, .iload_n 1, 1, 0, 1, 0, 0, 0, []),
  (63, .iload_n 2, 1, 0, 1, 0, 0, 0, []),
  (64, .invokevirtual 124, 3, 2, 3, 22, 3, 1, [456, 453, 455, 49, 7]),
  (67, .ireturn, 1, 3, 0, 0, 0, 0, [])]
def mc10 : List mB := mc10_0
def mq10 : mM := (1, 6, mc10, ⟨"SlabPatterns", "bar", "(II)I"⟩, prog_1_method_6_code, 3, some .int, [], [], "SlabPatterns")
/-- SlabPatterns.run(I)I -/
def mc11_0 : List mB := [(0, .iload_n 1, 1, 0, 1, 0, 0, 0, []),
  (1, .iconst 0, 1, 0, 0, 0, 0, 0, []),
  (2, .ldc 71, 2, 0, 0, 100000, 0, 0, [380]),
  (4, .invokestatic 47, 3, 2, 4, 6, 3, 0, [302, 300, 301, 48]),
  (7, .ifCond .eq 13, 3, 1, 0, 20, 0, 0, []),
  (10, .new 51, 3, 4, 0, 0, 128, 55, [303, 58, 7]),
  (20, .aload_n 0, 1, 0, 1, 0, 0, 0, []),
  (21, .getfield 26, 3, 0, 6, 0, 2, 0, [268]),
  (24, .aload_n 0, 1, 0, 1, 0, 0, 0, []),
  (25, .getfield 12, 3, 0, 6, 0, 0, 0, [266]),
  (28, .aload_n 0, 1, 0, 1, 0, 0, 0, []),
  (29, .getfield 19, 3, 0, 6, 0, 1, 0, [267]),
  (32, .invokevirtual 130, 3, 2, 3, 35, 3, 3, [471, 468, 470, 51, 8]),
  (35, .aload_n 0, 1, 0, 1, 0, 0, 0, []),
  (36, .aload_n 0, 1, 0, 1, 0, 0, 0, []),
  (37, .getfield 33, 3, 0, 6, 0, 3, 0, [269]),
  (40, .aload_n 0, 1, 0, 1, 0, 0, 0, []),
  (41, .getfield 12, 3, 0, 6, 0, 0, 0, [266]),
  (44, .aload_n 0, 1, 0, 1, 0, 0, 0, []),
  (45, .getfield 26, 3, 0, 6, 0, 2, 0, [268]),
  (48, .aload_n 0, 1, 0, 1, 0, 0, 0, []),
  (49, .getfield 40, 3, 0, 6, 0, 4, 0, [270]),
  (52, .iload_n 1, 1, 0, 1, 0, 0, 0, []),
  (53, .invokevirtual 134, 3, 2, 3, 39, 5, 4, [501, 498, 500, 52, 14]),
  (56, .putfield 138, 3, 0, 7, 0, 6, 0, [272]),
  (59, .aload_n 0, 1, 0, 1, 0, 0, 0, []),
  (60, .getfield 40, 3, 0, 6, 0, 4, 0, [270]),
  (63, .aload_n 0, 1, 0, 1, 0, 0, 0, []),
  (64, .getfield 12, 3, 0, 6, 0, 0, 0, [266]),
  (67, .aload_n 0, 1, 0, 1, 0, 0, 0, []),
  (68, .getfield 19, 3, 0, 6, 0, 1, 0, [267]),
  (71, .invokevirtual 142, 3, 2, 3, 49, 3, 5, [553, 550, 552, 53, 26]),
  (74, .aload_n 0, 1, 0, 1, 0, 0, 0, []),
  (75, .iconst 1, 1, 0, 0, 0, 0, 0, []),
  (76, .putfield 145, 3, 0, 7, 0, 5, 0, [271]),
  (79, .aload_n 0, 1, 0, 1, 0, 0, 0, []),
  (80, .getfield 33, 3, 0, 6, 0, 3, 0, [269]),
  (83, .getfield 148, 3, 0, 6, 4, 0, 1, [233]),
  (86, .ireturn, 1, 3, 0, 0, 0, 0, [])]
def mc11 : List mB := mc11_0
def mq11 : mM := (1, 6, mc11, ⟨"SlabPatterns", "run", "(I)I"⟩, prog_1_method_7_code, 2, some .int, [], [], "SlabPatterns")
/-- SlabPatterns.proved()Z -/
def mc12_0 : List mB := [(0, .aload_n 0, 1, 0, 1, 0, 0, 0, []),
  (1, .invokevirtual 151, 3, 2, 6, 13, 1, 0, [591, 588, 590, 48, 33]),
  (4, .aload_n 0, 1, 0, 1, 0, 0, 0, []),
  (5, .getfield 138, 3, 0, 6, 0, 6, 0, [272]),
  (8, .ireturn, 1, 3, 0, 0, 0, 0, [])]
def mc12 : List mB := mc12_0
def mq12 : mM := (1, 6, mc12, ⟨"SlabPatterns", "proved", "()Z"⟩, prog_1_method_8_code, 1, some .boolean, [], [], "SlabPatterns")
/-- SlabPatterns.requirePattern()V -/
def mc13_0 : List mB := [(0, .aload_n 0, 1, 0, 1, 0, 0, 0, []),
  (1, .getfield 145, 3, 0, 6, 0, 5, 0, [271]),
  (4, .ifCond .ne 13, 3, 1, 0, 17, 0, 0, []),
  (7, .new 188, 3, 4, 0, 1, 190, 192, [592, 62, 8]),
  (17, .return_, 1, 3, 0, 0, 0, 0, [])]
def mc13 : List mB := mc13_0
def mq13 : mM := (1, 6, mc13, ⟨"SlabPatterns", "requirePattern", "()V"⟩, prog_1_method_16_code, 1, none, [], [], "SlabPatterns")
/-- SlabPatterns.strips()I -/
def mc14_0 : List mB := [(0, .aload_n 0, 1, 0, 1, 0, 0, 0, []),
  (1, .invokevirtual 151, 3, 2, 6, 13, 1, 0, [591, 588, 590, 48, 33]),
  (4, .aload_n 0, 1, 0, 1, 0, 0, 0, []),
  (5, .getfield 40, 3, 0, 6, 0, 4, 0, [270]),
  (8, .getfield 154, 3, 0, 6, 5, 0, 1, [203]),
  (11, .ireturn, 1, 3, 0, 0, 0, 0, [])]
def mc14 : List mB := mc14_0
def mq14 : mM := (1, 6, mc14, ⟨"SlabPatterns", "strips", "()I"⟩, prog_1_method_9_code, 1, some .int, [], [], "SlabPatterns")
/-- SlabPatterns.strip(II)I -/
def mc15_0 : List mB := [(0, .iload_n 2, 1, 0, 1, 0, 0, 0, []),
  (1, .iconst 0, 1, 0, 0, 0, 0, 0, []),
  (2, .iconst 4, 1, 0, 0, 0, 0, 0, []),
  (3, .invokestatic 47, 3, 2, 4, 6, 3, 0, [302, 300, 301, 48]),
  (6, .ifCond .eq 13, 3, 1, 0, 19, 0, 0, []),
  (9, .new 91, 3, 4, 0, 2, 157, 95, [420, 60, 9]),
  (19, .aload_n 0, 1, 0, 1, 0, 0, 0, []),
  (20, .invokevirtual 151, 3, 2, 6, 13, 1, 0, [591, 588, 590, 48, 33]),
  (23, .aload_n 0, 1, 0, 1, 0, 0, 0, []),
  (24, .getfield 40, 3, 0, 6, 0, 4, 0, [270]),
  (27, .iload_n 1, 1, 0, 1, 0, 0, 0, []),
  (28, .invokevirtual 159, 3, 2, 3, 52, 2, 5, [570, 623, 569, 53, 30]),
  (31, .ifCond .ne 13, 3, 1, 0, 44, 0, 0, []),
  (34, .new 51, 3, 4, 0, 0, 160, 55, [303, 58, 10]),
  (44, .iload_n 2, 1, 0, 1, 0, 0, 0, []),
  (45, .tableswitch 79 0 3 #[31, 41, 59, 69], 31, 0, 17, 0, 0, 0, []),
  (76, .aload_n 0, 1, 0, 1, 0, 0, 0, []),
  (77, .getfield 40, 3, 0, 6, 0, 4, 0, [270]),
  (80, .getfield 162, 3, 0, 6, 5, 1, 1, [206]),
  (83, .iload_n 1, 1, 0, 1, 0, 0, 0, []),
  (84, .iaload, 1, 0, 8, 0, 0, 0, []),
  (85, .ireturn, 1, 3, 0, 0, 0, 0, []),
  (86, .aload_n 0, 1, 0, 1, 0, 0, 0, []),
  (87, .getfield 40, 3, 0, 6, 0, 4, 0, [270]),
  (90, .getfield 166, 3, 0, 6, 5, 2, 1, [209]),
  (93, .iload_n 1, 1, 0, 1, 0, 0, 0, []),
  (94, .baload, 1, 0, 8, 0, 0, 0, []),
  (95, .ifCond .eq 7, 3, 1, 0, 102, 0, 0, []),
  (98, .iconst 1, 1, 0, 0, 0, 0, 0, []),
  (99, .goto 4, 3, 0, 16, 103, 0, 0, []),
  (102, .iconst 0, 1, 0, 0, 0, 0, 0, []),
  (103, .ireturn, 1, 3, 0, 0, 0, 0, []),
  (104, .aload_n 0, 1, 0, 1, 0, 0, 0, []),
  (105, .getfield 40, 3, 0, 6, 0, 4, 0, [270]),
  (108, .getfield 169, 3, 0, 6, 5, 3, 1, [212]),
  (111, .iload_n 1, 1, 0, 1, 0, 0, 0, []),
  (112, .iaload, 1, 0, 8, 0, 0, 0, []),
  (113, .ireturn, 1, 3, 0, 0, 0, 0, []),
  (114, .aload_n 0, 1, 0, 1, 0, 0, 0, []),
  (115, .getfield 40, 3, 0, 6, 0, 4, 0, [270])]
def mc15_1 : List mB := [(118, .getfield 172, 3, 0, 6, 5, 4, 1, [215]),
  (121, .iload_n 1, 1, 0, 1, 0, 0, 0, []),
  (122, .iaload, 1, 0, 8, 0, 0, 0, []),
  (123, .ireturn, 1, 3, 0, 0, 0, 0, []),
  (124, .aload_n 0, 1, 0, 1, 0, 0, 0, []),
  (125, .getfield 40, 3, 0, 6, 0, 4, 0, [270]),
  (128, .getfield 174, 3, 0, 6, 5, 5, 1, [218]),
  (131, .iload_n 1, 1, 0, 1, 0, 0, 0, []),
  (132, .iaload, 1, 0, 8, 0, 0, 0, []),
  (133, .ireturn, 1, 3, 0, 0, 0, 0, [])]
def mc15 : List mB := mc15_0 ++ (mc15_1)
def mq15 : mM := (2, 12, mc15, ⟨"SlabPatterns", "strip", "(II)I"⟩, prog_1_method_10_code, 3, some .int, [], [], "SlabPatterns")
/-- SlabPatterns.copies(I)I -/
def mc16_0 : List mB := [(0, .aload_n 0, 1, 0, 1, 0, 0, 0, []),
  (1, .getfield 19, 3, 0, 6, 0, 1, 0, [267]),
  (4, .iload_n 1, 1, 0, 1, 0, 0, 0, []),
  (5, .invokevirtual 87, 3, 2, 3, 29, 2, 2, [419, 416, 418, 50, 6]),
  (8, .ifCond .ne 13, 3, 1, 0, 21, 0, 0, []),
  (11, .new 91, 3, 4, 0, 2, 93, 95, [420, 60, 3]),
  (21, .aload_n 0, 1, 0, 1, 0, 0, 0, []),
  (22, .invokevirtual 151, 3, 2, 6, 13, 1, 0, [591, 588, 590, 48, 33]),
  (25, .aload_n 0, 1, 0, 1, 0, 0, 0, []),
  (26, .getfield 40, 3, 0, 6, 0, 4, 0, [270]),
  (29, .iload_n 1, 1, 0, 1, 0, 0, 0, []),
  (30, .aload_n 0, 1, 0, 1, 0, 0, 0, []),
  (31, .getfield 40, 3, 0, 6, 0, 4, 0, [270]),
  (34, .getfield 154, 3, 0, 6, 5, 0, 1, [203]),
  (37, .invokevirtual 177, 3, 2, 3, 55, 3, 5, [635, 632, 634, 53, 34]),
  (40, .ireturn, 1, 3, 0, 0, 0, 0, [])]
def mc16 : List mB := mc16_0
def mq16 : mM := (1, 6, mc16, ⟨"SlabPatterns", "copies", "(I)I"⟩, prog_1_method_11_code, 2, some .int, [], [], "SlabPatterns")
/-- SlabPatterns.rest(I)I -/
def mc17_0 : List mB := [(0, .iload_n 1, 1, 0, 1, 0, 0, 0, []),
  (1, .iconst 0, 1, 0, 0, 0, 0, 0, []),
  (2, .iconst 1, 1, 0, 0, 0, 0, 0, []),
  (3, .invokestatic 47, 3, 2, 4, 6, 3, 0, [302, 300, 301, 48]),
  (6, .ifCond .eq 13, 3, 1, 0, 19, 0, 0, []),
  (9, .new 91, 3, 4, 0, 2, 157, 95, [420, 60, 9]),
  (19, .aload_n 0, 1, 0, 1, 0, 0, 0, []),
  (20, .invokevirtual 151, 3, 2, 6, 13, 1, 0, [591, 588, 590, 48, 33]),
  (23, .aload_n 0, 1, 0, 1, 0, 0, 0, []),
  (24, .invokevirtual 180, 3, 2, 2, 18, 1, 0, [646, 643, 645, 48, 35]),
  (27, .istore_n 2, 1, 0, 2, 0, 0, 0, []),
  (28, .iload_n 1, 1, 0, 1, 0, 0, 0, []),
  (29, .ifCond .ne 5, 3, 1, 0, 34, 0, 0, []),
  (32, .iload_n 2, 1, 0, 1, 0, 0, 0, []),
  (33, .ireturn, 1, 3, 0, 0, 0, 0, []),
  (34, .iload_n 2, 1, 0, 1, 0, 0, 0, []),
  (35, .aload_n 0, 1, 0, 1, 0, 0, 0, []),
  (36, .getfield 12, 3, 0, 6, 0, 0, 0, [266]),
  (39, .getfield 114, 3, 0, 6, 1, 7, 1, [95]),
  (42, .if_icmp .lt 7, 3, 1, 0, 49, 0, 0, []),
  (45, .iconst 1, 1, 0, 0, 0, 0, 0, []),
  (46, .goto 4, 3, 0, 16, 50, 0, 0, []),
  (49, .iconst 0, 1, 0, 0, 0, 0, 0, []),
  (50, .ireturn, 1, 3, 0, 0, 0, 0, [])]
def mc17 : List mB := mc17_0
def mq17 : mM := (1, 6, mc17, ⟨"SlabPatterns", "rest", "(I)I"⟩, prog_1_method_12_code, 3, some .int, [], [], "SlabPatterns")
/-- SlabPatterns.restLength()I -/
def mc18_0 : List mB := [(0, .aload_n 0, 1, 0, 1, 0, 0, 0, []),
  (1, .getfield 12, 3, 0, 6, 0, 0, 0, [266]),
  (4, .getfield 108, 3, 0, 6, 1, 5, 1, [90]),
  (7, .istore_n 1, 1, 0, 2, 0, 0, 0, []),
  (8, .aload_n 0, 1, 0, 1, 0, 0, 0, []),
  (9, .getfield 40, 3, 0, 6, 0, 4, 0, [270]),
  (12, .getfield 154, 3, 0, 6, 5, 0, 1, [203]),
  (15, .ifCond .le 28, 3, 1, 0, 43, 0, 0, []),
  (18, .aload_n 0, 1, 0, 1, 0, 0, 0, []),
  (19, .getfield 40, 3, 0, 6, 0, 4, 0, [270]),
  (22, .aload_n 0, 1, 0, 1, 0, 0, 0, []),
  (23, .getfield 40, 3, 0, 6, 0, 4, 0, [270]),
  (26, .getfield 154, 3, 0, 6, 5, 0, 1, [203]),
  (29, .iconst 1, 1, 0, 0, 0, 0, 0, []),
  (30, .isub, 1, 0, 3, 0, 0, 0, []),
  (31, .invokevirtual 193, 3, 2, 3, 51, 2, 5, [566, 647, 565, 53, 29]),
  (34, .aload_n 0, 1, 0, 1, 0, 0, 0, []),
  (35, .getfield 12, 3, 0, 6, 0, 0, 0, [266]),
  (38, .getfield 65, 3, 0, 6, 1, 2, 1, [82]),
  (41, .iadd, 1, 0, 3, 0, 0, 0, []),
  (42, .istore_n 1, 1, 0, 2, 0, 0, 0, []),
  (43, .iconst 0, 1, 0, 0, 0, 0, 0, []),
  (44, .aload_n 0, 1, 0, 1, 0, 0, 0, []),
  (45, .getfield 12, 3, 0, 6, 0, 0, 0, [266]),
  (48, .invokevirtual 197, 3, 2, 3, 25, 1, 1, [518, 648, 517, 49, 18]),
  (51, .iload_n 1, 1, 0, 1, 0, 0, 0, []),
  (52, .isub, 1, 0, 3, 0, 0, 0, []),
  (53, .invokestatic 200, 3, 0, 13, 0, 0, 0, [649, 458, 61, 459]),
  (56, .ireturn, 1, 3, 0, 0, 0, 0, [])]
def mc18 : List mB := mc18_0
def mq18 : mM := (0, 0, mc18, ⟨"SlabPatterns", "restLength", "()I"⟩, prog_1_method_17_code, 2, some .int, [], [], "SlabPatterns")
/-- SlabPatterns.check()I -/
def mc19_0 : List mB := [(0, .aload_n 0, 1, 0, 1, 0, 0, 0, []),
  (1, .invokevirtual 151, 3, 2, 6, 13, 1, 0, [591, 588, 590, 48, 33]),
  (4, .iconst 0, 1, 0, 0, 0, 0, 0, []),
  (5, .istore_n 1, 1, 0, 2, 0, 0, 0, []),
  (6, .iload_n 1, 1, 0, 1, 0, 0, 0, []),
  (7, .aload_n 0, 1, 0, 1, 0, 0, 0, []),
  (8, .getfield 40, 3, 0, 6, 0, 4, 0, [270]),
  (11, .getfield 154, 3, 0, 6, 5, 0, 1, [203]),
  (14, .if_icmp .ge 32, 3, 1, 0, 46, 0, 0, []),
  (17, .aload_n 0, 1, 0, 1, 0, 0, 0, []),
  (18, .getfield 40, 3, 0, 6, 0, 4, 0, [270]),
  (21, .iload_n 1, 1, 0, 1, 0, 0, 0, []),
  (22, .aload_n 0, 1, 0, 1, 0, 0, 0, []),
  (23, .getfield 12, 3, 0, 6, 0, 0, 0, [266]),
  (26, .aload_n 0, 1, 0, 1, 0, 0, 0, []),
  (27, .getfield 19, 3, 0, 6, 0, 1, 0, [267]),
  (30, .invokevirtual 184, 3, 2, 3, 56, 4, 5, [660, 657, 659, 53, 36]),
  (33, .ifCond .ne 7, 3, 1, 0, 40, 0, 0, []),
  (36, .iconst 1, 1, 0, 0, 0, 0, 0, []),
  (37, .iload_n 1, 1, 0, 1, 0, 0, 0, []),
  (38, .iadd, 1, 0, 3, 0, 0, 0, []),
  (39, .ireturn, 1, 3, 0, 0, 0, 0, []),
  (40, .iinc 1 1, 3, 0, 2, 0, 0, 0, []),
  (43, .goto (-37), 3, 0, 16, 6, 0, 0, []),
  (46, .iconst 0, 1, 0, 0, 0, 0, 0, []),
  (47, .ireturn, 1, 3, 0, 0, 0, 0, [])]
def mc19 : List mB := mc19_0
def mq19 : mM := (1, 6, mc19, ⟨"SlabPatterns", "check", "()I"⟩, prog_1_method_13_code, 2, some .int, [], [], "SlabPatterns")
/-- SlabPatterns$Slab.<init>()V -/
def mc20_0 : List mB := [(0, .aload_n 0, 1, 0, 1, 0, 0, 0, []),
  (1, .invokespecial 3, 3, 0, 15, 0, 0, 0, [76, 69, 70]),
  (4, .aload_n 0, 1, 0, 1, 0, 0, 0, []),
  (5, .sipush 201, 3, 0, 0, 0, 0, 0, []),
  (8, .newarray .boolean, 2, 0, 12, 0, 0, 0, []),
  (10, .putfield 9, 3, 0, 7, 1, 9, 2, [98]),
  (13, .return_, 1, 3, 0, 0, 0, 0, [])]
def mc20 : List mB := mc20_0
def mq20 : mM := (1, 201, mc20, ⟨"SlabPatterns$Slab", "<init>", "()V"⟩, prog_4_method_1_code, 1, none, [], [], "SlabPatterns")
/-- SlabPatterns$Slab.reset()V -/
def mc21_0 : List mB := [(0, .aload_n 0, 1, 0, 1, 0, 0, 0, []),
  (1, .iconst 1, 1, 0, 0, 0, 0, 0, []),
  (2, .putfield 15, 3, 0, 7, 1, 0, 0, [77]),
  (5, .aload_n 0, 1, 0, 1, 0, 0, 0, []),
  (6, .iconst 1, 1, 0, 0, 0, 0, 0, []),
  (7, .putfield 19, 3, 0, 7, 1, 1, 0, [79]),
  (10, .aload_n 0, 1, 0, 1, 0, 0, 0, []),
  (11, .iconst 0, 1, 0, 0, 0, 0, 0, []),
  (12, .putfield 22, 3, 0, 7, 1, 2, 0, [81]),
  (15, .aload_n 0, 1, 0, 1, 0, 0, 0, []),
  (16, .iconst 2, 1, 0, 0, 0, 0, 0, []),
  (17, .putfield 25, 3, 0, 7, 1, 3, 0, [84]),
  (20, .aload_n 0, 1, 0, 1, 0, 0, 0, []),
  (21, .bipush 20, 2, 0, 0, 0, 0, 0, []),
  (23, .putfield 28, 3, 0, 7, 1, 4, 0, [86]),
  (26, .aload_n 0, 1, 0, 1, 0, 0, 0, []),
  (27, .iconst 0, 1, 0, 0, 0, 0, 0, []),
  (28, .putfield 31, 3, 0, 7, 1, 5, 0, [88]),
  (31, .aload_n 0, 1, 0, 1, 0, 0, 0, []),
  (32, .iconst 0, 1, 0, 0, 0, 0, 0, []),
  (33, .putfield 34, 3, 0, 7, 1, 6, 0, [92]),
  (36, .aload_n 0, 1, 0, 1, 0, 0, 0, []),
  (37, .bipush 10, 2, 0, 0, 0, 0, 0, []),
  (39, .putfield 37, 3, 0, 7, 1, 7, 0, [94]),
  (42, .aload_n 0, 1, 0, 1, 0, 0, 0, []),
  (43, .iconst 0, 1, 0, 0, 0, 0, 0, []),
  (44, .putfield 40, 3, 0, 7, 1, 8, 0, [96]),
  (47, .iconst 0, 1, 0, 0, 0, 0, 0, []),
  (48, .istore_n 1, 1, 0, 2, 0, 0, 0, []),
  (49, .iload_n 1, 1, 0, 1, 0, 0, 0, []),
  (50, .aload_n 0, 1, 0, 1, 0, 0, 0, []),
  (51, .getfield 9, 3, 0, 6, 1, 9, 0, [98]),
  (54, .arraylength, 1, 0, 10, 0, 0, 0, []),
  (55, .if_icmp .ge 16, 3, 1, 0, 71, 0, 0, []),
  (58, .aload_n 0, 1, 0, 1, 0, 0, 0, []),
  (59, .getfield 9, 3, 0, 6, 1, 9, 0, [98]),
  (62, .iload_n 1, 1, 0, 1, 0, 0, 0, []),
  (63, .iconst 0, 1, 0, 0, 0, 0, 0, []),
  (64, .bastore, 1, 0, 9, 0, 0, 0, []),
  (65, .iinc 1 1, 3, 0, 2, 0, 0, 0, [])]
def mc21_1 : List mB := [(68, .goto (-19), 3, 0, 16, 49, 0, 0, []),
  (71, .return_, 1, 3, 0, 0, 0, 0, [])]
def mc21 : List mB := mc21_0 ++ (mc21_1)
def mq21 : mM := (0, 0, mc21, ⟨"SlabPatterns$Slab", "reset", "()V"⟩, prog_4_method_2_code, 2, none, [], [], "SlabPatterns")
/-- SlabPatterns$Slab.addBar(II)I -/
def mc22_0 : List mB := [(0, .iconst 0, 1, 0, 0, 0, 0, 0, []),
  (1, .iload_n 1, 1, 0, 1, 0, 0, 0, []),
  (2, .iconst 1, 1, 0, 0, 0, 0, 0, []),
  (3, .iadd, 1, 0, 3, 0, 0, 0, []),
  (4, .invokestatic 43, 3, 0, 13, 0, 0, 0, [457, 458, 61, 459]),
  (7, .istore_n 3, 1, 0, 2, 0, 0, 0, []),
  (8, .iload_n 3, 1, 0, 1, 0, 0, 0, []),
  (9, .iload_n 2, 1, 0, 1, 0, 0, 0, []),
  (10, .if_icmp .ge 25, 3, 1, 0, 35, 0, 0, []),
  (13, .iload_n 3, 1, 0, 1, 0, 0, 0, []),
  (14, .aload_n 0, 1, 0, 1, 0, 0, 0, []),
  (15, .getfield 9, 3, 0, 6, 1, 9, 0, [98]),
  (18, .arraylength, 1, 0, 10, 0, 0, 0, []),
  (19, .if_icmp .ge 16, 3, 1, 0, 35, 0, 0, []),
  (22, .aload_n 0, 1, 0, 1, 0, 0, 0, []),
  (23, .getfield 9, 3, 0, 6, 1, 9, 0, [98]),
  (26, .iload_n 3, 1, 0, 1, 0, 0, 0, []),
  (27, .iconst 1, 1, 0, 0, 0, 0, 0, []),
  (28, .bastore, 1, 0, 9, 0, 0, 0, []),
  (29, .iinc 3 1, 3, 0, 2, 0, 0, 0, []),
  (32, .goto (-24), 3, 0, 16, 8, 0, 0, []),
  (35, .aload_n 0, 1, 0, 1, 0, 0, 0, []),
  (36, .dup, 1, 0, 5, 0, 0, 0, []),
  (37, .getfield 40, 3, 0, 6, 1, 8, 0, [96]),
  (40, .iconst 1, 1, 0, 0, 0, 0, 0, []),
  (41, .iadd, 1, 0, 3, 0, 0, 0, []),
  (42, .putfield 40, 3, 0, 7, 1, 8, 0, [96]),
  (45, .aload_n 0, 1, 0, 1, 0, 0, 0, []),
  (46, .getfield 40, 3, 0, 6, 1, 8, 0, [96]),
  (49, .ireturn, 1, 3, 0, 0, 0, 0, [])]
def mc22 : List mB := mc22_0
def mq22 : mM := (0, 0, mc22, ⟨"SlabPatterns$Slab", "addBar", "(II)I"⟩, prog_4_method_3_code, 4, some .int, [], [], "SlabPatterns")
/-- SlabPatterns$Slab.mostAcross(I)I -/
def mc23_0 : List mB := [(0, .iload_n 1, 1, 0, 1, 0, 0, 0, []),
  (1, .aload_n 0, 1, 0, 1, 0, 0, 0, []),
  (2, .getfield 22, 3, 0, 6, 1, 2, 0, [81]),
  (5, .iadd, 1, 0, 3, 0, 0, 0, []),
  (6, .istore_n 2, 1, 0, 2, 0, 0, 0, []),
  (7, .iload_n 2, 1, 0, 1, 0, 0, 0, []),
  (8, .ifCond .gt 5, 3, 1, 0, 13, 0, 0, []),
  (11, .iconst 0, 1, 0, 0, 0, 0, 0, []),
  (12, .ireturn, 1, 3, 0, 0, 0, 0, []),
  (13, .aload_n 0, 1, 0, 1, 0, 0, 0, []),
  (14, .getfield 19, 3, 0, 6, 1, 1, 0, [79]),
  (17, .aload_n 0, 1, 0, 1, 0, 0, 0, []),
  (18, .getfield 22, 3, 0, 6, 1, 2, 0, [81]),
  (21, .iadd, 1, 0, 3, 0, 0, 0, []),
  (22, .iload_n 2, 1, 0, 1, 0, 0, 0, []),
  (23, .idiv, 1, 0, 3, 0, 0, 0, []),
  (24, .istore_n 3, 1, 0, 2, 0, 0, 0, []),
  (25, .aload_n 0, 1, 0, 1, 0, 0, 0, []),
  (26, .getfield 25, 3, 0, 6, 1, 3, 0, [84]),
  (29, .iconst 1, 1, 0, 0, 0, 0, 0, []),
  (30, .if_icmp .ne 7, 3, 1, 0, 37, 0, 0, []),
  (33, .iconst 1, 1, 0, 0, 0, 0, 0, []),
  (34, .goto 9, 3, 0, 16, 43, 0, 0, []),
  (37, .aload_n 0, 1, 0, 1, 0, 0, 0, []),
  (38, .getfield 28, 3, 0, 6, 1, 4, 0, [86]),
  (41, .iconst 1, 1, 0, 0, 0, 0, 0, []),
  (42, .iadd, 1, 0, 3, 0, 0, 0, []),
  (43, .istore 4, 2, 0, 2, 0, 0, 0, []),
  (45, .iload_n 3, 1, 0, 1, 0, 0, 0, []),
  (46, .iload 4, 2, 0, 1, 0, 0, 0, []),
  (48, .invokestatic 49, 3, 0, 13, 1, 0, 0, [490, 491, 61, 492]),
  (51, .ireturn, 1, 3, 0, 0, 0, 0, [])]
def mc23 : List mB := mc23_0
def mq23 : mM := (0, 0, mc23, ⟨"SlabPatterns$Slab", "mostAcross", "(I)I"⟩, prog_4_method_6_code, 5, some .int, [], [], "SlabPatterns")
/-- SlabPatterns$Slab.isBarred(I)Z -/
def mc24_0 : List mB := [(0, .iload_n 1, 1, 0, 1, 0, 0, 0, []),
  (1, .ifCond .lt 25, 3, 1, 0, 26, 0, 0, []),
  (4, .iload_n 1, 1, 0, 1, 0, 0, 0, []),
  (5, .aload_n 0, 1, 0, 1, 0, 0, 0, []),
  (6, .getfield 9, 3, 0, 6, 1, 9, 0, [98]),
  (9, .arraylength, 1, 0, 10, 0, 0, 0, []),
  (10, .if_icmp .ge 16, 3, 1, 0, 26, 0, 0, []),
  (13, .aload_n 0, 1, 0, 1, 0, 0, 0, []),
  (14, .getfield 9, 3, 0, 6, 1, 9, 0, [98]),
  (17, .iload_n 1, 1, 0, 1, 0, 0, 0, []),
  (18, .baload, 1, 0, 8, 0, 0, 0, []),
  (19, .ifCond .eq 7, 3, 1, 0, 26, 0, 0, []),
  (22, .iconst 1, 1, 0, 0, 0, 0, 0, []),
  (23, .goto 4, 3, 0, 16, 27, 0, 0, []),
  (26, .iconst 0, 1, 0, 0, 0, 0, 0, []),
  (27, .ireturn, 1, 3, 0, 0, 0, 0, [])]
def mc24 : List mB := mc24_0
def mq24 : mM := (0, 0, mc24, ⟨"SlabPatterns$Slab", "isBarred", "(I)Z"⟩, prog_4_method_4_code, 2, some .boolean, [], [], "SlabPatterns")
/-- SlabPatterns$Slab.lastEnd()I -/
def mc25_0 : List mB := [(0, .aload_n 0, 1, 0, 1, 0, 0, 0, []),
  (1, .getfield 15, 3, 0, 6, 1, 0, 0, [77]),
  (4, .aload_n 0, 1, 0, 1, 0, 0, 0, []),
  (5, .getfield 34, 3, 0, 6, 1, 6, 0, [92]),
  (8, .isub, 1, 0, 3, 0, 0, 0, []),
  (9, .ireturn, 1, 3, 0, 0, 0, 0, [])]
def mc25 : List mB := mc25_0
def mq25 : mM := (0, 0, mc25, ⟨"SlabPatterns$Slab", "lastEnd", "()I"⟩, prog_4_method_5_code, 1, some .int, [], [], "SlabPatterns")
/-- SlabPatterns$Wanted.<init>()V -/
def mc26_0 : List mB := [(0, .aload_n 0, 1, 0, 1, 0, 0, 0, []),
  (1, .invokespecial 3, 3, 0, 15, 0, 0, 0, [126, 69, 70]),
  (4, .aload_n 0, 1, 0, 1, 0, 0, 0, []),
  (5, .iconst 5, 1, 0, 0, 0, 0, 0, []),
  (6, .newarray .int, 2, 0, 12, 0, 0, 0, []),
  (8, .putfield 9, 3, 0, 7, 2, 1, 2, [129]),
  (11, .aload_n 0, 1, 0, 1, 0, 0, 0, []),
  (12, .iconst 5, 1, 0, 0, 0, 0, 0, []),
  (13, .newarray .int, 2, 0, 12, 0, 0, 0, []),
  (15, .putfield 15, 3, 0, 7, 2, 2, 2, [130]),
  (18, .aload_n 0, 1, 0, 1, 0, 0, 0, []),
  (19, .iconst 5, 1, 0, 0, 0, 0, 0, []),
  (20, .newarray .int, 2, 0, 12, 0, 0, 0, []),
  (22, .putfield 18, 3, 0, 7, 2, 3, 2, [131]),
  (25, .aload_n 0, 1, 0, 1, 0, 0, 0, []),
  (26, .iconst 5, 1, 0, 0, 0, 0, 0, []),
  (27, .newarray .int, 2, 0, 12, 0, 0, 0, []),
  (29, .putfield 21, 3, 0, 7, 2, 4, 2, [132]),
  (32, .aload_n 0, 1, 0, 1, 0, 0, 0, []),
  (33, .iconst 5, 1, 0, 0, 0, 0, 0, []),
  (34, .newarray .int, 2, 0, 12, 0, 0, 0, []),
  (36, .putfield 24, 3, 0, 7, 2, 5, 2, [134]),
  (39, .aload_n 0, 1, 0, 1, 0, 0, 0, []),
  (40, .iconst 5, 1, 0, 0, 0, 0, 0, []),
  (41, .newarray .boolean, 2, 0, 12, 0, 0, 0, []),
  (43, .putfield 27, 3, 0, 7, 2, 6, 2, [135]),
  (46, .return_, 1, 3, 0, 0, 0, 0, [])]
def mc26 : List mB := mc26_0
def mq26 : mM := (6, 30, mc26, ⟨"SlabPatterns$Wanted", "<init>", "()V"⟩, prog_6_method_1_code, 1, none, [], [], "SlabPatterns")
/-- SlabPatterns$Wanted.isFull()Z -/
def mc27_0 : List mB := [(0, .aload_n 0, 1, 0, 1, 0, 0, 0, []),
  (1, .getfield 31, 3, 0, 6, 2, 0, 0, [127]),
  (4, .iconst 0, 1, 0, 0, 0, 0, 0, []),
  (5, .iconst 4, 1, 0, 0, 0, 0, 0, []),
  (6, .invokestatic 35, 3, 2, 5, 6, 3, 0, [302, 386, 301, 48]),
  (9, .ireturn, 1, 3, 0, 0, 0, 0, [])]
def mc27 : List mB := mc27_0
def mq27 : mM := (0, 0, mc27, ⟨"SlabPatterns$Wanted", "isFull", "()Z"⟩, prog_6_method_3_code, 1, some .boolean, [], [], "SlabPatterns")
/-- SlabPatterns$Wanted.add(IIIII)I -/
def mc28_0 : List mB := [(0, .aload_n 0, 1, 0, 1, 0, 0, 0, []),
  (1, .invokevirtual 39, 3, 2, 2, 27, 1, 2, [385, 407, 384, 50, 4]),
  (4, .ifCond .eq 5, 3, 1, 0, 9, 0, 0, []),
  (7, .iconst (-1), 1, 0, 0, 0, 0, 0, []),
  (8, .ireturn, 1, 3, 0, 0, 0, 0, []),
  (9, .aload_n 0, 1, 0, 1, 0, 0, 0, []),
  (10, .getfield 31, 3, 0, 6, 2, 0, 0, [127]),
  (13, .istore 6, 2, 0, 2, 0, 0, 0, []),
  (15, .aload_n 0, 1, 0, 1, 0, 0, 0, []),
  (16, .getfield 9, 3, 0, 6, 2, 1, 0, [129]),
  (19, .iload 6, 2, 0, 1, 0, 0, 0, []),
  (21, .iload_n 1, 1, 0, 1, 0, 0, 0, []),
  (22, .iastore, 1, 0, 9, 0, 0, 0, []),
  (23, .aload_n 0, 1, 0, 1, 0, 0, 0, []),
  (24, .getfield 15, 3, 0, 6, 2, 2, 0, [130]),
  (27, .iload 6, 2, 0, 1, 0, 0, 0, []),
  (29, .iload_n 2, 1, 0, 1, 0, 0, 0, []),
  (30, .iastore, 1, 0, 9, 0, 0, 0, []),
  (31, .aload_n 0, 1, 0, 1, 0, 0, 0, []),
  (32, .getfield 18, 3, 0, 6, 2, 3, 0, [131]),
  (35, .iload 6, 2, 0, 1, 0, 0, 0, []),
  (37, .iload_n 3, 1, 0, 1, 0, 0, 0, []),
  (38, .iastore, 1, 0, 9, 0, 0, 0, []),
  (39, .aload_n 0, 1, 0, 1, 0, 0, 0, []),
  (40, .getfield 21, 3, 0, 6, 2, 4, 0, [132]),
  (43, .iload 6, 2, 0, 1, 0, 0, 0, []),
  (45, .iload 4, 2, 0, 1, 0, 0, 0, []),
  (47, .iastore, 1, 0, 9, 0, 0, 0, []),
  (48, .aload_n 0, 1, 0, 1, 0, 0, 0, []),
  (49, .getfield 24, 3, 0, 6, 2, 5, 0, [134]),
  (52, .iload 6, 2, 0, 1, 0, 0, 0, []),
  (54, .iload 5, 2, 0, 1, 0, 0, 0, []),
  (56, .iastore, 1, 0, 9, 0, 0, 0, []),
  (57, .aload_n 0, 1, 0, 1, 0, 0, 0, []),
  (58, .getfield 27, 3, 0, 6, 2, 6, 0, [135]),
  (61, .iload 6, 2, 0, 1, 0, 0, 0, []),
  (63, .iconst 0, 1, 0, 0, 0, 0, 0, []),
  (64, .bastore, 1, 0, 9, 0, 0, 0, []),
  (65, .aload_n 0, 1, 0, 1, 0, 0, 0, []),
  (66, .dup, 1, 0, 5, 0, 0, 0, [])]
def mc28_1 : List mB := [(67, .getfield 31, 3, 0, 6, 2, 0, 0, [127]),
  (70, .iconst 1, 1, 0, 0, 0, 0, 0, []),
  (71, .iadd, 1, 0, 3, 0, 0, 0, []),
  (72, .putfield 31, 3, 0, 7, 2, 0, 0, [127]),
  (75, .iload 6, 2, 0, 1, 0, 0, 0, []),
  (77, .ireturn, 1, 3, 0, 0, 0, 0, [])]
def mc28 : List mB := mc28_0 ++ (mc28_1)
def mq28 : mM := (0, 0, mc28, ⟨"SlabPatterns$Wanted", "add", "(IIIII)I"⟩, prog_6_method_4_code, 7, some .int, [], [], "SlabPatterns")
/-- SlabPatterns$Wanted.has(I)Z -/
def mc29_0 : List mB := [(0, .iload_n 1, 1, 0, 1, 0, 0, 0, []),
  (1, .ifCond .lt 20, 3, 1, 0, 21, 0, 0, []),
  (4, .iload_n 1, 1, 0, 1, 0, 0, 0, []),
  (5, .aload_n 0, 1, 0, 1, 0, 0, 0, []),
  (6, .getfield 31, 3, 0, 6, 2, 0, 0, [127]),
  (9, .if_icmp .ge 12, 3, 1, 0, 21, 0, 0, []),
  (12, .iload_n 1, 1, 0, 1, 0, 0, 0, []),
  (13, .iconst 5, 1, 0, 0, 0, 0, 0, []),
  (14, .if_icmp .ge 7, 3, 1, 0, 21, 0, 0, []),
  (17, .iconst 1, 1, 0, 0, 0, 0, 0, []),
  (18, .goto 4, 3, 0, 16, 22, 0, 0, []),
  (21, .iconst 0, 1, 0, 0, 0, 0, 0, []),
  (22, .ireturn, 1, 3, 0, 0, 0, 0, [])]
def mc29 : List mB := mc29_0
def mq29 : mM := (0, 0, mc29, ⟨"SlabPatterns$Wanted", "has", "(I)Z"⟩, prog_6_method_2_code, 2, some .boolean, [], [], "SlabPatterns")
/-- SlabPatterns$Wanted.manyOf(I)I -/
def mc30_0 : List mB := [(0, .aload_n 0, 1, 0, 1, 0, 0, 0, []),
  (1, .iload_n 1, 1, 0, 1, 0, 0, 0, []),
  (2, .invokevirtual 43, 3, 2, 2, 29, 2, 2, [419, 476, 418, 50, 6]),
  (5, .ifCond .eq 12, 3, 1, 0, 17, 0, 0, []),
  (8, .aload_n 0, 1, 0, 1, 0, 0, 0, []),
  (9, .getfield 24, 3, 0, 6, 2, 5, 0, [134]),
  (12, .iload_n 1, 1, 0, 1, 0, 0, 0, []),
  (13, .iaload, 1, 0, 8, 0, 0, 0, []),
  (14, .goto 4, 3, 0, 16, 18, 0, 0, []),
  (17, .iconst 0, 1, 0, 0, 0, 0, 0, []),
  (18, .ireturn, 1, 3, 0, 0, 0, 0, [])]
def mc30 : List mB := mc30_0
def mq30 : mM := (0, 0, mc30, ⟨"SlabPatterns$Wanted", "manyOf", "(I)I"⟩, prog_6_method_8_code, 2, some .int, [], [], "SlabPatterns")
/-- SlabPatterns$Wanted.acrossOf(IZ)I -/
def mc31_0 : List mB := [(0, .aload_n 0, 1, 0, 1, 0, 0, 0, []),
  (1, .iload_n 1, 1, 0, 1, 0, 0, 0, []),
  (2, .invokevirtual 43, 3, 2, 2, 29, 2, 2, [419, 476, 418, 50, 6]),
  (5, .ifCond .ne 5, 3, 1, 0, 10, 0, 0, []),
  (8, .iconst 0, 1, 0, 0, 0, 0, 0, []),
  (9, .ireturn, 1, 3, 0, 0, 0, 0, []),
  (10, .iload_n 2, 1, 0, 1, 0, 0, 0, []),
  (11, .ifCond .eq 12, 3, 1, 0, 23, 0, 0, []),
  (14, .aload_n 0, 1, 0, 1, 0, 0, 0, []),
  (15, .getfield 9, 3, 0, 6, 2, 1, 0, [129]),
  (18, .iload_n 1, 1, 0, 1, 0, 0, 0, []),
  (19, .iaload, 1, 0, 8, 0, 0, 0, []),
  (20, .goto 9, 3, 0, 16, 29, 0, 0, []),
  (23, .aload_n 0, 1, 0, 1, 0, 0, 0, []),
  (24, .getfield 18, 3, 0, 6, 2, 3, 0, [131]),
  (27, .iload_n 1, 1, 0, 1, 0, 0, 0, []),
  (28, .iaload, 1, 0, 8, 0, 0, 0, []),
  (29, .ireturn, 1, 3, 0, 0, 0, 0, [])]
def mc31 : List mB := mc31_0
def mq31 : mM := (0, 0, mc31, ⟨"SlabPatterns$Wanted", "acrossOf", "(IZ)I"⟩, prog_6_method_6_code, 3, some .int, [], [], "SlabPatterns")
/-- SlabPatterns$Wanted.lengthOf(IZ)I -/
def mc32_0 : List mB := [(0, .aload_n 0, 1, 0, 1, 0, 0, 0, []),
  (1, .iload_n 1, 1, 0, 1, 0, 0, 0, []),
  (2, .invokevirtual 43, 3, 2, 2, 29, 2, 2, [419, 476, 418, 50, 6]),
  (5, .ifCond .ne 5, 3, 1, 0, 10, 0, 0, []),
  (8, .iconst 0, 1, 0, 0, 0, 0, 0, []),
  (9, .ireturn, 1, 3, 0, 0, 0, 0, []),
  (10, .iload_n 2, 1, 0, 1, 0, 0, 0, []),
  (11, .ifCond .eq 12, 3, 1, 0, 23, 0, 0, []),
  (14, .aload_n 0, 1, 0, 1, 0, 0, 0, []),
  (15, .getfield 18, 3, 0, 6, 2, 3, 0, [131]),
  (18, .iload_n 1, 1, 0, 1, 0, 0, 0, []),
  (19, .iaload, 1, 0, 8, 0, 0, 0, []),
  (20, .goto 9, 3, 0, 16, 29, 0, 0, []),
  (23, .aload_n 0, 1, 0, 1, 0, 0, 0, []),
  (24, .getfield 9, 3, 0, 6, 2, 1, 0, [129]),
  (27, .iload_n 1, 1, 0, 1, 0, 0, 0, []),
  (28, .iaload, 1, 0, 8, 0, 0, 0, []),
  (29, .ireturn, 1, 3, 0, 0, 0, 0, [])]
def mc32 : List mB := mc32_0
def mq32 : mM := (0, 0, mc32, ⟨"SlabPatterns$Wanted", "lengthOf", "(IZ)I"⟩, prog_6_method_5_code, 3, some .int, [], [], "SlabPatterns")
/-- SlabPatterns$Wanted.longestOf(IZ)I -/
def mc33_0 : List mB := [(0, .aload_n 0, 1, 0, 1, 0, 0, 0, []),
  (1, .iload_n 1, 1, 0, 1, 0, 0, 0, []),
  (2, .invokevirtual 43, 3, 2, 2, 29, 2, 2, [419, 476, 418, 50, 6]),
  (5, .ifCond .ne 5, 3, 1, 0, 10, 0, 0, []),
  (8, .iconst 0, 1, 0, 0, 0, 0, 0, []),
  (9, .ireturn, 1, 3, 0, 0, 0, 0, []),
  (10, .iload_n 2, 1, 0, 1, 0, 0, 0, []),
  (11, .ifCond .eq 12, 3, 1, 0, 23, 0, 0, []),
  (14, .aload_n 0, 1, 0, 1, 0, 0, 0, []),
  (15, .getfield 18, 3, 0, 6, 2, 3, 0, [131]),
  (18, .iload_n 1, 1, 0, 1, 0, 0, 0, []),
  (19, .iaload, 1, 0, 8, 0, 0, 0, []),
  (20, .goto 9, 3, 0, 16, 29, 0, 0, []),
  (23, .aload_n 0, 1, 0, 1, 0, 0, 0, []),
  (24, .getfield 15, 3, 0, 6, 2, 2, 0, [130]),
  (27, .iload_n 1, 1, 0, 1, 0, 0, 0, []),
  (28, .iaload, 1, 0, 8, 0, 0, 0, []),
  (29, .ireturn, 1, 3, 0, 0, 0, 0, [])]
def mc33 : List mB := mc33_0
def mq33 : mM := (0, 0, mc33, ⟨"SlabPatterns$Wanted", "longestOf", "(IZ)I"⟩, prog_6_method_7_code, 3, some .int, [], [], "SlabPatterns")
/-- SlabPatterns$Kinds.<init>()V -/
def mc34_0 : List mB := [(0, .aload_n 0, 1, 0, 1, 0, 0, 0, []),
  (1, .invokespecial 3, 3, 0, 15, 0, 0, 0, [159, 69, 70]),
  (4, .aload_n 0, 1, 0, 1, 0, 0, 0, []),
  (5, .bipush 10, 2, 0, 0, 0, 0, 0, []),
  (7, .newarray .int, 2, 0, 12, 0, 0, 0, []),
  (9, .putfield 9, 3, 0, 7, 3, 1, 2, [162]),
  (12, .aload_n 0, 1, 0, 1, 0, 0, 0, []),
  (13, .bipush 10, 2, 0, 0, 0, 0, 0, []),
  (15, .newarray .boolean, 2, 0, 12, 0, 0, 0, []),
  (17, .putfield 15, 3, 0, 7, 3, 2, 2, [164]),
  (20, .aload_n 0, 1, 0, 1, 0, 0, 0, []),
  (21, .bipush 10, 2, 0, 0, 0, 0, 0, []),
  (23, .newarray .int, 2, 0, 12, 0, 0, 0, []),
  (25, .putfield 19, 3, 0, 7, 3, 3, 2, [166]),
  (28, .aload_n 0, 1, 0, 1, 0, 0, 0, []),
  (29, .bipush 10, 2, 0, 0, 0, 0, 0, []),
  (31, .newarray .int, 2, 0, 12, 0, 0, 0, []),
  (33, .putfield 22, 3, 0, 7, 3, 4, 2, [168]),
  (36, .aload_n 0, 1, 0, 1, 0, 0, 0, []),
  (37, .bipush 10, 2, 0, 0, 0, 0, 0, []),
  (39, .newarray .int, 2, 0, 12, 0, 0, 0, []),
  (41, .putfield 25, 3, 0, 7, 3, 5, 2, [170]),
  (44, .aload_n 0, 1, 0, 1, 0, 0, 0, []),
  (45, .iconst 5, 1, 0, 0, 0, 0, 0, []),
  (46, .newarray .int, 2, 0, 12, 0, 0, 0, []),
  (48, .putfield 28, 3, 0, 7, 3, 6, 2, [172]),
  (51, .return_, 1, 3, 0, 0, 0, 0, [])]
def mc34 : List mB := mc34_0
def mq34 : mM := (6, 55, mc34, ⟨"SlabPatterns$Kinds", "<init>", "()V"⟩, prog_2_method_1_code, 1, none, [], [], "SlabPatterns")
/-- SlabPatterns$Kinds.list(LSlabPatterns$Slab;LSlabPatterns$Wanted;)V -/
def mc35_0 : List mB := [(0, .aload_n 0, 1, 0, 1, 0, 0, 0, []),
  (1, .iconst 0, 1, 0, 0, 0, 0, 0, []),
  (2, .putfield 31, 3, 0, 7, 3, 0, 0, [160]),
  (5, .iconst 0, 1, 0, 0, 0, 0, 0, []),
  (6, .istore_n 3, 1, 0, 2, 0, 0, 0, []),
  (7, .iload_n 3, 1, 0, 1, 0, 0, 0, []),
  (8, .iconst 5, 1, 0, 0, 0, 0, 0, []),
  (9, .if_icmp .ge 53, 3, 1, 0, 62, 0, 0, []),
  (12, .aload_n 0, 1, 0, 1, 0, 0, 0, []),
  (13, .getfield 28, 3, 0, 6, 3, 6, 0, [172]),
  (16, .iload_n 3, 1, 0, 1, 0, 0, 0, []),
  (17, .aload_n 2, 1, 0, 1, 0, 0, 0, []),
  (18, .iload_n 3, 1, 0, 1, 0, 0, 0, []),
  (19, .invokevirtual 35, 3, 2, 3, 30, 2, 2, [475, 472, 474, 50, 9]),
  (22, .iastore, 1, 0, 9, 0, 0, 0, []),
  (23, .aload_n 2, 1, 0, 1, 0, 0, 0, []),
  (24, .iload_n 3, 1, 0, 1, 0, 0, 0, []),
  (25, .invokevirtual 41, 3, 2, 3, 29, 2, 2, [419, 477, 418, 50, 6]),
  (28, .ifCond .eq 28, 3, 1, 0, 56, 0, 0, []),
  (31, .aload_n 0, 1, 0, 1, 0, 0, 0, []),
  (32, .aload_n 1, 1, 0, 1, 0, 0, 0, []),
  (33, .aload_n 2, 1, 0, 1, 0, 0, 0, []),
  (34, .iload_n 3, 1, 0, 1, 0, 0, 0, []),
  (35, .iconst 0, 1, 0, 0, 0, 0, 0, []),
  (36, .invokevirtual 45, 3, 2, 2, 36, 5, 3, [481, 478, 480, 51, 10]),
  (39, .aload_n 2, 1, 0, 1, 0, 0, 0, []),
  (40, .getfield 49, 3, 0, 6, 2, 6, 1, [136]),
  (43, .iload_n 3, 1, 0, 1, 0, 0, 0, []),
  (44, .baload, 1, 0, 8, 0, 0, 0, []),
  (45, .ifCond .eq 11, 3, 1, 0, 56, 0, 0, []),
  (48, .aload_n 0, 1, 0, 1, 0, 0, 0, []),
  (49, .aload_n 1, 1, 0, 1, 0, 0, 0, []),
  (50, .aload_n 2, 1, 0, 1, 0, 0, 0, []),
  (51, .iload_n 3, 1, 0, 1, 0, 0, 0, []),
  (52, .iconst 1, 1, 0, 0, 0, 0, 0, []),
  (53, .invokevirtual 45, 3, 2, 2, 36, 5, 3, [481, 478, 480, 51, 10]),
  (56, .iinc 3 1, 3, 0, 2, 0, 0, 0, []),
  (59, .goto (-52), 3, 0, 16, 7, 0, 0, []),
  (62, .return_, 1, 3, 0, 0, 0, 0, [])]
def mc35 : List mB := mc35_0
def mq35 : mM := (0, 0, mc35, ⟨"SlabPatterns$Kinds", "list", "(LSlabPatterns$Slab;LSlabPatterns$Wanted;)V"⟩, prog_2_method_2_code, 4, none, [], [], "SlabPatterns")
/-- SlabPatterns$Kinds.add(LSlabPatterns$Slab;LSlabPatterns$Wanted;IZ)V -/
def mc36_0 : List mB := [(0, .aload_n 1, 1, 0, 1, 0, 0, 0, []),
  (1, .aload_n 2, 1, 0, 1, 0, 0, 0, []),
  (2, .iload_n 3, 1, 0, 1, 0, 0, 0, []),
  (3, .iload 4, 2, 0, 1, 0, 0, 0, []),
  (5, .invokevirtual 52, 3, 2, 3, 31, 3, 2, [485, 482, 484, 50, 11]),
  (8, .invokevirtual 56, 3, 2, 3, 23, 2, 1, [489, 486, 488, 49, 12]),
  (11, .istore 5, 2, 0, 2, 0, 0, 0, []),
  (13, .iload 5, 2, 0, 1, 0, 0, 0, []),
  (15, .iconst 1, 1, 0, 0, 0, 0, 0, []),
  (16, .if_icmp .lt 24, 3, 1, 0, 40, 0, 0, []),
  (19, .aload_n 0, 1, 0, 1, 0, 0, 0, []),
  (20, .getfield 31, 3, 0, 6, 3, 0, 0, [160]),
  (23, .iconst 0, 1, 0, 0, 0, 0, 0, []),
  (24, .bipush 9, 2, 0, 0, 0, 0, 0, []),
  (26, .invokestatic 61, 3, 2, 5, 6, 3, 0, [302, 493, 301, 48]),
  (29, .ifCond .ne 11, 3, 1, 0, 40, 0, 0, []),
  (32, .aload_n 2, 1, 0, 1, 0, 0, 0, []),
  (33, .iload_n 3, 1, 0, 1, 0, 0, 0, []),
  (34, .invokevirtual 41, 3, 2, 3, 29, 2, 2, [419, 477, 418, 50, 6]),
  (37, .ifCond .ne 4, 3, 1, 0, 41, 0, 0, []),
  (40, .return_, 1, 3, 0, 0, 0, 0, []),
  (41, .aload_n 0, 1, 0, 1, 0, 0, 0, []),
  (42, .getfield 9, 3, 0, 6, 3, 1, 0, [162]),
  (45, .aload_n 0, 1, 0, 1, 0, 0, 0, []),
  (46, .getfield 31, 3, 0, 6, 3, 0, 0, [160]),
  (49, .iload_n 3, 1, 0, 1, 0, 0, 0, []),
  (50, .iastore, 1, 0, 9, 0, 0, 0, []),
  (51, .aload_n 0, 1, 0, 1, 0, 0, 0, []),
  (52, .getfield 15, 3, 0, 6, 3, 2, 0, [164]),
  (55, .aload_n 0, 1, 0, 1, 0, 0, 0, []),
  (56, .getfield 31, 3, 0, 6, 3, 0, 0, [160]),
  (59, .iload 4, 2, 0, 1, 0, 0, 0, []),
  (61, .bastore, 1, 0, 9, 0, 0, 0, []),
  (62, .aload_n 0, 1, 0, 1, 0, 0, 0, []),
  (63, .getfield 19, 3, 0, 6, 3, 3, 0, [166]),
  (66, .aload_n 0, 1, 0, 1, 0, 0, 0, []),
  (67, .getfield 31, 3, 0, 6, 3, 0, 0, [160]),
  (70, .aload_n 2, 1, 0, 1, 0, 0, 0, []),
  (71, .iload_n 3, 1, 0, 1, 0, 0, 0, []),
  (72, .iload 4, 2, 0, 1, 0, 0, 0, [])]
def mc36_1 : List mB := [(74, .invokevirtual 65, 3, 2, 3, 32, 3, 2, [497, 494, 496, 50, 13]),
  (77, .iastore, 1, 0, 9, 0, 0, 0, []),
  (78, .aload_n 0, 1, 0, 1, 0, 0, 0, []),
  (79, .getfield 22, 3, 0, 6, 3, 4, 0, [168]),
  (82, .aload_n 0, 1, 0, 1, 0, 0, 0, []),
  (83, .getfield 31, 3, 0, 6, 3, 0, 0, [160]),
  (86, .iload 5, 2, 0, 1, 0, 0, 0, []),
  (88, .iastore, 1, 0, 9, 0, 0, 0, []),
  (89, .aload_n 0, 1, 0, 1, 0, 0, 0, []),
  (90, .getfield 25, 3, 0, 6, 3, 5, 0, [170]),
  (93, .aload_n 0, 1, 0, 1, 0, 0, 0, []),
  (94, .getfield 31, 3, 0, 6, 3, 0, 0, [160]),
  (97, .aload_n 2, 1, 0, 1, 0, 0, 0, []),
  (98, .getfield 68, 3, 0, 6, 2, 4, 1, [133]),
  (101, .iload_n 3, 1, 0, 1, 0, 0, 0, []),
  (102, .iaload, 1, 0, 8, 0, 0, 0, []),
  (103, .iastore, 1, 0, 9, 0, 0, 0, []),
  (104, .aload_n 0, 1, 0, 1, 0, 0, 0, []),
  (105, .dup, 1, 0, 5, 0, 0, 0, []),
  (106, .getfield 31, 3, 0, 6, 3, 0, 0, [160]),
  (109, .iconst 1, 1, 0, 0, 0, 0, 0, []),
  (110, .iadd, 1, 0, 3, 0, 0, 0, []),
  (111, .putfield 31, 3, 0, 7, 3, 0, 0, [160]),
  (114, .return_, 1, 3, 0, 0, 0, 0, [])]
def mc36 : List mB := mc36_0 ++ (mc36_1)
def mq36 : mM := (0, 0, mc36, ⟨"SlabPatterns$Kinds", "add", "(LSlabPatterns$Slab;LSlabPatterns$Wanted;IZ)V"⟩, prog_2_method_3_code, 6, none, [], [], "SlabPatterns")
/-- SlabPatterns$Kinds.has(I)Z -/
def mc37_0 : List mB := [(0, .iload_n 1, 1, 0, 1, 0, 0, 0, []),
  (1, .ifCond .lt 21, 3, 1, 0, 22, 0, 0, []),
  (4, .iload_n 1, 1, 0, 1, 0, 0, 0, []),
  (5, .aload_n 0, 1, 0, 1, 0, 0, 0, []),
  (6, .getfield 31, 3, 0, 6, 3, 0, 0, [160]),
  (9, .if_icmp .ge 13, 3, 1, 0, 22, 0, 0, []),
  (12, .iload_n 1, 1, 0, 1, 0, 0, 0, []),
  (13, .bipush 10, 2, 0, 0, 0, 0, 0, []),
  (15, .if_icmp .ge 7, 3, 1, 0, 22, 0, 0, []),
  (18, .iconst 1, 1, 0, 0, 0, 0, 0, []),
  (19, .goto 4, 3, 0, 16, 23, 0, 0, []),
  (22, .iconst 0, 1, 0, 0, 0, 0, 0, []),
  (23, .ireturn, 1, 3, 0, 0, 0, 0, [])]
def mc37 : List mB := mc37_0
def mq37 : mM := (0, 0, mc37, ⟨"SlabPatterns$Kinds", "has", "(I)Z"⟩, prog_2_method_4_code, 2, some .boolean, [], [], "SlabPatterns")
/-- SlabPatterns$Search.<init>()V -/
def mc38_0 : List mB := [(0, .aload_n 0, 1, 0, 1, 0, 0, 0, []),
  (1, .invokespecial 3, 3, 0, 15, 0, 0, 0, [194, 69, 70]),
  (4, .aload_n 0, 1, 0, 1, 0, 0, 0, []),
  (5, .new 9, 3, 0, 11, 5, 0, 0, [195, 196, 53]),
  (8, .dup, 1, 0, 5, 0, 0, 0, []),
  (9, .invokespecial 11, 3, 2, 1, 47, 1, 5, [199, 197, 198, 53]),
  (12, .putfield 12, 3, 0, 7, 4, 1, 2, [234]),
  (15, .aload_n 0, 1, 0, 1, 0, 0, 0, []),
  (16, .iconst 5, 1, 0, 0, 0, 0, 0, []),
  (17, .newarray .int, 2, 0, 12, 0, 0, 0, []),
  (19, .putfield 18, 3, 0, 7, 4, 2, 2, [235]),
  (22, .aload_n 0, 1, 0, 1, 0, 0, 0, []),
  (23, .bipush 101, 2, 0, 0, 0, 0, 0, []),
  (25, .newarray .int, 2, 0, 12, 0, 0, 0, []),
  (27, .putfield 22, 3, 0, 7, 4, 3, 2, [236]),
  (30, .aload_n 0, 1, 0, 1, 0, 0, 0, []),
  (31, .bipush 101, 2, 0, 0, 0, 0, 0, []),
  (33, .newarray .int, 2, 0, 12, 0, 0, 0, []),
  (35, .putfield 25, 3, 0, 7, 4, 4, 2, [237]),
  (38, .aload_n 0, 1, 0, 1, 0, 0, 0, []),
  (39, .bipush 101, 2, 0, 0, 0, 0, 0, []),
  (41, .newarray .int, 2, 0, 12, 0, 0, 0, []),
  (43, .putfield 28, 3, 0, 7, 4, 5, 2, [238]),
  (46, .return_, 1, 3, 0, 0, 0, 0, [])]
def mc38 : List mB := mc38_0
def mq38 : mM := (10, 814, mc38, ⟨"SlabPatterns$Search", "<init>", "()V"⟩, prog_3_method_1_code, 1, none, [], [], "SlabPatterns")
/-- SlabPatterns$Search.explore(LSlabPatterns$Slab;LSlabPatterns$Kinds;LSlabPatterns$Strips;I)Z -/
def mc39_0 : List mB := [(0, .aload_n 0, 1, 0, 1, 0, 0, 0, []),
  (1, .aload_n 1, 1, 0, 1, 0, 0, 0, []),
  (2, .aload_n 2, 1, 0, 1, 0, 0, 0, []),
  (3, .aload_n 3, 1, 0, 1, 0, 0, 0, []),
  (4, .invokevirtual 31, 3, 2, 2, 40, 4, 4, [505, 502, 504, 52, 15]),
  (7, .iload 4, 2, 0, 1, 0, 0, 0, []),
  (9, .istore 5, 2, 0, 2, 0, 0, 0, []),
  (11, .iconst 0, 1, 0, 0, 0, 0, 0, []),
  (12, .istore 6, 2, 0, 2, 0, 0, 0, []),
  (14, .iload 6, 2, 0, 1, 0, 0, 0, []),
  (16, .iconst 2, 1, 0, 0, 0, 0, 0, []),
  (17, .iload 4, 2, 0, 1, 0, 0, 0, []),
  (19, .imul, 1, 0, 3, 0, 0, 0, []),
  (20, .iconst 1, 1, 0, 0, 0, 0, 0, []),
  (21, .iadd, 1, 0, 3, 0, 0, 0, []),
  (22, .if_icmp .gt 65, 3, 1, 0, 87, 0, 0, []),
  (25, .aload_n 0, 1, 0, 1, 0, 0, 0, []),
  (26, .aload_n 1, 1, 0, 1, 0, 0, 0, []),
  (27, .aload_n 2, 1, 0, 1, 0, 0, 0, []),
  (28, .invokevirtual 35, 3, 2, 2, 41, 3, 4, [509, 506, 508, 52, 16]),
  (31, .istore 7, 2, 0, 2, 0, 0, 0, []),
  (33, .iload 7, 2, 0, 1, 0, 0, 0, []),
  (35, .iconst (-1), 1, 0, 0, 0, 0, 0, []),
  (36, .if_icmp .ne 22, 3, 1, 0, 58, 0, 0, []),
  (39, .aload_n 0, 1, 0, 1, 0, 0, 0, []),
  (40, .getfield 12, 3, 0, 6, 4, 1, 0, [234]),
  (43, .getfield 39, 3, 0, 6, 5, 0, 1, [202]),
  (46, .ifCond .gt 5, 3, 1, 0, 51, 0, 0, []),
  (49, .iconst 1, 1, 0, 0, 0, 0, 0, []),
  (50, .ireturn, 1, 3, 0, 0, 0, 0, []),
  (51, .aload_n 0, 1, 0, 1, 0, 0, 0, []),
  (52, .invokevirtual 43, 3, 2, 2, 43, 1, 4, [526, 523, 525, 52, 20]),
  (55, .goto 26, 3, 0, 16, 81, 0, 0, []),
  (58, .iload 5, 2, 0, 1, 0, 0, 0, []),
  (60, .ifCond .gt 5, 3, 1, 0, 65, 0, 0, []),
  (63, .iconst 0, 1, 0, 0, 0, 0, 0, []),
  (64, .ireturn, 1, 3, 0, 0, 0, 0, []),
  (65, .iinc 5 (-1), 3, 0, 2, 0, 0, 0, []),
  (68, .aload_n 0, 1, 0, 1, 0, 0, 0, []),
  (69, .iload 7, 2, 0, 1, 0, 0, 0, [])]
def mc39_1 : List mB := [(71, .aload_n 1, 1, 0, 1, 0, 0, 0, []),
  (72, .aload_n 2, 1, 0, 1, 0, 0, 0, []),
  (73, .invokevirtual 46, 3, 2, 2, 45, 4, 4, [534, 531, 533, 52, 22]),
  (76, .aload_n 0, 1, 0, 1, 0, 0, 0, []),
  (77, .aload_n 3, 1, 0, 1, 0, 0, 0, []),
  (78, .invokevirtual 50, 3, 2, 2, 46, 2, 4, [543, 540, 542, 52, 24]),
  (81, .iinc 6 1, 3, 0, 2, 0, 0, 0, []),
  (84, .goto (-70), 3, 0, 16, 14, 0, 0, []),
  (87, .iconst 0, 1, 0, 0, 0, 0, 0, []),
  (88, .ireturn, 1, 3, 0, 0, 0, 0, [])]
def mc39 : List mB := mc39_0 ++ (mc39_1)
def mq39 : mM := (0, 0, mc39, ⟨"SlabPatterns$Search", "explore", "(LSlabPatterns$Slab;LSlabPatterns$Kinds;LSlabPatterns$Strips;I)Z"⟩, prog_3_method_2_code, 8, some .boolean, [], [], "SlabPatterns")
/-- SlabPatterns$Search.start(LSlabPatterns$Slab;LSlabPatterns$Kinds;LSlabPatterns$Strips;)V -/
def mc40_0 : List mB := [(0, .iconst 0, 1, 0, 0, 0, 0, 0, []),
  (1, .istore 4, 2, 0, 2, 0, 0, 0, []),
  (3, .iload 4, 2, 0, 1, 0, 0, 0, []),
  (5, .iconst 5, 1, 0, 0, 0, 0, 0, []),
  (6, .if_icmp .ge 23, 3, 1, 0, 29, 0, 0, []),
  (9, .aload_n 0, 1, 0, 1, 0, 0, 0, []),
  (10, .getfield 18, 3, 0, 6, 4, 2, 0, [235]),
  (13, .iload 4, 2, 0, 1, 0, 0, 0, []),
  (15, .aload_n 2, 1, 0, 1, 0, 0, 0, []),
  (16, .getfield 54, 3, 0, 6, 3, 6, 1, [173]),
  (19, .iload 4, 2, 0, 1, 0, 0, 0, []),
  (21, .iaload, 1, 0, 8, 0, 0, 0, []),
  (22, .iastore, 1, 0, 9, 0, 0, 0, []),
  (23, .iinc 4 1, 3, 0, 2, 0, 0, 0, []),
  (26, .goto (-23), 3, 0, 16, 3, 0, 0, []),
  (29, .aload_n 0, 1, 0, 1, 0, 0, 0, []),
  (30, .getfield 12, 3, 0, 6, 4, 1, 0, [234]),
  (33, .iconst 0, 1, 0, 0, 0, 0, 0, []),
  (34, .putfield 39, 3, 0, 7, 5, 0, 1, [202]),
  (37, .aload_n 0, 1, 0, 1, 0, 0, 0, []),
  (38, .getfield 22, 3, 0, 6, 4, 3, 0, [236]),
  (41, .iconst 0, 1, 0, 0, 0, 0, 0, []),
  (42, .iconst 0, 1, 0, 0, 0, 0, 0, []),
  (43, .iastore, 1, 0, 9, 0, 0, 0, []),
  (44, .aload_n 0, 1, 0, 1, 0, 0, 0, []),
  (45, .getfield 25, 3, 0, 6, 4, 4, 0, [237]),
  (48, .iconst 0, 1, 0, 0, 0, 0, 0, []),
  (49, .aload_n 1, 1, 0, 1, 0, 0, 0, []),
  (50, .getfield 59, 3, 0, 6, 1, 5, 1, [89]),
  (53, .iastore, 1, 0, 9, 0, 0, 0, []),
  (54, .aload_n 0, 1, 0, 1, 0, 0, 0, []),
  (55, .getfield 28, 3, 0, 6, 4, 5, 0, [238]),
  (58, .iconst 0, 1, 0, 0, 0, 0, 0, []),
  (59, .iconst 0, 1, 0, 0, 0, 0, 0, []),
  (60, .iastore, 1, 0, 9, 0, 0, 0, []),
  (61, .aload_n 3, 1, 0, 1, 0, 0, 0, []),
  (62, .iconst 0, 1, 0, 0, 0, 0, 0, []),
  (63, .putfield 39, 3, 0, 7, 5, 0, 1, [202]),
  (66, .aload_n 0, 1, 0, 1, 0, 0, 0, []),
  (67, .iconst 0, 1, 0, 0, 0, 0, 0, [])]
def mc40_1 : List mB := [(68, .putfield 64, 3, 0, 7, 4, 0, 0, [232]),
  (71, .return_, 1, 3, 0, 0, 0, 0, [])]
def mc40 : List mB := mc40_0 ++ (mc40_1)
def mq40 : mM := (0, 0, mc40, ⟨"SlabPatterns$Search", "start", "(LSlabPatterns$Slab;LSlabPatterns$Kinds;LSlabPatterns$Strips;)V"⟩, prog_3_method_3_code, 5, none, [], [], "SlabPatterns")
/-- SlabPatterns$Search.findKind(LSlabPatterns$Slab;LSlabPatterns$Kinds;)I -/
def mc41_0 : List mB := [(0, .aload_n 0, 1, 0, 1, 0, 0, 0, []),
  (1, .getfield 12, 3, 0, 6, 4, 1, 0, [234]),
  (4, .getfield 39, 3, 0, 6, 5, 0, 1, [202]),
  (7, .istore_n 3, 1, 0, 2, 0, 0, 0, []),
  (8, .iload_n 3, 1, 0, 1, 0, 0, 0, []),
  (9, .iconst 0, 1, 0, 0, 0, 0, 0, []),
  (10, .bipush 99, 2, 0, 0, 0, 0, 0, []),
  (12, .invokestatic 67, 3, 2, 5, 6, 3, 0, [302, 510, 301, 48]),
  (15, .ifCond .ne 16, 3, 1, 0, 31, 0, 0, []),
  (18, .aload_n 1, 1, 0, 1, 0, 0, 0, []),
  (19, .aload_n 0, 1, 0, 1, 0, 0, 0, []),
  (20, .getfield 25, 3, 0, 6, 4, 4, 0, [237]),
  (23, .iload_n 3, 1, 0, 1, 0, 0, 0, []),
  (24, .iaload, 1, 0, 8, 0, 0, 0, []),
  (25, .invokevirtual 71, 3, 2, 3, 24, 2, 1, [514, 511, 513, 49, 17]),
  (28, .ifCond .eq 5, 3, 1, 0, 33, 0, 0, []),
  (31, .iconst (-1), 1, 0, 0, 0, 0, 0, []),
  (32, .ireturn, 1, 3, 0, 0, 0, 0, []),
  (33, .aload_n 0, 1, 0, 1, 0, 0, 0, []),
  (34, .getfield 22, 3, 0, 6, 4, 3, 0, [236]),
  (37, .iload_n 3, 1, 0, 1, 0, 0, 0, []),
  (38, .iaload, 1, 0, 8, 0, 0, 0, []),
  (39, .istore 4, 2, 0, 2, 0, 0, 0, []),
  (41, .iload 4, 2, 0, 1, 0, 0, 0, []),
  (43, .aload_n 2, 1, 0, 1, 0, 0, 0, []),
  (44, .getfield 75, 3, 0, 6, 3, 0, 1, [161]),
  (47, .if_icmp .ge 67, 3, 1, 0, 114, 0, 0, []),
  (50, .iload 4, 2, 0, 1, 0, 0, 0, []),
  (52, .bipush 10, 2, 0, 0, 0, 0, 0, []),
  (54, .if_icmp .ge 60, 3, 1, 0, 114, 0, 0, []),
  (57, .aload_n 0, 1, 0, 1, 0, 0, 0, []),
  (58, .getfield 25, 3, 0, 6, 4, 4, 0, [237]),
  (61, .iload_n 3, 1, 0, 1, 0, 0, 0, []),
  (62, .iaload, 1, 0, 8, 0, 0, 0, []),
  (63, .aload_n 2, 1, 0, 1, 0, 0, 0, []),
  (64, .getfield 76, 3, 0, 6, 3, 3, 1, [167]),
  (67, .iload 4, 2, 0, 1, 0, 0, 0, []),
  (69, .iaload, 1, 0, 8, 0, 0, 0, []),
  (70, .iadd, 1, 0, 3, 0, 0, 0, []),
  (71, .istore 5, 2, 0, 2, 0, 0, 0, [])]
def mc41_1 : List mB := [(73, .iload 5, 2, 0, 1, 0, 0, 0, []),
  (75, .aload_n 1, 1, 0, 1, 0, 0, 0, []),
  (76, .invokevirtual 79, 3, 2, 3, 25, 1, 1, [518, 515, 517, 49, 18]),
  (79, .if_icmp .gt 29, 3, 1, 0, 108, 0, 0, []),
  (82, .aload_n 1, 1, 0, 1, 0, 0, 0, []),
  (83, .iload 5, 2, 0, 1, 0, 0, 0, []),
  (85, .invokevirtual 71, 3, 2, 3, 24, 2, 1, [514, 511, 513, 49, 17]),
  (88, .ifCond .ne 20, 3, 1, 0, 108, 0, 0, []),
  (91, .aload_n 0, 1, 0, 1, 0, 0, 0, []),
  (92, .aload_n 2, 1, 0, 1, 0, 0, 0, []),
  (93, .getfield 83, 3, 0, 6, 3, 1, 1, [163]),
  (96, .iload 4, 2, 0, 1, 0, 0, 0, []),
  (98, .iaload, 1, 0, 8, 0, 0, 0, []),
  (99, .invokevirtual 86, 3, 2, 2, 42, 2, 4, [522, 519, 521, 52, 19]),
  (102, .ifCond .le 6, 3, 1, 0, 108, 0, 0, []),
  (105, .iload 4, 2, 0, 1, 0, 0, 0, []),
  (107, .ireturn, 1, 3, 0, 0, 0, 0, []),
  (108, .iinc 4 1, 3, 0, 2, 0, 0, 0, []),
  (111, .goto (-70), 3, 0, 16, 41, 0, 0, []),
  (114, .iconst (-1), 1, 0, 0, 0, 0, 0, []),
  (115, .ireturn, 1, 3, 0, 0, 0, 0, [])]
def mc41 : List mB := mc41_0 ++ (mc41_1)
def mq41 : mM := (0, 0, mc41, ⟨"SlabPatterns$Search", "findKind", "(LSlabPatterns$Slab;LSlabPatterns$Kinds;)I"⟩, prog_3_method_4_code, 6, some .int, [], [], "SlabPatterns")
/-- SlabPatterns$Search.leftOf(I)I -/
def mc42_0 : List mB := [(0, .iload_n 1, 1, 0, 1, 0, 0, 0, []),
  (1, .iconst 0, 1, 0, 0, 0, 0, 0, []),
  (2, .iconst 4, 1, 0, 0, 0, 0, 0, []),
  (3, .invokestatic 67, 3, 2, 5, 6, 3, 0, [302, 510, 301, 48]),
  (6, .ifCond .eq 7, 3, 1, 0, 13, 0, 0, []),
  (9, .iconst 0, 1, 0, 0, 0, 0, 0, []),
  (10, .goto 9, 3, 0, 16, 19, 0, 0, []),
  (13, .aload_n 0, 1, 0, 1, 0, 0, 0, []),
  (14, .getfield 18, 3, 0, 6, 4, 2, 0, [235]),
  (17, .iload_n 1, 1, 0, 1, 0, 0, 0, []),
  (18, .iaload, 1, 0, 8, 0, 0, 0, []),
  (19, .ireturn, 1, 3, 0, 0, 0, 0, [])]
def mc42 : List mB := mc42_0
def mq42 : mM := (0, 0, mc42, ⟨"SlabPatterns$Search", "leftOf", "(I)I"⟩, prog_3_method_5_code, 2, some .int, [], [], "SlabPatterns")
/-- SlabPatterns$Search.lift()V -/
def mc43_0 : List mB := [(0, .aload_n 0, 1, 0, 1, 0, 0, 0, []),
  (1, .getfield 12, 3, 0, 6, 4, 1, 0, [234]),
  (4, .getfield 39, 3, 0, 6, 5, 0, 1, [202]),
  (7, .iconst 1, 1, 0, 0, 0, 0, 0, []),
  (8, .isub, 1, 0, 3, 0, 0, 0, []),
  (9, .istore_n 1, 1, 0, 2, 0, 0, 0, []),
  (10, .iload_n 1, 1, 0, 1, 0, 0, 0, []),
  (11, .iconst 0, 1, 0, 0, 0, 0, 0, []),
  (12, .bipush 99, 2, 0, 0, 0, 0, 0, []),
  (14, .invokestatic 67, 3, 2, 5, 6, 3, 0, [302, 510, 301, 48]),
  (17, .ifCond .eq 4, 3, 1, 0, 21, 0, 0, []),
  (20, .return_, 1, 3, 0, 0, 0, 0, []),
  (21, .aload_n 0, 1, 0, 1, 0, 0, 0, []),
  (22, .getfield 12, 3, 0, 6, 4, 1, 0, [234]),
  (25, .iload_n 1, 1, 0, 1, 0, 0, 0, []),
  (26, .putfield 39, 3, 0, 7, 5, 0, 1, [202]),
  (29, .aload_n 0, 1, 0, 1, 0, 0, 0, []),
  (30, .aload_n 0, 1, 0, 1, 0, 0, 0, []),
  (31, .getfield 12, 3, 0, 6, 4, 1, 0, [234]),
  (34, .getfield 102, 3, 0, 6, 5, 1, 1, [205]),
  (37, .iload_n 1, 1, 0, 1, 0, 0, 0, []),
  (38, .iaload, 1, 0, 8, 0, 0, 0, []),
  (39, .aload_n 0, 1, 0, 1, 0, 0, 0, []),
  (40, .getfield 12, 3, 0, 6, 4, 1, 0, [234]),
  (43, .getfield 112, 3, 0, 6, 5, 5, 1, [217]),
  (46, .iload_n 1, 1, 0, 1, 0, 0, 0, []),
  (47, .iaload, 1, 0, 8, 0, 0, 0, []),
  (48, .ineg, 1, 0, 4, 0, 0, 0, []),
  (49, .invokevirtual 115, 3, 2, 2, 44, 3, 4, [530, 527, 529, 52, 21]),
  (52, .return_, 1, 3, 0, 0, 0, 0, [])]
def mc43 : List mB := mc43_0
def mq43 : mM := (0, 0, mc43, ⟨"SlabPatterns$Search", "lift", "()V"⟩, prog_3_method_8_code, 2, none, [], [], "SlabPatterns")
/-- SlabPatterns$Search.use(II)V -/
def mc44_0 : List mB := [(0, .iload_n 1, 1, 0, 1, 0, 0, 0, []),
  (1, .iconst 0, 1, 0, 0, 0, 0, 0, []),
  (2, .iconst 4, 1, 0, 0, 0, 0, 0, []),
  (3, .invokestatic 67, 3, 2, 5, 6, 3, 0, [302, 510, 301, 48]),
  (6, .ifCond .ne 13, 3, 1, 0, 19, 0, 0, []),
  (9, .aload_n 0, 1, 0, 1, 0, 0, 0, []),
  (10, .getfield 18, 3, 0, 6, 4, 2, 0, [235]),
  (13, .iload_n 1, 1, 0, 1, 0, 0, 0, []),
  (14, .dup2, 1, 0, 5, 0, 0, 0, []),
  (15, .iaload, 1, 0, 8, 0, 0, 0, []),
  (16, .iload_n 2, 1, 0, 1, 0, 0, 0, []),
  (17, .isub, 1, 0, 3, 0, 0, 0, []),
  (18, .iastore, 1, 0, 9, 0, 0, 0, []),
  (19, .return_, 1, 3, 0, 0, 0, 0, [])]
def mc44 : List mB := mc44_0
def mq44 : mM := (0, 0, mc44, ⟨"SlabPatterns$Search", "use", "(II)V"⟩, prog_3_method_6_code, 3, none, [], [], "SlabPatterns")
/-- SlabPatterns$Search.lay(ILSlabPatterns$Slab;LSlabPatterns$Kinds;)V -/
def mc45_0 : List mB := [(0, .aload_n 0, 1, 0, 1, 0, 0, 0, []),
  (1, .getfield 12, 3, 0, 6, 4, 1, 0, [234]),
  (4, .getfield 39, 3, 0, 6, 5, 0, 1, [202]),
  (7, .istore 4, 2, 0, 2, 0, 0, 0, []),
  (9, .iload 4, 2, 0, 1, 0, 0, 0, []),
  (11, .iconst 0, 1, 0, 0, 0, 0, 0, []),
  (12, .bipush 99, 2, 0, 0, 0, 0, 0, []),
  (14, .invokestatic 67, 3, 2, 5, 6, 3, 0, [302, 510, 301, 48]),
  (17, .ifCond .ne 11, 3, 1, 0, 28, 0, 0, []),
  (20, .aload_n 3, 1, 0, 1, 0, 0, 0, []),
  (21, .iload_n 1, 1, 0, 1, 0, 0, 0, []),
  (22, .invokevirtual 90, 3, 2, 3, 37, 2, 3, [538, 535, 537, 51, 23]),
  (25, .ifCond .ne 4, 3, 1, 0, 29, 0, 0, []),
  (28, .return_, 1, 3, 0, 0, 0, 0, []),
  (29, .aload_n 3, 1, 0, 1, 0, 0, 0, []),
  (30, .getfield 83, 3, 0, 6, 3, 1, 1, [163]),
  (33, .iload_n 1, 1, 0, 1, 0, 0, 0, []),
  (34, .iaload, 1, 0, 8, 0, 0, 0, []),
  (35, .istore 5, 2, 0, 2, 0, 0, 0, []),
  (37, .aload_n 3, 1, 0, 1, 0, 0, 0, []),
  (38, .getfield 93, 3, 0, 6, 3, 4, 1, [169]),
  (41, .iload_n 1, 1, 0, 1, 0, 0, 0, []),
  (42, .iaload, 1, 0, 8, 0, 0, 0, []),
  (43, .aload_n 0, 1, 0, 1, 0, 0, 0, []),
  (44, .iload 5, 2, 0, 1, 0, 0, 0, []),
  (46, .invokevirtual 86, 3, 2, 2, 42, 2, 4, [522, 519, 521, 52, 19]),
  (49, .invokestatic 96, 3, 0, 13, 1, 0, 0, [539, 491, 61, 492]),
  (52, .istore 6, 2, 0, 2, 0, 0, 0, []),
  (54, .aload_n 0, 1, 0, 1, 0, 0, 0, []),
  (55, .getfield 12, 3, 0, 6, 4, 1, 0, [234]),
  (58, .getfield 102, 3, 0, 6, 5, 1, 1, [205]),
  (61, .iload 4, 2, 0, 1, 0, 0, 0, []),
  (63, .iload 5, 2, 0, 1, 0, 0, 0, []),
  (65, .iastore, 1, 0, 9, 0, 0, 0, []),
  (66, .aload_n 0, 1, 0, 1, 0, 0, 0, []),
  (67, .getfield 12, 3, 0, 6, 4, 1, 0, [234]),
  (70, .getfield 103, 3, 0, 6, 5, 2, 1, [208]),
  (73, .iload 4, 2, 0, 1, 0, 0, 0, []),
  (75, .aload_n 3, 1, 0, 1, 0, 0, 0, []),
  (76, .getfield 107, 3, 0, 6, 3, 2, 1, [165])]
def mc45_1 : List mB := [(79, .iload_n 1, 1, 0, 1, 0, 0, 0, []),
  (80, .baload, 1, 0, 8, 0, 0, 0, []),
  (81, .bastore, 1, 0, 9, 0, 0, 0, []),
  (82, .aload_n 0, 1, 0, 1, 0, 0, 0, []),
  (83, .getfield 12, 3, 0, 6, 4, 1, 0, [234]),
  (86, .getfield 108, 3, 0, 6, 5, 3, 1, [211]),
  (89, .iload 4, 2, 0, 1, 0, 0, 0, []),
  (91, .aload_n 0, 1, 0, 1, 0, 0, 0, []),
  (92, .getfield 25, 3, 0, 6, 4, 4, 0, [237]),
  (95, .iload 4, 2, 0, 1, 0, 0, 0, []),
  (97, .iaload, 1, 0, 8, 0, 0, 0, []),
  (98, .iastore, 1, 0, 9, 0, 0, 0, []),
  (99, .aload_n 0, 1, 0, 1, 0, 0, 0, []),
  (100, .getfield 12, 3, 0, 6, 4, 1, 0, [234]),
  (103, .getfield 111, 3, 0, 6, 5, 4, 1, [214]),
  (106, .iload 4, 2, 0, 1, 0, 0, 0, []),
  (108, .aload_n 3, 1, 0, 1, 0, 0, 0, []),
  (109, .getfield 76, 3, 0, 6, 3, 3, 1, [167]),
  (112, .iload_n 1, 1, 0, 1, 0, 0, 0, []),
  (113, .iaload, 1, 0, 8, 0, 0, 0, []),
  (114, .iastore, 1, 0, 9, 0, 0, 0, []),
  (115, .aload_n 0, 1, 0, 1, 0, 0, 0, []),
  (116, .getfield 12, 3, 0, 6, 4, 1, 0, [234]),
  (119, .getfield 112, 3, 0, 6, 5, 5, 1, [217]),
  (122, .iload 4, 2, 0, 1, 0, 0, 0, []),
  (124, .iload 6, 2, 0, 1, 0, 0, 0, []),
  (126, .iastore, 1, 0, 9, 0, 0, 0, []),
  (127, .aload_n 0, 1, 0, 1, 0, 0, 0, []),
  (128, .getfield 12, 3, 0, 6, 4, 1, 0, [234]),
  (131, .iload 4, 2, 0, 1, 0, 0, 0, []),
  (133, .iconst 1, 1, 0, 0, 0, 0, 0, []),
  (134, .iadd, 1, 0, 3, 0, 0, 0, []),
  (135, .putfield 39, 3, 0, 7, 5, 0, 1, [202]),
  (138, .aload_n 0, 1, 0, 1, 0, 0, 0, []),
  (139, .iload 5, 2, 0, 1, 0, 0, 0, []),
  (141, .iload 6, 2, 0, 1, 0, 0, 0, []),
  (143, .invokevirtual 115, 3, 2, 2, 44, 3, 4, [530, 527, 529, 52, 21]),
  (146, .aload_n 0, 1, 0, 1, 0, 0, 0, []),
  (147, .getfield 22, 3, 0, 6, 4, 3, 0, [236]),
  (150, .iload 4, 2, 0, 1, 0, 0, 0, [])]
def mc45_2 : List mB := [(152, .iload_n 1, 1, 0, 1, 0, 0, 0, []),
  (153, .iconst 1, 1, 0, 0, 0, 0, 0, []),
  (154, .iadd, 1, 0, 3, 0, 0, 0, []),
  (155, .iastore, 1, 0, 9, 0, 0, 0, []),
  (156, .aload_n 0, 1, 0, 1, 0, 0, 0, []),
  (157, .getfield 22, 3, 0, 6, 4, 3, 0, [236]),
  (160, .iload 4, 2, 0, 1, 0, 0, 0, []),
  (162, .iconst 1, 1, 0, 0, 0, 0, 0, []),
  (163, .iadd, 1, 0, 3, 0, 0, 0, []),
  (164, .iconst 0, 1, 0, 0, 0, 0, 0, []),
  (165, .iastore, 1, 0, 9, 0, 0, 0, []),
  (166, .aload_n 0, 1, 0, 1, 0, 0, 0, []),
  (167, .getfield 25, 3, 0, 6, 4, 4, 0, [237]),
  (170, .iload 4, 2, 0, 1, 0, 0, 0, []),
  (172, .iconst 1, 1, 0, 0, 0, 0, 0, []),
  (173, .iadd, 1, 0, 3, 0, 0, 0, []),
  (174, .aload_n 0, 1, 0, 1, 0, 0, 0, []),
  (175, .getfield 25, 3, 0, 6, 4, 4, 0, [237]),
  (178, .iload 4, 2, 0, 1, 0, 0, 0, []),
  (180, .iaload, 1, 0, 8, 0, 0, 0, []),
  (181, .aload_n 3, 1, 0, 1, 0, 0, 0, []),
  (182, .getfield 76, 3, 0, 6, 3, 3, 1, [167]),
  (185, .iload_n 1, 1, 0, 1, 0, 0, 0, []),
  (186, .iaload, 1, 0, 8, 0, 0, 0, []),
  (187, .iadd, 1, 0, 3, 0, 0, 0, []),
  (188, .aload_n 2, 1, 0, 1, 0, 0, 0, []),
  (189, .getfield 119, 3, 0, 6, 1, 2, 1, [83]),
  (192, .iadd, 1, 0, 3, 0, 0, 0, []),
  (193, .iastore, 1, 0, 9, 0, 0, 0, []),
  (194, .aload_n 0, 1, 0, 1, 0, 0, 0, []),
  (195, .getfield 28, 3, 0, 6, 4, 5, 0, [238]),
  (198, .iload 4, 2, 0, 1, 0, 0, 0, []),
  (200, .iconst 1, 1, 0, 0, 0, 0, 0, []),
  (201, .iadd, 1, 0, 3, 0, 0, 0, []),
  (202, .aload_n 0, 1, 0, 1, 0, 0, 0, []),
  (203, .getfield 28, 3, 0, 6, 4, 5, 0, [238]),
  (206, .iload 4, 2, 0, 1, 0, 0, 0, []),
  (208, .iaload, 1, 0, 8, 0, 0, 0, []),
  (209, .iload 6, 2, 0, 1, 0, 0, 0, []),
  (211, .aload_n 3, 1, 0, 1, 0, 0, 0, [])]
def mc45_3 : List mB := [(212, .getfield 122, 3, 0, 6, 3, 5, 1, [171]),
  (215, .iload_n 1, 1, 0, 1, 0, 0, 0, []),
  (216, .iaload, 1, 0, 8, 0, 0, 0, []),
  (217, .imul, 1, 0, 3, 0, 0, 0, []),
  (218, .iadd, 1, 0, 3, 0, 0, 0, []),
  (219, .iastore, 1, 0, 9, 0, 0, 0, []),
  (220, .return_, 1, 3, 0, 0, 0, 0, [])]
def mc45 : List mB := mc45_0 ++ (mc45_1 ++ (mc45_2 ++ (mc45_3)))
def mq45 : mM := (0, 0, mc45, ⟨"SlabPatterns$Search", "lay", "(ILSlabPatterns$Slab;LSlabPatterns$Kinds;)V"⟩, prog_3_method_7_code, 7, none, [], [], "SlabPatterns")
/-- SlabPatterns$Search.keepIfBetter(LSlabPatterns$Strips;)V -/
def mc46_0 : List mB := [(0, .aload_n 0, 1, 0, 1, 0, 0, 0, []),
  (1, .getfield 12, 3, 0, 6, 4, 1, 0, [234]),
  (4, .getfield 39, 3, 0, 6, 5, 0, 1, [202]),
  (7, .istore_n 2, 1, 0, 2, 0, 0, 0, []),
  (8, .iload_n 2, 1, 0, 1, 0, 0, 0, []),
  (9, .iconst 0, 1, 0, 0, 0, 0, 0, []),
  (10, .bipush 100, 2, 0, 0, 0, 0, 0, []),
  (12, .invokestatic 67, 3, 2, 5, 6, 3, 0, [302, 510, 301, 48]),
  (15, .ifCond .eq 4, 3, 1, 0, 19, 0, 0, []),
  (18, .return_, 1, 3, 0, 0, 0, 0, []),
  (19, .aload_n 0, 1, 0, 1, 0, 0, 0, []),
  (20, .getfield 28, 3, 0, 6, 4, 5, 0, [238]),
  (23, .iload_n 2, 1, 0, 1, 0, 0, 0, []),
  (24, .iaload, 1, 0, 8, 0, 0, 0, []),
  (25, .istore_n 3, 1, 0, 2, 0, 0, 0, []),
  (26, .iload_n 3, 1, 0, 1, 0, 0, 0, []),
  (27, .aload_n 0, 1, 0, 1, 0, 0, 0, []),
  (28, .getfield 64, 3, 0, 6, 4, 0, 0, [232]),
  (31, .if_icmp .gt 19, 3, 1, 0, 50, 0, 0, []),
  (34, .iload_n 3, 1, 0, 1, 0, 0, 0, []),
  (35, .aload_n 0, 1, 0, 1, 0, 0, 0, []),
  (36, .getfield 64, 3, 0, 6, 4, 0, 0, [232]),
  (39, .if_icmp .ne 24, 3, 1, 0, 63, 0, 0, []),
  (42, .iload_n 2, 1, 0, 1, 0, 0, 0, []),
  (43, .aload_n 1, 1, 0, 1, 0, 0, 0, []),
  (44, .getfield 39, 3, 0, 6, 5, 0, 1, [202]),
  (47, .if_icmp .ge 16, 3, 1, 0, 63, 0, 0, []),
  (50, .aload_n 0, 1, 0, 1, 0, 0, 0, []),
  (51, .iload_n 3, 1, 0, 1, 0, 0, 0, []),
  (52, .putfield 64, 3, 0, 7, 4, 0, 0, [232]),
  (55, .aload_n 1, 1, 0, 1, 0, 0, 0, []),
  (56, .aload_n 0, 1, 0, 1, 0, 0, 0, []),
  (57, .getfield 12, 3, 0, 6, 4, 1, 0, [234]),
  (60, .invokevirtual 125, 3, 2, 3, 48, 2, 5, [547, 544, 546, 53, 25]),
  (63, .return_, 1, 3, 0, 0, 0, 0, [])]
def mc46 : List mB := mc46_0
def mq46 : mM := (0, 0, mc46, ⟨"SlabPatterns$Search", "keepIfBetter", "(LSlabPatterns$Strips;)V"⟩, prog_3_method_9_code, 4, none, [], [], "SlabPatterns")
/-- SlabPatterns$Strips.<init>()V -/
def mc47_0 : List mB := [(0, .aload_n 0, 1, 0, 1, 0, 0, 0, []),
  (1, .invokespecial 3, 3, 0, 15, 0, 0, 0, [200, 69, 70]),
  (4, .aload_n 0, 1, 0, 1, 0, 0, 0, []),
  (5, .bipush 100, 2, 0, 0, 0, 0, 0, []),
  (7, .newarray .int, 2, 0, 12, 0, 0, 0, []),
  (9, .putfield 9, 3, 0, 7, 5, 1, 2, [204]),
  (12, .aload_n 0, 1, 0, 1, 0, 0, 0, []),
  (13, .bipush 100, 2, 0, 0, 0, 0, 0, []),
  (15, .newarray .boolean, 2, 0, 12, 0, 0, 0, []),
  (17, .putfield 15, 3, 0, 7, 5, 2, 2, [207]),
  (20, .aload_n 0, 1, 0, 1, 0, 0, 0, []),
  (21, .bipush 100, 2, 0, 0, 0, 0, 0, []),
  (23, .newarray .int, 2, 0, 12, 0, 0, 0, []),
  (25, .putfield 19, 3, 0, 7, 5, 3, 2, [210]),
  (28, .aload_n 0, 1, 0, 1, 0, 0, 0, []),
  (29, .bipush 100, 2, 0, 0, 0, 0, 0, []),
  (31, .newarray .int, 2, 0, 12, 0, 0, 0, []),
  (33, .putfield 22, 3, 0, 7, 5, 4, 2, [213]),
  (36, .aload_n 0, 1, 0, 1, 0, 0, 0, []),
  (37, .bipush 100, 2, 0, 0, 0, 0, 0, []),
  (39, .newarray .int, 2, 0, 12, 0, 0, 0, []),
  (41, .putfield 25, 3, 0, 7, 5, 5, 2, [216]),
  (44, .return_, 1, 3, 0, 0, 0, 0, [])]
def mc47 : List mB := mc47_0
def mq47 : mM := (5, 500, mc47, ⟨"SlabPatterns$Strips", "<init>", "()V"⟩, prog_5_method_1_code, 1, none, [], [], "SlabPatterns")
/-- SlabPatterns$Strips.copyFrom(LSlabPatterns$Strips;)V -/
def mc48_0 : List mB := [(0, .aload_n 0, 1, 0, 1, 0, 0, 0, []),
  (1, .iconst 0, 1, 0, 0, 0, 0, 0, []),
  (2, .aload_n 1, 1, 0, 1, 0, 0, 0, []),
  (3, .getfield 28, 3, 0, 6, 5, 0, 0, [201]),
  (6, .bipush 100, 2, 0, 0, 0, 0, 0, []),
  (8, .invokestatic 36, 3, 0, 13, 1, 0, 0, [548, 491, 61, 492]),
  (11, .invokestatic 42, 3, 0, 13, 0, 0, 0, [549, 458, 61, 459]),
  (14, .putfield 28, 3, 0, 7, 5, 0, 0, [201]),
  (17, .iconst 0, 1, 0, 0, 0, 0, 0, []),
  (18, .istore_n 2, 1, 0, 2, 0, 0, 0, []),
  (19, .iload_n 2, 1, 0, 1, 0, 0, 0, []),
  (20, .aload_n 0, 1, 0, 1, 0, 0, 0, []),
  (21, .getfield 28, 3, 0, 6, 5, 0, 0, [201]),
  (24, .if_icmp .ge 69, 3, 1, 0, 93, 0, 0, []),
  (27, .aload_n 0, 1, 0, 1, 0, 0, 0, []),
  (28, .getfield 9, 3, 0, 6, 5, 1, 0, [204]),
  (31, .iload_n 2, 1, 0, 1, 0, 0, 0, []),
  (32, .aload_n 1, 1, 0, 1, 0, 0, 0, []),
  (33, .getfield 9, 3, 0, 6, 5, 1, 0, [204]),
  (36, .iload_n 2, 1, 0, 1, 0, 0, 0, []),
  (37, .iaload, 1, 0, 8, 0, 0, 0, []),
  (38, .iastore, 1, 0, 9, 0, 0, 0, []),
  (39, .aload_n 0, 1, 0, 1, 0, 0, 0, []),
  (40, .getfield 15, 3, 0, 6, 5, 2, 0, [207]),
  (43, .iload_n 2, 1, 0, 1, 0, 0, 0, []),
  (44, .aload_n 1, 1, 0, 1, 0, 0, 0, []),
  (45, .getfield 15, 3, 0, 6, 5, 2, 0, [207]),
  (48, .iload_n 2, 1, 0, 1, 0, 0, 0, []),
  (49, .baload, 1, 0, 8, 0, 0, 0, []),
  (50, .bastore, 1, 0, 9, 0, 0, 0, []),
  (51, .aload_n 0, 1, 0, 1, 0, 0, 0, []),
  (52, .getfield 19, 3, 0, 6, 5, 3, 0, [210]),
  (55, .iload_n 2, 1, 0, 1, 0, 0, 0, []),
  (56, .aload_n 1, 1, 0, 1, 0, 0, 0, []),
  (57, .getfield 19, 3, 0, 6, 5, 3, 0, [210]),
  (60, .iload_n 2, 1, 0, 1, 0, 0, 0, []),
  (61, .iaload, 1, 0, 8, 0, 0, 0, []),
  (62, .iastore, 1, 0, 9, 0, 0, 0, []),
  (63, .aload_n 0, 1, 0, 1, 0, 0, 0, []),
  (64, .getfield 22, 3, 0, 6, 5, 4, 0, [213])]
def mc48_1 : List mB := [(67, .iload_n 2, 1, 0, 1, 0, 0, 0, []),
  (68, .aload_n 1, 1, 0, 1, 0, 0, 0, []),
  (69, .getfield 22, 3, 0, 6, 5, 4, 0, [213]),
  (72, .iload_n 2, 1, 0, 1, 0, 0, 0, []),
  (73, .iaload, 1, 0, 8, 0, 0, 0, []),
  (74, .iastore, 1, 0, 9, 0, 0, 0, []),
  (75, .aload_n 0, 1, 0, 1, 0, 0, 0, []),
  (76, .getfield 25, 3, 0, 6, 5, 5, 0, [216]),
  (79, .iload_n 2, 1, 0, 1, 0, 0, 0, []),
  (80, .aload_n 1, 1, 0, 1, 0, 0, 0, []),
  (81, .getfield 25, 3, 0, 6, 5, 5, 0, [216]),
  (84, .iload_n 2, 1, 0, 1, 0, 0, 0, []),
  (85, .iaload, 1, 0, 8, 0, 0, 0, []),
  (86, .iastore, 1, 0, 9, 0, 0, 0, []),
  (87, .iinc 2 1, 3, 0, 2, 0, 0, 0, []),
  (90, .goto (-71), 3, 0, 16, 19, 0, 0, []),
  (93, .return_, 1, 3, 0, 0, 0, 0, [])]
def mc48 : List mB := mc48_0 ++ (mc48_1)
def mq48 : mM := (0, 0, mc48, ⟨"SlabPatterns$Strips", "copyFrom", "(LSlabPatterns$Strips;)V"⟩, prog_5_method_5_code, 3, none, [], [], "SlabPatterns")
/-- SlabPatterns$Strips.stretch(LSlabPatterns$Slab;LSlabPatterns$Wanted;)V -/
def mc49_0 : List mB := [(0, .iconst 0, 1, 0, 0, 0, 0, 0, []),
  (1, .istore_n 3, 1, 0, 2, 0, 0, 0, []),
  (2, .iload_n 3, 1, 0, 1, 0, 0, 0, []),
  (3, .aload_n 0, 1, 0, 1, 0, 0, 0, []),
  (4, .getfield 28, 3, 0, 6, 5, 0, 0, [201]),
  (7, .if_icmp .ge 68, 3, 1, 0, 75, 0, 0, []),
  (10, .iload_n 3, 1, 0, 1, 0, 0, 0, []),
  (11, .bipush 100, 2, 0, 0, 0, 0, 0, []),
  (13, .if_icmp .ge 62, 3, 1, 0, 75, 0, 0, []),
  (16, .aload_n 2, 1, 0, 1, 0, 0, 0, []),
  (17, .aload_n 0, 1, 0, 1, 0, 0, 0, []),
  (18, .getfield 9, 3, 0, 6, 5, 1, 0, [204]),
  (21, .iload_n 3, 1, 0, 1, 0, 0, 0, []),
  (22, .iaload, 1, 0, 8, 0, 0, 0, []),
  (23, .aload_n 0, 1, 0, 1, 0, 0, 0, []),
  (24, .getfield 15, 3, 0, 6, 5, 2, 0, [207]),
  (27, .iload_n 3, 1, 0, 1, 0, 0, 0, []),
  (28, .baload, 1, 0, 8, 0, 0, 0, []),
  (29, .invokevirtual 76, 3, 2, 3, 33, 3, 2, [557, 554, 556, 50, 27]),
  (32, .istore 4, 2, 0, 2, 0, 0, 0, []),
  (34, .aload_n 0, 1, 0, 1, 0, 0, 0, []),
  (35, .iload_n 3, 1, 0, 1, 0, 0, 0, []),
  (36, .iload 4, 2, 0, 1, 0, 0, 0, []),
  (38, .aload_n 0, 1, 0, 1, 0, 0, 0, []),
  (39, .getfield 22, 3, 0, 6, 5, 4, 0, [213]),
  (42, .iload_n 3, 1, 0, 1, 0, 0, 0, []),
  (43, .iaload, 1, 0, 8, 0, 0, 0, []),
  (44, .isub, 1, 0, 3, 0, 0, 0, []),
  (45, .aload_n 1, 1, 0, 1, 0, 0, 0, []),
  (46, .invokevirtual 79, 3, 2, 2, 50, 4, 5, [561, 558, 560, 53, 28]),
  (49, .istore 5, 2, 0, 2, 0, 0, 0, []),
  (51, .aload_n 0, 1, 0, 1, 0, 0, 0, []),
  (52, .getfield 22, 3, 0, 6, 5, 4, 0, [213]),
  (55, .iload_n 3, 1, 0, 1, 0, 0, 0, []),
  (56, .dup2, 1, 0, 5, 0, 0, 0, []),
  (57, .iaload, 1, 0, 8, 0, 0, 0, []),
  (58, .iload 5, 2, 0, 1, 0, 0, 0, []),
  (60, .iadd, 1, 0, 3, 0, 0, 0, []),
  (61, .iastore, 1, 0, 9, 0, 0, 0, []),
  (62, .aload_n 0, 1, 0, 1, 0, 0, 0, [])]
def mc49_1 : List mB := [(63, .iload_n 3, 1, 0, 1, 0, 0, 0, []),
  (64, .iload 5, 2, 0, 1, 0, 0, 0, []),
  (66, .invokevirtual 83, 3, 2, 2, 54, 3, 5, [579, 576, 578, 53, 32]),
  (69, .iinc 3 1, 3, 0, 2, 0, 0, 0, []),
  (72, .goto (-70), 3, 0, 16, 2, 0, 0, []),
  (75, .return_, 1, 3, 0, 0, 0, 0, [])]
def mc49 : List mB := mc49_0 ++ (mc49_1)
def mq49 : mM := (0, 0, mc49, ⟨"SlabPatterns$Strips", "stretch", "(LSlabPatterns$Slab;LSlabPatterns$Wanted;)V"⟩, prog_5_method_7_code, 6, none, [], [], "SlabPatterns")
/-- SlabPatterns$Strips.growthOf(IILSlabPatterns$Slab;)I -/
def mc50_0 : List mB := [(0, .aload_n 3, 1, 0, 1, 0, 0, 0, []),
  (1, .invokevirtual 54, 3, 2, 3, 25, 1, 1, [518, 562, 517, 49, 18]),
  (4, .aload_n 0, 1, 0, 1, 0, 0, 0, []),
  (5, .aload_n 0, 1, 0, 1, 0, 0, 0, []),
  (6, .getfield 28, 3, 0, 6, 5, 0, 0, [201]),
  (9, .iconst 1, 1, 0, 0, 0, 0, 0, []),
  (10, .isub, 1, 0, 3, 0, 0, 0, []),
  (11, .invokevirtual 50, 3, 2, 2, 51, 2, 5, [566, 563, 565, 53, 29]),
  (14, .isub, 1, 0, 3, 0, 0, 0, []),
  (15, .istore 4, 2, 0, 2, 0, 0, 0, []),
  (17, .iload_n 2, 1, 0, 1, 0, 0, 0, []),
  (18, .iload 4, 2, 0, 1, 0, 0, 0, []),
  (20, .invokestatic 36, 3, 0, 13, 1, 0, 0, [548, 491, 61, 492]),
  (23, .istore 5, 2, 0, 2, 0, 0, 0, []),
  (25, .iload 5, 2, 0, 1, 0, 0, 0, []),
  (27, .ifCond .le 23, 3, 1, 0, 50, 0, 0, []),
  (30, .aload_n 0, 1, 0, 1, 0, 0, 0, []),
  (31, .iload_n 1, 1, 0, 1, 0, 0, 0, []),
  (32, .iload 5, 2, 0, 1, 0, 0, 0, []),
  (34, .aload_n 3, 1, 0, 1, 0, 0, 0, []),
  (35, .invokevirtual 87, 3, 2, 2, 53, 4, 5, [574, 571, 573, 53, 31]),
  (38, .ifCond .eq 6, 3, 1, 0, 44, 0, 0, []),
  (41, .iload 5, 2, 0, 1, 0, 0, 0, []),
  (43, .ireturn, 1, 3, 0, 0, 0, 0, []),
  (44, .iinc 5 (-1), 3, 0, 2, 0, 0, 0, []),
  (47, .goto (-22), 3, 0, 16, 25, 0, 0, []),
  (50, .iconst 0, 1, 0, 0, 0, 0, 0, []),
  (51, .ireturn, 1, 3, 0, 0, 0, 0, [])]
def mc50 : List mB := mc50_0
def mq50 : mM := (0, 0, mc50, ⟨"SlabPatterns$Strips", "growthOf", "(IILSlabPatterns$Slab;)I"⟩, prog_5_method_8_code, 6, some .int, [], [], "SlabPatterns")
/-- SlabPatterns$Strips.endOf(I)I -/
def mc51_0 : List mB := [(0, .aload_n 0, 1, 0, 1, 0, 0, 0, []),
  (1, .iload_n 1, 1, 0, 1, 0, 0, 0, []),
  (2, .invokevirtual 32, 3, 2, 2, 52, 2, 5, [570, 567, 569, 53, 30]),
  (5, .ifCond .eq 19, 3, 1, 0, 24, 0, 0, []),
  (8, .aload_n 0, 1, 0, 1, 0, 0, 0, []),
  (9, .getfield 19, 3, 0, 6, 5, 3, 0, [210]),
  (12, .iload_n 1, 1, 0, 1, 0, 0, 0, []),
  (13, .iaload, 1, 0, 8, 0, 0, 0, []),
  (14, .aload_n 0, 1, 0, 1, 0, 0, 0, []),
  (15, .getfield 22, 3, 0, 6, 5, 4, 0, [213]),
  (18, .iload_n 1, 1, 0, 1, 0, 0, 0, []),
  (19, .iaload, 1, 0, 8, 0, 0, 0, []),
  (20, .iadd, 1, 0, 3, 0, 0, 0, []),
  (21, .goto 4, 3, 0, 16, 25, 0, 0, []),
  (24, .iconst 0, 1, 0, 0, 0, 0, 0, []),
  (25, .ireturn, 1, 3, 0, 0, 0, 0, [])]
def mc51 : List mB := mc51_0
def mq51 : mM := (0, 0, mc51, ⟨"SlabPatterns$Strips", "endOf", "(I)I"⟩, prog_5_method_3_code, 2, some .int, [], [], "SlabPatterns")
/-- SlabPatterns$Strips.has(I)Z -/
def mc52_0 : List mB := [(0, .iload_n 1, 1, 0, 1, 0, 0, 0, []),
  (1, .ifCond .lt 21, 3, 1, 0, 22, 0, 0, []),
  (4, .iload_n 1, 1, 0, 1, 0, 0, 0, []),
  (5, .aload_n 0, 1, 0, 1, 0, 0, 0, []),
  (6, .getfield 28, 3, 0, 6, 5, 0, 0, [201]),
  (9, .if_icmp .ge 13, 3, 1, 0, 22, 0, 0, []),
  (12, .iload_n 1, 1, 0, 1, 0, 0, 0, []),
  (13, .bipush 100, 2, 0, 0, 0, 0, 0, []),
  (15, .if_icmp .ge 7, 3, 1, 0, 22, 0, 0, []),
  (18, .iconst 1, 1, 0, 0, 0, 0, 0, []),
  (19, .goto 4, 3, 0, 16, 23, 0, 0, []),
  (22, .iconst 0, 1, 0, 0, 0, 0, 0, []),
  (23, .ireturn, 1, 3, 0, 0, 0, 0, [])]
def mc52 : List mB := mc52_0
def mq52 : mM := (0, 0, mc52, ⟨"SlabPatterns$Strips", "has", "(I)Z"⟩, prog_5_method_2_code, 2, some .boolean, [], [], "SlabPatterns")
/-- SlabPatterns$Strips.mayGrow(IILSlabPatterns$Slab;)Z -/
def mc53_0 : List mB := [(0, .aload_n 3, 1, 0, 1, 0, 0, 0, []),
  (1, .aload_n 0, 1, 0, 1, 0, 0, 0, []),
  (2, .iload_n 1, 1, 0, 1, 0, 0, 0, []),
  (3, .invokevirtual 50, 3, 2, 2, 51, 2, 5, [566, 563, 565, 53, 29]),
  (6, .iload_n 2, 1, 0, 1, 0, 0, 0, []),
  (7, .iadd, 1, 0, 3, 0, 0, 0, []),
  (8, .invokevirtual 58, 3, 2, 3, 24, 2, 1, [514, 575, 513, 49, 17]),
  (11, .ifCond .eq 5, 3, 1, 0, 16, 0, 0, []),
  (14, .iconst 0, 1, 0, 0, 0, 0, 0, []),
  (15, .ireturn, 1, 3, 0, 0, 0, 0, []),
  (16, .iload_n 1, 1, 0, 1, 0, 0, 0, []),
  (17, .iconst 1, 1, 0, 0, 0, 0, 0, []),
  (18, .iadd, 1, 0, 3, 0, 0, 0, []),
  (19, .istore 4, 2, 0, 2, 0, 0, 0, []),
  (21, .iload 4, 2, 0, 1, 0, 0, 0, []),
  (23, .aload_n 0, 1, 0, 1, 0, 0, 0, []),
  (24, .getfield 28, 3, 0, 6, 5, 0, 0, [201]),
  (27, .if_icmp .ge 49, 3, 1, 0, 76, 0, 0, []),
  (30, .iload 4, 2, 0, 1, 0, 0, 0, []),
  (32, .bipush 100, 2, 0, 0, 0, 0, 0, []),
  (34, .if_icmp .ge 42, 3, 1, 0, 76, 0, 0, []),
  (37, .aload_n 3, 1, 0, 1, 0, 0, 0, []),
  (38, .aload_n 0, 1, 0, 1, 0, 0, 0, []),
  (39, .getfield 19, 3, 0, 6, 5, 3, 0, [210]),
  (42, .iload 4, 2, 0, 1, 0, 0, 0, []),
  (44, .iaload, 1, 0, 8, 0, 0, 0, []),
  (45, .iload_n 2, 1, 0, 1, 0, 0, 0, []),
  (46, .iadd, 1, 0, 3, 0, 0, 0, []),
  (47, .invokevirtual 58, 3, 2, 3, 24, 2, 1, [514, 575, 513, 49, 17]),
  (50, .ifCond .ne 18, 3, 1, 0, 68, 0, 0, []),
  (53, .aload_n 3, 1, 0, 1, 0, 0, 0, []),
  (54, .aload_n 0, 1, 0, 1, 0, 0, 0, []),
  (55, .iload 4, 2, 0, 1, 0, 0, 0, []),
  (57, .invokevirtual 50, 3, 2, 2, 51, 2, 5, [566, 563, 565, 53, 29]),
  (60, .iload_n 2, 1, 0, 1, 0, 0, 0, []),
  (61, .iadd, 1, 0, 3, 0, 0, 0, []),
  (62, .invokevirtual 58, 3, 2, 3, 24, 2, 1, [514, 575, 513, 49, 17]),
  (65, .ifCond .eq 5, 3, 1, 0, 70, 0, 0, []),
  (68, .iconst 0, 1, 0, 0, 0, 0, 0, []),
  (69, .ireturn, 1, 3, 0, 0, 0, 0, [])]
def mc53_1 : List mB := [(70, .iinc 4 1, 3, 0, 2, 0, 0, 0, []),
  (73, .goto (-52), 3, 0, 16, 21, 0, 0, []),
  (76, .iconst 1, 1, 0, 0, 0, 0, 0, []),
  (77, .ireturn, 1, 3, 0, 0, 0, 0, [])]
def mc53 : List mB := mc53_0 ++ (mc53_1)
def mq53 : mM := (0, 0, mc53, ⟨"SlabPatterns$Strips", "mayGrow", "(IILSlabPatterns$Slab;)Z"⟩, prog_5_method_9_code, 5, some .boolean, [], [], "SlabPatterns")
/-- SlabPatterns$Strips.moveBehind(II)V -/
def mc54_0 : List mB := [(0, .iload_n 1, 1, 0, 1, 0, 0, 0, []),
  (1, .iconst 1, 1, 0, 0, 0, 0, 0, []),
  (2, .iadd, 1, 0, 3, 0, 0, 0, []),
  (3, .istore_n 3, 1, 0, 2, 0, 0, 0, []),
  (4, .iload_n 3, 1, 0, 1, 0, 0, 0, []),
  (5, .aload_n 0, 1, 0, 1, 0, 0, 0, []),
  (6, .getfield 28, 3, 0, 6, 5, 0, 0, [201]),
  (9, .if_icmp .ge 25, 3, 1, 0, 34, 0, 0, []),
  (12, .iload_n 3, 1, 0, 1, 0, 0, 0, []),
  (13, .bipush 100, 2, 0, 0, 0, 0, 0, []),
  (15, .if_icmp .ge 19, 3, 1, 0, 34, 0, 0, []),
  (18, .aload_n 0, 1, 0, 1, 0, 0, 0, []),
  (19, .getfield 19, 3, 0, 6, 5, 3, 0, [210]),
  (22, .iload_n 3, 1, 0, 1, 0, 0, 0, []),
  (23, .dup2, 1, 0, 5, 0, 0, 0, []),
  (24, .iaload, 1, 0, 8, 0, 0, 0, []),
  (25, .iload_n 2, 1, 0, 1, 0, 0, 0, []),
  (26, .iadd, 1, 0, 3, 0, 0, 0, []),
  (27, .iastore, 1, 0, 9, 0, 0, 0, []),
  (28, .iinc 3 1, 3, 0, 2, 0, 0, 0, []),
  (31, .goto (-27), 3, 0, 16, 4, 0, 0, []),
  (34, .return_, 1, 3, 0, 0, 0, 0, [])]
def mc54 : List mB := mc54_0
def mq54 : mM := (0, 0, mc54, ⟨"SlabPatterns$Strips", "moveBehind", "(II)V"⟩, prog_5_method_10_code, 4, none, [], [], "SlabPatterns")
/-- SlabPatterns$Strips.copiesOf(II)I -/
def mc55_0 : List mB := [(0, .iconst 0, 1, 0, 0, 0, 0, 0, []),
  (1, .istore_n 3, 1, 0, 2, 0, 0, 0, []),
  (2, .iconst 0, 1, 0, 0, 0, 0, 0, []),
  (3, .istore 4, 2, 0, 2, 0, 0, 0, []),
  (5, .iload 4, 2, 0, 1, 0, 0, 0, []),
  (7, .iload_n 2, 1, 0, 1, 0, 0, 0, []),
  (8, .if_icmp .ge 37, 3, 1, 0, 45, 0, 0, []),
  (11, .iload 4, 2, 0, 1, 0, 0, 0, []),
  (13, .bipush 100, 2, 0, 0, 0, 0, 0, []),
  (15, .if_icmp .ge 30, 3, 1, 0, 45, 0, 0, []),
  (18, .aload_n 0, 1, 0, 1, 0, 0, 0, []),
  (19, .getfield 9, 3, 0, 6, 5, 1, 0, [204]),
  (22, .iload 4, 2, 0, 1, 0, 0, 0, []),
  (24, .iaload, 1, 0, 8, 0, 0, 0, []),
  (25, .iload_n 1, 1, 0, 1, 0, 0, 0, []),
  (26, .if_icmp .ne 13, 3, 1, 0, 39, 0, 0, []),
  (29, .iload_n 3, 1, 0, 1, 0, 0, 0, []),
  (30, .aload_n 0, 1, 0, 1, 0, 0, 0, []),
  (31, .getfield 25, 3, 0, 6, 5, 5, 0, [216]),
  (34, .iload 4, 2, 0, 1, 0, 0, 0, []),
  (36, .iaload, 1, 0, 8, 0, 0, 0, []),
  (37, .iadd, 1, 0, 3, 0, 0, 0, []),
  (38, .istore_n 3, 1, 0, 2, 0, 0, 0, []),
  (39, .iinc 4 1, 3, 0, 2, 0, 0, 0, []),
  (42, .goto (-37), 3, 0, 16, 5, 0, 0, []),
  (45, .iload_n 3, 1, 0, 1, 0, 0, 0, []),
  (46, .ireturn, 1, 3, 0, 0, 0, 0, [])]
def mc55 : List mB := mc55_0
def mq55 : mM := (0, 0, mc55, ⟨"SlabPatterns$Strips", "copiesOf", "(II)I"⟩, prog_5_method_4_code, 5, some .int, [], [], "SlabPatterns")
/-- SlabPatterns$Strips.isRight(ILSlabPatterns$Slab;LSlabPatterns$Wanted;)Z -/
def mc56_0 : List mB := [(0, .aload_n 0, 1, 0, 1, 0, 0, 0, []),
  (1, .iload_n 1, 1, 0, 1, 0, 0, 0, []),
  (2, .invokevirtual 32, 3, 2, 2, 52, 2, 5, [570, 567, 569, 53, 30]),
  (5, .ifCond .ne 5, 3, 1, 0, 10, 0, 0, []),
  (8, .iconst 0, 1, 0, 0, 0, 0, 0, []),
  (9, .ireturn, 1, 3, 0, 0, 0, 0, []),
  (10, .aload_n 0, 1, 0, 1, 0, 0, 0, []),
  (11, .getfield 19, 3, 0, 6, 5, 3, 0, [210]),
  (14, .iload_n 1, 1, 0, 1, 0, 0, 0, []),
  (15, .iaload, 1, 0, 8, 0, 0, 0, []),
  (16, .aload_n 2, 1, 0, 1, 0, 0, 0, []),
  (17, .getfield 45, 3, 0, 6, 1, 5, 1, [91]),
  (20, .if_icmp .lt 19, 3, 1, 0, 39, 0, 0, []),
  (23, .aload_n 0, 1, 0, 1, 0, 0, 0, []),
  (24, .iload_n 1, 1, 0, 1, 0, 0, 0, []),
  (25, .invokevirtual 50, 3, 2, 2, 51, 2, 5, [566, 563, 565, 53, 29]),
  (28, .aload_n 2, 1, 0, 1, 0, 0, 0, []),
  (29, .invokevirtual 54, 3, 2, 3, 25, 1, 1, [518, 562, 517, 49, 18]),
  (32, .if_icmp .gt 7, 3, 1, 0, 39, 0, 0, []),
  (35, .iconst 1, 1, 0, 0, 0, 0, 0, []),
  (36, .goto 4, 3, 0, 16, 40, 0, 0, []),
  (39, .iconst 0, 1, 0, 0, 0, 0, 0, []),
  (40, .istore 4, 2, 0, 2, 0, 0, 0, []),
  (42, .aload_n 2, 1, 0, 1, 0, 0, 0, []),
  (43, .aload_n 0, 1, 0, 1, 0, 0, 0, []),
  (44, .getfield 19, 3, 0, 6, 5, 3, 0, [210]),
  (47, .iload_n 1, 1, 0, 1, 0, 0, 0, []),
  (48, .iaload, 1, 0, 8, 0, 0, 0, []),
  (49, .invokevirtual 58, 3, 2, 3, 24, 2, 1, [514, 575, 513, 49, 17]),
  (52, .ifCond .ne 19, 3, 1, 0, 71, 0, 0, []),
  (55, .aload_n 2, 1, 0, 1, 0, 0, 0, []),
  (56, .aload_n 0, 1, 0, 1, 0, 0, 0, []),
  (57, .iload_n 1, 1, 0, 1, 0, 0, 0, []),
  (58, .invokevirtual 50, 3, 2, 2, 51, 2, 5, [566, 563, 565, 53, 29]),
  (61, .invokevirtual 58, 3, 2, 3, 24, 2, 1, [514, 575, 513, 49, 17]),
  (64, .ifCond .ne 7, 3, 1, 0, 71, 0, 0, []),
  (67, .iconst 1, 1, 0, 0, 0, 0, 0, []),
  (68, .goto 4, 3, 0, 16, 72, 0, 0, []),
  (71, .iconst 0, 1, 0, 0, 0, 0, 0, []),
  (72, .istore 5, 2, 0, 2, 0, 0, 0, [])]
def mc56_1 : List mB := [(74, .iload 4, 2, 0, 1, 0, 0, 0, []),
  (76, .ifCond .eq 67, 3, 1, 0, 143, 0, 0, []),
  (79, .iload 5, 2, 0, 1, 0, 0, 0, []),
  (81, .ifCond .eq 62, 3, 1, 0, 143, 0, 0, []),
  (84, .aload_n 0, 1, 0, 1, 0, 0, 0, []),
  (85, .aload_n 0, 1, 0, 1, 0, 0, 0, []),
  (86, .getfield 9, 3, 0, 6, 5, 1, 0, [204]),
  (89, .iload_n 1, 1, 0, 1, 0, 0, 0, []),
  (90, .iaload, 1, 0, 8, 0, 0, 0, []),
  (91, .iload_n 1, 1, 0, 1, 0, 0, 0, []),
  (92, .iconst 1, 1, 0, 0, 0, 0, 0, []),
  (93, .iadd, 1, 0, 3, 0, 0, 0, []),
  (94, .invokevirtual 61, 3, 2, 2, 55, 3, 5, [635, 661, 634, 53, 34]),
  (97, .aload_n 3, 1, 0, 1, 0, 0, 0, []),
  (98, .aload_n 0, 1, 0, 1, 0, 0, 0, []),
  (99, .getfield 9, 3, 0, 6, 5, 1, 0, [204]),
  (102, .iload_n 1, 1, 0, 1, 0, 0, 0, []),
  (103, .iaload, 1, 0, 8, 0, 0, 0, []),
  (104, .invokevirtual 64, 3, 2, 3, 30, 2, 2, [475, 662, 474, 50, 9]),
  (107, .if_icmp .gt 36, 3, 1, 0, 143, 0, 0, []),
  (110, .aload_n 0, 1, 0, 1, 0, 0, 0, []),
  (111, .getfield 25, 3, 0, 6, 5, 5, 0, [216]),
  (114, .iload_n 1, 1, 0, 1, 0, 0, 0, []),
  (115, .iaload, 1, 0, 8, 0, 0, 0, []),
  (116, .aload_n 2, 1, 0, 1, 0, 0, 0, []),
  (117, .aload_n 3, 1, 0, 1, 0, 0, 0, []),
  (118, .aload_n 0, 1, 0, 1, 0, 0, 0, []),
  (119, .getfield 9, 3, 0, 6, 5, 1, 0, [204]),
  (122, .iload_n 1, 1, 0, 1, 0, 0, 0, []),
  (123, .iaload, 1, 0, 8, 0, 0, 0, []),
  (124, .aload_n 0, 1, 0, 1, 0, 0, 0, []),
  (125, .getfield 15, 3, 0, 6, 5, 2, 0, [207]),
  (128, .iload_n 1, 1, 0, 1, 0, 0, 0, []),
  (129, .baload, 1, 0, 8, 0, 0, 0, []),
  (130, .invokevirtual 69, 3, 2, 3, 31, 3, 2, [485, 663, 484, 50, 11]),
  (133, .invokevirtual 73, 3, 2, 3, 23, 2, 1, [489, 664, 488, 49, 12]),
  (136, .if_icmp .gt 7, 3, 1, 0, 143, 0, 0, []),
  (139, .iconst 1, 1, 0, 0, 0, 0, 0, []),
  (140, .goto 4, 3, 0, 16, 144, 0, 0, []),
  (143, .iconst 0, 1, 0, 0, 0, 0, 0, [])]
def mc56_2 : List mB := [(144, .ireturn, 1, 3, 0, 0, 0, 0, [])]
def mc56 : List mB := mc56_0 ++ (mc56_1 ++ (mc56_2))
def mq56 : mM := (0, 0, mc56, ⟨"SlabPatterns$Strips", "isRight", "(ILSlabPatterns$Slab;LSlabPatterns$Wanted;)Z"⟩, prog_5_method_6_code, 6, some .boolean, [], [], "SlabPatterns")
/-- SlabPatternsModel.<init>()V -/
def mc57_0 : List mB := [(0, .aload_n 0, 1, 0, 1, 0, 0, 0, []),
  (1, .invokespecial 1, 3, 0, 15, 0, 0, 0, [670, 69, 70]),
  (4, .aload_n 0, 1, 0, 1, 0, 0, 0, []),
  (5, .iconst 1, 1, 0, 0, 0, 0, 0, []),
  (6, .putfield 7, 3, 0, 7, 6, 1, 0, [672]),
  (9, .aload_n 0, 1, 0, 1, 0, 0, 0, []),
  (10, .iconst 1, 1, 0, 0, 0, 0, 0, []),
  (11, .putfield 13, 3, 0, 7, 6, 2, 0, [673]),
  (14, .aload_n 0, 1, 0, 1, 0, 0, 0, []),
  (15, .iconst 2, 1, 0, 0, 0, 0, 0, []),
  (16, .putfield 16, 3, 0, 7, 6, 6, 0, [677]),
  (19, .aload_n 0, 1, 0, 1, 0, 0, 0, []),
  (20, .bipush 20, 2, 0, 0, 0, 0, 0, []),
  (22, .putfield 19, 3, 0, 7, 6, 7, 0, [678]),
  (25, .aload_n 0, 1, 0, 1, 0, 0, 0, []),
  (26, .bipush 10, 2, 0, 0, 0, 0, 0, []),
  (28, .putfield 22, 3, 0, 7, 6, 8, 0, [679]),
  (31, .aload_n 0, 1, 0, 1, 0, 0, 0, []),
  (32, .iconst 5, 1, 0, 0, 0, 0, 0, []),
  (33, .newarray .int, 2, 0, 12, 0, 0, 0, []),
  (35, .putfield 25, 3, 0, 7, 6, 10, 2, [681]),
  (38, .aload_n 0, 1, 0, 1, 0, 0, 0, []),
  (39, .iconst 5, 1, 0, 0, 0, 0, 0, []),
  (40, .newarray .int, 2, 0, 12, 0, 0, 0, []),
  (42, .putfield 29, 3, 0, 7, 6, 11, 2, [682]),
  (45, .aload_n 0, 1, 0, 1, 0, 0, 0, []),
  (46, .iconst 5, 1, 0, 0, 0, 0, 0, []),
  (47, .newarray .int, 2, 0, 12, 0, 0, 0, []),
  (49, .putfield 32, 3, 0, 7, 6, 12, 2, [683]),
  (52, .aload_n 0, 1, 0, 1, 0, 0, 0, []),
  (53, .iconst 5, 1, 0, 0, 0, 0, 0, []),
  (54, .newarray .int, 2, 0, 12, 0, 0, 0, []),
  (56, .putfield 35, 3, 0, 7, 6, 13, 2, [684]),
  (59, .aload_n 0, 1, 0, 1, 0, 0, 0, []),
  (60, .iconst 5, 1, 0, 0, 0, 0, 0, []),
  (61, .newarray .int, 2, 0, 12, 0, 0, 0, []),
  (63, .putfield 38, 3, 0, 7, 6, 14, 2, [685]),
  (66, .aload_n 0, 1, 0, 1, 0, 0, 0, []),
  (67, .iconst 5, 1, 0, 0, 0, 0, 0, []),
  (68, .newarray .boolean, 2, 0, 12, 0, 0, 0, [])]
def mc57_1 : List mB := [(70, .putfield 41, 3, 0, 7, 6, 15, 2, [686]),
  (73, .aload_n 0, 1, 0, 1, 0, 0, 0, []),
  (74, .iconst 4, 1, 0, 0, 0, 0, 0, []),
  (75, .newarray .int, 2, 0, 12, 0, 0, 0, []),
  (77, .putfield 45, 3, 0, 7, 6, 17, 2, [688]),
  (80, .aload_n 0, 1, 0, 1, 0, 0, 0, []),
  (81, .iconst 4, 1, 0, 0, 0, 0, 0, []),
  (82, .newarray .int, 2, 0, 12, 0, 0, 0, []),
  (84, .putfield 48, 3, 0, 7, 6, 18, 2, [689]),
  (87, .aload_n 0, 1, 0, 1, 0, 0, 0, []),
  (88, .sipush 202, 3, 0, 0, 0, 0, 0, []),
  (91, .newarray .int, 2, 0, 12, 0, 0, 0, []),
  (93, .putfield 51, 3, 0, 7, 6, 19, 2, [690]),
  (96, .aload_n 0, 1, 0, 1, 0, 0, 0, []),
  (97, .sipush 202, 3, 0, 0, 0, 0, 0, []),
  (100, .newarray .int, 2, 0, 12, 0, 0, 0, []),
  (102, .putfield 54, 3, 0, 7, 6, 20, 2, [691]),
  (105, .aload_n 0, 1, 0, 1, 0, 0, 0, []),
  (106, .sipush 202, 3, 0, 0, 0, 0, 0, []),
  (109, .newarray .int, 2, 0, 12, 0, 0, 0, []),
  (111, .putfield 57, 3, 0, 7, 6, 21, 2, [692]),
  (114, .aload_n 0, 1, 0, 1, 0, 0, 0, []),
  (115, .iconst 5, 1, 0, 0, 0, 0, 0, []),
  (116, .newarray .int, 2, 0, 12, 0, 0, 0, []),
  (118, .putfield 60, 3, 0, 7, 6, 22, 2, [693]),
  (121, .aload_n 0, 1, 0, 1, 0, 0, 0, []),
  (122, .sipush 202, 3, 0, 0, 0, 0, 0, []),
  (125, .newarray .int, 2, 0, 12, 0, 0, 0, []),
  (127, .putfield 63, 3, 0, 7, 6, 26, 2, [697]),
  (130, .aload_n 0, 1, 0, 1, 0, 0, 0, []),
  (131, .sipush 202, 3, 0, 0, 0, 0, 0, []),
  (134, .newarray .int, 2, 0, 12, 0, 0, 0, []),
  (136, .putfield 66, 3, 0, 7, 6, 27, 2, [698]),
  (139, .aload_n 0, 1, 0, 1, 0, 0, 0, []),
  (140, .sipush 202, 3, 0, 0, 0, 0, 0, []),
  (143, .newarray .int, 2, 0, 12, 0, 0, 0, []),
  (145, .putfield 69, 3, 0, 7, 6, 28, 2, [699]),
  (148, .aload_n 0, 1, 0, 1, 0, 0, 0, []),
  (149, .sipush 202, 3, 0, 0, 0, 0, 0, []),
  (152, .newarray .int, 2, 0, 12, 0, 0, 0, [])]
def mc57_2 : List mB := [(154, .putfield 72, 3, 0, 7, 6, 29, 2, [700]),
  (157, .return_, 1, 3, 0, 0, 0, 0, [])]
def mc57 : List mB := mc57_0 ++ (mc57_1 ++ (mc57_2))
def mq57 : mM := (16, 1457, mc57, ⟨"SlabPatternsModel", "<init>", "()V"⟩, prog_8_method_1_code, 1, none, [], [], "SlabPatternsModel")
/-- SlabPatternsModel.thrown()I -/
def mc58_0 : List mB := [(0, .aload_n 0, 1, 0, 1, 0, 0, 0, []),
  (1, .getfield 75, 3, 0, 6, 6, 0, 0, [671]),
  (4, .ireturn, 1, 3, 0, 0, 0, 0, [])]
def mc58 : List mB := mc58_0
def mq58 : mM := (0, 0, mc58, ⟨"SlabPatternsModel", "thrown", "()I"⟩, prog_8_method_2_code, 1, some .int, [], [], "SlabPatternsModel")
/-- SlabPatternsModel.plate(III)V -/
def mc59_0 : List mB := [(0, .aload_n 0, 1, 0, 1, 0, 0, 0, []),
  (1, .iload_n 1, 1, 0, 1, 0, 0, 0, []),
  (2, .invokestatic 82, 3, 2, 4, 60, 1, 0, [772, 770, 771, 54]),
  (5, .ifCond .eq 24, 3, 1, 0, 29, 0, 0, []),
  (8, .iload_n 2, 1, 0, 1, 0, 0, 0, []),
  (9, .invokestatic 82, 3, 2, 4, 60, 1, 0, [772, 770, 771, 54]),
  (12, .ifCond .eq 17, 3, 1, 0, 29, 0, 0, []),
  (15, .iload_n 3, 1, 0, 1, 0, 0, 0, []),
  (16, .iconst 0, 1, 0, 0, 0, 0, 0, []),
  (17, .bipush 20, 2, 0, 0, 0, 0, 0, []),
  (19, .invokestatic 78, 3, 2, 4, 61, 3, 0, [775, 773, 774, 54]),
  (22, .ifCond .eq 7, 3, 1, 0, 29, 0, 0, []),
  (25, .iconst 1, 1, 0, 0, 0, 0, 0, []),
  (26, .goto 4, 3, 0, 16, 30, 0, 0, []),
  (29, .iconst 0, 1, 0, 0, 0, 0, 0, []),
  (30, .iconst 1, 1, 0, 0, 0, 0, 0, []),
  (31, .iconst 1, 1, 0, 0, 0, 0, 0, []),
  (32, .invokevirtual 86, 3, 2, 2, 62, 4, 6, [779, 776, 778, 54, 37]),
  (35, .ifCond .ne 4, 3, 1, 0, 39, 0, 0, []),
  (38, .return_, 1, 3, 0, 0, 0, 0, []),
  (39, .aload_n 0, 1, 0, 1, 0, 0, 0, []),
  (40, .iload_n 1, 1, 0, 1, 0, 0, 0, []),
  (41, .putfield 7, 3, 0, 7, 6, 1, 0, [672]),
  (44, .aload_n 0, 1, 0, 1, 0, 0, 0, []),
  (45, .iload_n 2, 1, 0, 1, 0, 0, 0, []),
  (46, .putfield 13, 3, 0, 7, 6, 2, 0, [673]),
  (49, .aload_n 0, 1, 0, 1, 0, 0, 0, []),
  (50, .iload_n 3, 1, 0, 1, 0, 0, 0, []),
  (51, .putfield 90, 3, 0, 7, 6, 3, 0, [674]),
  (54, .aload_n 0, 1, 0, 1, 0, 0, 0, []),
  (55, .iconst 0, 1, 0, 0, 0, 0, 0, []),
  (56, .putfield 93, 3, 0, 7, 6, 23, 0, [694]),
  (59, .return_, 1, 3, 0, 0, 0, 0, [])]
def mc59 : List mB := mc59_0
def mq59 : mM := (0, 0, mc59, ⟨"SlabPatternsModel", "plate", "(III)V"⟩, prog_8_method_6_code, 4, none, [], [], "SlabPatternsModel")
/-- SlabPatternsModel.isSize(I)Z -/
def mc60_0 : List mB := [(0, .iload_n 0, 1, 0, 1, 0, 0, 0, []),
  (1, .iconst 1, 1, 0, 0, 0, 0, 0, []),
  (2, .sipush 200, 3, 0, 0, 0, 0, 0, []),
  (5, .invokestatic 78, 3, 2, 4, 61, 3, 0, [775, 773, 774, 54]),
  (8, .ireturn, 1, 3, 0, 0, 0, 0, [])]
def mc60 : List mB := mc60_0
def mq60 : mM := (0, 0, mc60, ⟨"SlabPatternsModel", "isSize", "(I)Z"⟩, prog_8_method_5_code, 1, some .boolean, [], [], "SlabPatternsModel")
/-- SlabPatternsModel.in(III)Z -/
def mc61_0 : List mB := [(0, .iload_n 0, 1, 0, 1, 0, 0, 0, []),
  (1, .iload_n 1, 1, 0, 1, 0, 0, 0, []),
  (2, .if_icmp .lt 12, 3, 1, 0, 14, 0, 0, []),
  (5, .iload_n 0, 1, 0, 1, 0, 0, 0, []),
  (6, .iload_n 2, 1, 0, 1, 0, 0, 0, []),
  (7, .if_icmp .gt 7, 3, 1, 0, 14, 0, 0, []),
  (10, .iconst 1, 1, 0, 0, 0, 0, 0, []),
  (11, .goto 4, 3, 0, 16, 15, 0, 0, []),
  (14, .iconst 0, 1, 0, 0, 0, 0, 0, []),
  (15, .ireturn, 1, 3, 0, 0, 0, 0, [])]
def mc61 : List mB := mc61_0
def mq61 : mM := (0, 0, mc61, ⟨"SlabPatternsModel", "in", "(III)Z"⟩, prog_8_method_3_code, 3, some .boolean, [], [], "SlabPatternsModel")
/-- SlabPatternsModel.goes(ZZZ)Z -/
def mc62_0 : List mB := [(0, .aload_n 0, 1, 0, 1, 0, 0, 0, []),
  (1, .iload_n 1, 1, 0, 1, 0, 0, 0, []),
  (2, .ifCond .ne 7, 3, 1, 0, 9, 0, 0, []),
  (5, .iconst 1, 1, 0, 0, 0, 0, 0, []),
  (6, .goto 20, 3, 0, 16, 26, 0, 0, []),
  (9, .iload_n 2, 1, 0, 1, 0, 0, 0, []),
  (10, .ifCond .ne 7, 3, 1, 0, 17, 0, 0, []),
  (13, .iconst 2, 1, 0, 0, 0, 0, 0, []),
  (14, .goto 12, 3, 0, 16, 26, 0, 0, []),
  (17, .iload_n 3, 1, 0, 1, 0, 0, 0, []),
  (18, .ifCond .ne 7, 3, 1, 0, 25, 0, 0, []),
  (21, .iconst 3, 1, 0, 0, 0, 0, 0, []),
  (22, .goto 4, 3, 0, 16, 26, 0, 0, []),
  (25, .iconst 0, 1, 0, 0, 0, 0, 0, []),
  (26, .putfield 75, 3, 0, 7, 6, 0, 0, [671]),
  (29, .aload_n 0, 1, 0, 1, 0, 0, 0, []),
  (30, .getfield 75, 3, 0, 6, 6, 0, 0, [671]),
  (33, .ifCond .ne 7, 3, 1, 0, 40, 0, 0, []),
  (36, .iconst 1, 1, 0, 0, 0, 0, 0, []),
  (37, .goto 4, 3, 0, 16, 41, 0, 0, []),
  (40, .iconst 0, 1, 0, 0, 0, 0, 0, []),
  (41, .ireturn, 1, 3, 0, 0, 0, 0, [])]
def mc62 : List mB := mc62_0
def mq62 : mM := (0, 0, mc62, ⟨"SlabPatternsModel", "goes", "(ZZZ)Z"⟩, prog_8_method_4_code, 4, some .boolean, [], [], "SlabPatternsModel")
/-- SlabPatternsModel.want(IIIII)I -/
def mc63_0 : List mB := [(0, .aload_n 0, 1, 0, 1, 0, 0, 0, []),
  (1, .iload_n 1, 1, 0, 1, 0, 0, 0, []),
  (2, .invokestatic 82, 3, 2, 4, 60, 1, 0, [772, 770, 771, 54]),
  (5, .ifCond .eq 47, 3, 1, 0, 52, 0, 0, []),
  (8, .iload_n 2, 1, 0, 1, 0, 0, 0, []),
  (9, .iload_n 1, 1, 0, 1, 0, 0, 0, []),
  (10, .sipush 200, 3, 0, 0, 0, 0, 0, []),
  (13, .invokestatic 78, 3, 2, 4, 61, 3, 0, [775, 773, 774, 54]),
  (16, .ifCond .eq 36, 3, 1, 0, 52, 0, 0, []),
  (19, .iload_n 3, 1, 0, 1, 0, 0, 0, []),
  (20, .invokestatic 82, 3, 2, 4, 60, 1, 0, [772, 770, 771, 54]),
  (23, .ifCond .eq 29, 3, 1, 0, 52, 0, 0, []),
  (26, .iload 4, 2, 0, 1, 0, 0, 0, []),
  (28, .iconst 0, 1, 0, 0, 0, 0, 0, []),
  (29, .ldc 97, 2, 0, 0, 100000, 0, 0, [784]),
  (31, .invokestatic 78, 3, 2, 4, 61, 3, 0, [775, 773, 774, 54]),
  (34, .ifCond .eq 18, 3, 1, 0, 52, 0, 0, []),
  (37, .iload 5, 2, 0, 1, 0, 0, 0, []),
  (39, .iconst 0, 1, 0, 0, 0, 0, 0, []),
  (40, .bipush 20, 2, 0, 0, 0, 0, 0, []),
  (42, .invokestatic 78, 3, 2, 4, 61, 3, 0, [775, 773, 774, 54]),
  (45, .ifCond .eq 7, 3, 1, 0, 52, 0, 0, []),
  (48, .iconst 1, 1, 0, 0, 0, 0, 0, []),
  (49, .goto 4, 3, 0, 16, 53, 0, 0, []),
  (52, .iconst 0, 1, 0, 0, 0, 0, 0, []),
  (53, .aload_n 0, 1, 0, 1, 0, 0, 0, []),
  (54, .getfield 98, 3, 0, 6, 6, 9, 0, [680]),
  (57, .iconst 5, 1, 0, 0, 0, 0, 0, []),
  (58, .if_icmp .ge 7, 3, 1, 0, 65, 0, 0, []),
  (61, .iconst 1, 1, 0, 0, 0, 0, 0, []),
  (62, .goto 4, 3, 0, 16, 66, 0, 0, []),
  (65, .iconst 0, 1, 0, 0, 0, 0, 0, []),
  (66, .iconst 1, 1, 0, 0, 0, 0, 0, []),
  (67, .invokevirtual 86, 3, 2, 2, 62, 4, 6, [779, 776, 778, 54, 37]),
  (70, .ifCond .ne 5, 3, 1, 0, 75, 0, 0, []),
  (73, .iconst 0, 1, 0, 0, 0, 0, 0, []),
  (74, .ireturn, 1, 3, 0, 0, 0, 0, []),
  (75, .aload_n 0, 1, 0, 1, 0, 0, 0, []),
  (76, .getfield 25, 3, 0, 6, 6, 10, 0, [681]),
  (79, .aload_n 0, 1, 0, 1, 0, 0, 0, [])]
def mc63_1 : List mB := [(80, .getfield 98, 3, 0, 6, 6, 9, 0, [680]),
  (83, .iload_n 1, 1, 0, 1, 0, 0, 0, []),
  (84, .iastore, 1, 0, 9, 0, 0, 0, []),
  (85, .aload_n 0, 1, 0, 1, 0, 0, 0, []),
  (86, .getfield 29, 3, 0, 6, 6, 11, 0, [682]),
  (89, .aload_n 0, 1, 0, 1, 0, 0, 0, []),
  (90, .getfield 98, 3, 0, 6, 6, 9, 0, [680]),
  (93, .iload_n 2, 1, 0, 1, 0, 0, 0, []),
  (94, .iastore, 1, 0, 9, 0, 0, 0, []),
  (95, .aload_n 0, 1, 0, 1, 0, 0, 0, []),
  (96, .getfield 32, 3, 0, 6, 6, 12, 0, [683]),
  (99, .aload_n 0, 1, 0, 1, 0, 0, 0, []),
  (100, .getfield 98, 3, 0, 6, 6, 9, 0, [680]),
  (103, .iload_n 3, 1, 0, 1, 0, 0, 0, []),
  (104, .iastore, 1, 0, 9, 0, 0, 0, []),
  (105, .aload_n 0, 1, 0, 1, 0, 0, 0, []),
  (106, .getfield 35, 3, 0, 6, 6, 13, 0, [684]),
  (109, .aload_n 0, 1, 0, 1, 0, 0, 0, []),
  (110, .getfield 98, 3, 0, 6, 6, 9, 0, [680]),
  (113, .iload 4, 2, 0, 1, 0, 0, 0, []),
  (115, .iastore, 1, 0, 9, 0, 0, 0, []),
  (116, .aload_n 0, 1, 0, 1, 0, 0, 0, []),
  (117, .getfield 38, 3, 0, 6, 6, 14, 0, [685]),
  (120, .aload_n 0, 1, 0, 1, 0, 0, 0, []),
  (121, .getfield 98, 3, 0, 6, 6, 9, 0, [680]),
  (124, .iload 5, 2, 0, 1, 0, 0, 0, []),
  (126, .iastore, 1, 0, 9, 0, 0, 0, []),
  (127, .aload_n 0, 1, 0, 1, 0, 0, 0, []),
  (128, .getfield 41, 3, 0, 6, 6, 15, 0, [686]),
  (131, .aload_n 0, 1, 0, 1, 0, 0, 0, []),
  (132, .getfield 98, 3, 0, 6, 6, 9, 0, [680]),
  (135, .iconst 0, 1, 0, 0, 0, 0, 0, []),
  (136, .bastore, 1, 0, 9, 0, 0, 0, []),
  (137, .aload_n 0, 1, 0, 1, 0, 0, 0, []),
  (138, .dup, 1, 0, 5, 0, 0, 0, []),
  (139, .getfield 98, 3, 0, 6, 6, 9, 0, [680]),
  (142, .iconst 1, 1, 0, 0, 0, 0, 0, []),
  (143, .iadd, 1, 0, 3, 0, 0, 0, []),
  (144, .putfield 98, 3, 0, 7, 6, 9, 0, [680]),
  (147, .aload_n 0, 1, 0, 1, 0, 0, 0, [])]
def mc63_2 : List mB := [(148, .getfield 98, 3, 0, 6, 6, 9, 0, [680]),
  (151, .iconst 1, 1, 0, 0, 0, 0, 0, []),
  (152, .isub, 1, 0, 3, 0, 0, 0, []),
  (153, .ireturn, 1, 3, 0, 0, 0, 0, [])]
def mc63 : List mB := mc63_0 ++ (mc63_1 ++ (mc63_2))
def mq63 : mM := (0, 0, mc63, ⟨"SlabPatternsModel", "want", "(IIIII)I"⟩, prog_8_method_7_code, 6, some .int, [], [], "SlabPatternsModel")
/-- SlabPatternsModel.turn(IZ)V -/
def mc64_0 : List mB := [(0, .aload_n 0, 1, 0, 1, 0, 0, 0, []),
  (1, .aload_n 0, 1, 0, 1, 0, 0, 0, []),
  (2, .iload_n 1, 1, 0, 1, 0, 0, 0, []),
  (3, .invokevirtual 101, 3, 2, 2, 65, 2, 6, [792, 789, 791, 54, 38]),
  (6, .iconst 1, 1, 0, 0, 0, 0, 0, []),
  (7, .iconst 1, 1, 0, 0, 0, 0, 0, []),
  (8, .invokevirtual 86, 3, 2, 2, 62, 4, 6, [779, 776, 778, 54, 37]),
  (11, .ifCond .eq 10, 3, 1, 0, 21, 0, 0, []),
  (14, .aload_n 0, 1, 0, 1, 0, 0, 0, []),
  (15, .getfield 41, 3, 0, 6, 6, 15, 0, [686]),
  (18, .iload_n 1, 1, 0, 1, 0, 0, 0, []),
  (19, .iload_n 2, 1, 0, 1, 0, 0, 0, []),
  (20, .bastore, 1, 0, 9, 0, 0, 0, []),
  (21, .return_, 1, 3, 0, 0, 0, 0, [])]
def mc64 : List mB := mc64_0
def mq64 : mM := (0, 0, mc64, ⟨"SlabPatternsModel", "turn", "(IZ)V"⟩, prog_8_method_9_code, 3, none, [], [], "SlabPatternsModel")
/-- SlabPatternsModel.isPiece(I)Z -/
def mc65_0 : List mB := [(0, .iload_n 1, 1, 0, 1, 0, 0, 0, []),
  (1, .iconst 0, 1, 0, 0, 0, 0, 0, []),
  (2, .aload_n 0, 1, 0, 1, 0, 0, 0, []),
  (3, .getfield 98, 3, 0, 6, 6, 9, 0, [680]),
  (6, .iconst 1, 1, 0, 0, 0, 0, 0, []),
  (7, .isub, 1, 0, 3, 0, 0, 0, []),
  (8, .invokestatic 78, 3, 2, 4, 61, 3, 0, [775, 773, 774, 54]),
  (11, .ireturn, 1, 3, 0, 0, 0, 0, [])]
def mc65 : List mB := mc65_0
def mq65 : mM := (0, 0, mc65, ⟨"SlabPatternsModel", "isPiece", "(I)Z"⟩, prog_8_method_8_code, 2, some .boolean, [], [], "SlabPatternsModel")
/-- SlabPatternsModel.rules(IIIII)V -/
def mc66_0 : List mB := [(0, .aload_n 0, 1, 0, 1, 0, 0, 0, []),
  (1, .iload_n 1, 1, 0, 1, 0, 0, 0, []),
  (2, .iconst 1, 1, 0, 0, 0, 0, 0, []),
  (3, .iconst 2, 1, 0, 0, 0, 0, 0, []),
  (4, .invokestatic 78, 3, 2, 4, 61, 3, 0, [775, 773, 774, 54]),
  (7, .ifCond .eq 52, 3, 1, 0, 59, 0, 0, []),
  (10, .iload_n 2, 1, 0, 1, 0, 0, 0, []),
  (11, .iconst 0, 1, 0, 0, 0, 0, 0, []),
  (12, .bipush 20, 2, 0, 0, 0, 0, 0, []),
  (14, .invokestatic 78, 3, 2, 4, 61, 3, 0, [775, 773, 774, 54]),
  (17, .ifCond .eq 42, 3, 1, 0, 59, 0, 0, []),
  (20, .iload_n 3, 1, 0, 1, 0, 0, 0, []),
  (21, .iconst 0, 1, 0, 0, 0, 0, 0, []),
  (22, .sipush 200, 3, 0, 0, 0, 0, 0, []),
  (25, .invokestatic 78, 3, 2, 4, 61, 3, 0, [775, 773, 774, 54]),
  (28, .ifCond .eq 31, 3, 1, 0, 59, 0, 0, []),
  (31, .iload 4, 2, 0, 1, 0, 0, 0, []),
  (33, .iconst 0, 1, 0, 0, 0, 0, 0, []),
  (34, .sipush 200, 3, 0, 0, 0, 0, 0, []),
  (37, .invokestatic 78, 3, 2, 4, 61, 3, 0, [775, 773, 774, 54]),
  (40, .ifCond .eq 19, 3, 1, 0, 59, 0, 0, []),
  (43, .iload 5, 2, 0, 1, 0, 0, 0, []),
  (45, .iconst 0, 1, 0, 0, 0, 0, 0, []),
  (46, .sipush 200, 3, 0, 0, 0, 0, 0, []),
  (49, .invokestatic 78, 3, 2, 4, 61, 3, 0, [775, 773, 774, 54]),
  (52, .ifCond .eq 7, 3, 1, 0, 59, 0, 0, []),
  (55, .iconst 1, 1, 0, 0, 0, 0, 0, []),
  (56, .goto 4, 3, 0, 16, 60, 0, 0, []),
  (59, .iconst 0, 1, 0, 0, 0, 0, 0, []),
  (60, .iconst 1, 1, 0, 0, 0, 0, 0, []),
  (61, .iconst 1, 1, 0, 0, 0, 0, 0, []),
  (62, .invokevirtual 86, 3, 2, 2, 62, 4, 6, [779, 776, 778, 54, 37]),
  (65, .ifCond .ne 4, 3, 1, 0, 69, 0, 0, []),
  (68, .return_, 1, 3, 0, 0, 0, 0, []),
  (69, .aload_n 0, 1, 0, 1, 0, 0, 0, []),
  (70, .iload_n 1, 1, 0, 1, 0, 0, 0, []),
  (71, .putfield 16, 3, 0, 7, 6, 6, 0, [677]),
  (74, .aload_n 0, 1, 0, 1, 0, 0, 0, []),
  (75, .iload_n 2, 1, 0, 1, 0, 0, 0, []),
  (76, .putfield 19, 3, 0, 7, 6, 7, 0, [678])]
def mc66_1 : List mB := [(79, .aload_n 0, 1, 0, 1, 0, 0, 0, []),
  (80, .iload_n 3, 1, 0, 1, 0, 0, 0, []),
  (81, .putfield 104, 3, 0, 7, 6, 4, 0, [675]),
  (84, .aload_n 0, 1, 0, 1, 0, 0, 0, []),
  (85, .iload 4, 2, 0, 1, 0, 0, 0, []),
  (87, .putfield 107, 3, 0, 7, 6, 5, 0, [676]),
  (90, .aload_n 0, 1, 0, 1, 0, 0, 0, []),
  (91, .iload 5, 2, 0, 1, 0, 0, 0, []),
  (93, .putfield 22, 3, 0, 7, 6, 8, 0, [679]),
  (96, .return_, 1, 3, 0, 0, 0, 0, [])]
def mc66 : List mB := mc66_0 ++ (mc66_1)
def mq66 : mM := (0, 0, mc66, ⟨"SlabPatternsModel", "rules", "(IIIII)V"⟩, prog_8_method_10_code, 6, none, [], [], "SlabPatternsModel")
/-- SlabPatternsModel.bar(II)I -/
def mc67_0 : List mB := [(0, .aload_n 0, 1, 0, 1, 0, 0, 0, []),
  (1, .iload_n 1, 1, 0, 1, 0, 0, 0, []),
  (2, .iconst 0, 1, 0, 0, 0, 0, 0, []),
  (3, .sipush 200, 3, 0, 0, 0, 0, 0, []),
  (6, .invokestatic 78, 3, 2, 4, 61, 3, 0, [775, 773, 774, 54]),
  (9, .ifCond .eq 20, 3, 1, 0, 29, 0, 0, []),
  (12, .iload_n 2, 1, 0, 1, 0, 0, 0, []),
  (13, .iload_n 1, 1, 0, 1, 0, 0, 0, []),
  (14, .iconst 1, 1, 0, 0, 0, 0, 0, []),
  (15, .iadd, 1, 0, 3, 0, 0, 0, []),
  (16, .sipush 200, 3, 0, 0, 0, 0, 0, []),
  (19, .invokestatic 78, 3, 2, 4, 61, 3, 0, [775, 773, 774, 54]),
  (22, .ifCond .eq 7, 3, 1, 0, 29, 0, 0, []),
  (25, .iconst 1, 1, 0, 0, 0, 0, 0, []),
  (26, .goto 4, 3, 0, 16, 30, 0, 0, []),
  (29, .iconst 0, 1, 0, 0, 0, 0, 0, []),
  (30, .aload_n 0, 1, 0, 1, 0, 0, 0, []),
  (31, .getfield 110, 3, 0, 6, 6, 16, 0, [687]),
  (34, .iconst 4, 1, 0, 0, 0, 0, 0, []),
  (35, .if_icmp .ge 7, 3, 1, 0, 42, 0, 0, []),
  (38, .iconst 1, 1, 0, 0, 0, 0, 0, []),
  (39, .goto 4, 3, 0, 16, 43, 0, 0, []),
  (42, .iconst 0, 1, 0, 0, 0, 0, 0, []),
  (43, .iconst 1, 1, 0, 0, 0, 0, 0, []),
  (44, .invokevirtual 86, 3, 2, 2, 62, 4, 6, [779, 776, 778, 54, 37]),
  (47, .ifCond .ne 5, 3, 1, 0, 52, 0, 0, []),
  (50, .iconst 0, 1, 0, 0, 0, 0, 0, []),
  (51, .ireturn, 1, 3, 0, 0, 0, 0, []),
  (52, .aload_n 0, 1, 0, 1, 0, 0, 0, []),
  (53, .getfield 45, 3, 0, 6, 6, 17, 0, [688]),
  (56, .aload_n 0, 1, 0, 1, 0, 0, 0, []),
  (57, .getfield 110, 3, 0, 6, 6, 16, 0, [687]),
  (60, .iload_n 1, 1, 0, 1, 0, 0, 0, []),
  (61, .iastore, 1, 0, 9, 0, 0, 0, []),
  (62, .aload_n 0, 1, 0, 1, 0, 0, 0, []),
  (63, .getfield 48, 3, 0, 6, 6, 18, 0, [689]),
  (66, .aload_n 0, 1, 0, 1, 0, 0, 0, []),
  (67, .getfield 110, 3, 0, 6, 6, 16, 0, [687]),
  (70, .iload_n 2, 1, 0, 1, 0, 0, 0, []),
  (71, .iastore, 1, 0, 9, 0, 0, 0, [])]
def mc67_1 : List mB := [(72, .aload_n 0, 1, 0, 1, 0, 0, 0, []),
  (73, .dup, 1, 0, 5, 0, 0, 0, []),
  (74, .getfield 110, 3, 0, 6, 6, 16, 0, [687]),
  (77, .iconst 1, 1, 0, 0, 0, 0, 0, []),
  (78, .iadd, 1, 0, 3, 0, 0, 0, []),
  (79, .putfield 110, 3, 0, 7, 6, 16, 0, [687]),
  (82, .aload_n 0, 1, 0, 1, 0, 0, 0, []),
  (83, .getfield 110, 3, 0, 6, 6, 16, 0, [687]),
  (86, .ireturn, 1, 3, 0, 0, 0, 0, [])]
def mc67 : List mB := mc67_0 ++ (mc67_1)
def mq67 : mM := (0, 0, mc67, ⟨"SlabPatternsModel", "bar", "(II)I"⟩, prog_8_method_11_code, 3, some .int, [], [], "SlabPatternsModel")
/-- SlabPatternsModel.run(I)I -/
def mc68_0 : List mB := [(0, .aload_n 0, 1, 0, 1, 0, 0, 0, []),
  (1, .iload_n 1, 1, 0, 1, 0, 0, 0, []),
  (2, .iconst 0, 1, 0, 0, 0, 0, 0, []),
  (3, .ldc 97, 2, 0, 0, 100000, 0, 0, [784]),
  (5, .invokestatic 78, 3, 2, 4, 61, 3, 0, [775, 773, 774, 54]),
  (8, .iconst 1, 1, 0, 0, 0, 0, 0, []),
  (9, .iconst 1, 1, 0, 0, 0, 0, 0, []),
  (10, .invokevirtual 86, 3, 2, 2, 62, 4, 6, [779, 776, 778, 54, 37]),
  (13, .ifCond .ne 5, 3, 1, 0, 18, 0, 0, []),
  (16, .iconst 0, 1, 0, 0, 0, 0, 0, []),
  (17, .ireturn, 1, 3, 0, 0, 0, 0, []),
  (18, .iconst 0, 1, 0, 0, 0, 0, 0, []),
  (19, .istore_n 2, 1, 0, 2, 0, 0, 0, []),
  (20, .iload_n 2, 1, 0, 1, 0, 0, 0, []),
  (21, .aload_n 0, 1, 0, 1, 0, 0, 0, []),
  (22, .getfield 98, 3, 0, 6, 6, 9, 0, [680]),
  (25, .if_icmp .ge 21, 3, 1, 0, 46, 0, 0, []),
  (28, .aload_n 0, 1, 0, 1, 0, 0, 0, []),
  (29, .getfield 60, 3, 0, 6, 6, 22, 0, [693]),
  (32, .iload_n 2, 1, 0, 1, 0, 0, 0, []),
  (33, .aload_n 0, 1, 0, 1, 0, 0, 0, []),
  (34, .getfield 38, 3, 0, 6, 6, 14, 0, [685]),
  (37, .iload_n 2, 1, 0, 1, 0, 0, 0, []),
  (38, .iaload, 1, 0, 8, 0, 0, 0, []),
  (39, .iastore, 1, 0, 9, 0, 0, 0, []),
  (40, .iinc 2 1, 3, 0, 2, 0, 0, 0, []),
  (43, .goto (-23), 3, 0, 16, 20, 0, 0, []),
  (46, .aload_n 0, 1, 0, 1, 0, 0, 0, []),
  (47, .iconst 1, 1, 0, 0, 0, 0, 0, []),
  (48, .putfield 93, 3, 0, 7, 6, 23, 0, [694]),
  (51, .aload_n 0, 1, 0, 1, 0, 0, 0, []),
  (52, .iconst 1, 1, 0, 0, 0, 0, 0, []),
  (53, .putfield 130, 3, 0, 7, 6, 24, 0, [695]),
  (56, .aload_n 0, 1, 0, 1, 0, 0, 0, []),
  (57, .iconst 0, 1, 0, 0, 0, 0, 0, []),
  (58, .putfield 127, 3, 0, 7, 6, 25, 0, [696]),
  (61, .iconst 0, 1, 0, 0, 0, 0, 0, []),
  (62, .istore_n 2, 1, 0, 2, 0, 0, 0, []),
  (63, .iconst 0, 1, 0, 0, 0, 0, 0, []),
  (64, .istore_n 3, 1, 0, 2, 0, 0, 0, [])]
def mc68_1 : List mB := [(65, .iconst 0, 1, 0, 0, 0, 0, 0, []),
  (66, .istore 4, 2, 0, 2, 0, 0, 0, []),
  (68, .iload_n 1, 1, 0, 1, 0, 0, 0, []),
  (69, .istore 5, 2, 0, 2, 0, 0, 0, []),
  (71, .aload_n 0, 1, 0, 1, 0, 0, 0, []),
  (72, .getfield 51, 3, 0, 6, 6, 19, 0, [690]),
  (75, .iconst 0, 1, 0, 0, 0, 0, 0, []),
  (76, .iconst 0, 1, 0, 0, 0, 0, 0, []),
  (77, .iastore, 1, 0, 9, 0, 0, 0, []),
  (78, .aload_n 0, 1, 0, 1, 0, 0, 0, []),
  (79, .getfield 54, 3, 0, 6, 6, 20, 0, [691]),
  (82, .iconst 0, 1, 0, 0, 0, 0, 0, []),
  (83, .aload_n 0, 1, 0, 1, 0, 0, 0, []),
  (84, .getfield 104, 3, 0, 6, 6, 4, 0, [675]),
  (87, .iastore, 1, 0, 9, 0, 0, 0, []),
  (88, .iload 4, 2, 0, 1, 0, 0, 0, []),
  (90, .ifCond .lt 280, 3, 1, 0, 370, 0, 0, []),
  (93, .aload_n 0, 1, 0, 1, 0, 0, 0, []),
  (94, .getfield 51, 3, 0, 6, 6, 19, 0, [690]),
  (97, .iload 4, 2, 0, 1, 0, 0, 0, []),
  (99, .iaload, 1, 0, 8, 0, 0, 0, []),
  (100, .istore 6, 2, 0, 2, 0, 0, 0, []),
  (102, .iload 6, 2, 0, 1, 0, 0, 0, []),
  (104, .iconst 2, 1, 0, 0, 0, 0, 0, []),
  (105, .aload_n 0, 1, 0, 1, 0, 0, 0, []),
  (106, .getfield 98, 3, 0, 6, 6, 9, 0, [680]),
  (109, .imul, 1, 0, 3, 0, 0, 0, []),
  (110, .if_icmp .ne 79, 3, 1, 0, 189, 0, 0, []),
  (113, .iinc 4 (-1), 3, 0, 2, 0, 0, 0, []),
  (116, .iload 4, 2, 0, 1, 0, 0, 0, []),
  (118, .ifCond .ge 6, 3, 1, 0, 124, 0, 0, []),
  (121, .goto 249, 3, 0, 16, 370, 0, 0, []),
  (124, .aload_n 0, 1, 0, 1, 0, 0, 0, []),
  (125, .getfield 51, 3, 0, 6, 6, 19, 0, [690]),
  (128, .iload 4, 2, 0, 1, 0, 0, 0, []),
  (130, .iaload, 1, 0, 8, 0, 0, 0, []),
  (131, .iconst 2, 1, 0, 0, 0, 0, 0, []),
  (132, .idiv, 1, 0, 3, 0, 0, 0, []),
  (133, .istore 7, 2, 0, 2, 0, 0, 0, []),
  (135, .aload_n 0, 1, 0, 1, 0, 0, 0, [])]
def mc68_2 : List mB := [(136, .getfield 60, 3, 0, 6, 6, 22, 0, [693]),
  (139, .iload 7, 2, 0, 1, 0, 0, 0, []),
  (141, .aload_n 0, 1, 0, 1, 0, 0, 0, []),
  (142, .getfield 60, 3, 0, 6, 6, 22, 0, [693]),
  (145, .iload 7, 2, 0, 1, 0, 0, 0, []),
  (147, .iaload, 1, 0, 8, 0, 0, 0, []),
  (148, .aload_n 0, 1, 0, 1, 0, 0, 0, []),
  (149, .getfield 57, 3, 0, 6, 6, 21, 0, [692]),
  (152, .iload 4, 2, 0, 1, 0, 0, 0, []),
  (154, .iaload, 1, 0, 8, 0, 0, 0, []),
  (155, .iadd, 1, 0, 3, 0, 0, 0, []),
  (156, .iastore, 1, 0, 9, 0, 0, 0, []),
  (157, .iload_n 3, 1, 0, 1, 0, 0, 0, []),
  (158, .aload_n 0, 1, 0, 1, 0, 0, 0, []),
  (159, .getfield 57, 3, 0, 6, 6, 21, 0, [692]),
  (162, .iload 4, 2, 0, 1, 0, 0, 0, []),
  (164, .iaload, 1, 0, 8, 0, 0, 0, []),
  (165, .aload_n 0, 1, 0, 1, 0, 0, 0, []),
  (166, .getfield 35, 3, 0, 6, 6, 13, 0, [684]),
  (169, .iload 7, 2, 0, 1, 0, 0, 0, []),
  (171, .iaload, 1, 0, 8, 0, 0, 0, []),
  (172, .imul, 1, 0, 3, 0, 0, 0, []),
  (173, .isub, 1, 0, 3, 0, 0, 0, []),
  (174, .istore_n 3, 1, 0, 2, 0, 0, 0, []),
  (175, .aload_n 0, 1, 0, 1, 0, 0, 0, []),
  (176, .getfield 51, 3, 0, 6, 6, 19, 0, [690]),
  (179, .iload 4, 2, 0, 1, 0, 0, 0, []),
  (181, .dup2, 1, 0, 5, 0, 0, 0, []),
  (182, .iaload, 1, 0, 8, 0, 0, 0, []),
  (183, .iconst 1, 1, 0, 0, 0, 0, 0, []),
  (184, .iadd, 1, 0, 3, 0, 0, 0, []),
  (185, .iastore, 1, 0, 9, 0, 0, 0, []),
  (186, .goto (-98), 3, 0, 16, 88, 0, 0, []),
  (189, .aload_n 0, 1, 0, 1, 0, 0, 0, []),
  (190, .iload 6, 2, 0, 1, 0, 0, 0, []),
  (192, .aload_n 0, 1, 0, 1, 0, 0, 0, []),
  (193, .getfield 54, 3, 0, 6, 6, 20, 0, [691]),
  (196, .iload 4, 2, 0, 1, 0, 0, 0, []),
  (198, .iaload, 1, 0, 8, 0, 0, 0, []),
  (199, .invokevirtual 133, 3, 2, 2, 69, 3, 6, [808, 805, 807, 54, 39])]
def mc68_3 : List mB := [(202, .ifCond .ne 17, 3, 1, 0, 219, 0, 0, []),
  (205, .aload_n 0, 1, 0, 1, 0, 0, 0, []),
  (206, .getfield 51, 3, 0, 6, 6, 19, 0, [690]),
  (209, .iload 4, 2, 0, 1, 0, 0, 0, []),
  (211, .dup2, 1, 0, 5, 0, 0, 0, []),
  (212, .iaload, 1, 0, 8, 0, 0, 0, []),
  (213, .iconst 1, 1, 0, 0, 0, 0, 0, []),
  (214, .iadd, 1, 0, 3, 0, 0, 0, []),
  (215, .iastore, 1, 0, 9, 0, 0, 0, []),
  (216, .goto (-128), 3, 0, 16, 88, 0, 0, []),
  (219, .iload 5, 2, 0, 1, 0, 0, 0, []),
  (221, .ifCond .ne 11, 3, 1, 0, 232, 0, 0, []),
  (224, .aload_n 0, 1, 0, 1, 0, 0, 0, []),
  (225, .iconst 0, 1, 0, 0, 0, 0, 0, []),
  (226, .putfield 130, 3, 0, 7, 6, 24, 0, [695]),
  (229, .goto 141, 3, 0, 16, 370, 0, 0, []),
  (232, .iinc 5 (-1), 3, 0, 2, 0, 0, 0, []),
  (235, .iload 6, 2, 0, 1, 0, 0, 0, []),
  (237, .iconst 2, 1, 0, 0, 0, 0, 0, []),
  (238, .idiv, 1, 0, 3, 0, 0, 0, []),
  (239, .istore 7, 2, 0, 2, 0, 0, 0, []),
  (241, .aload_n 0, 1, 0, 1, 0, 0, 0, []),
  (242, .getfield 57, 3, 0, 6, 6, 21, 0, [692]),
  (245, .iload 4, 2, 0, 1, 0, 0, 0, []),
  (247, .aload_n 0, 1, 0, 1, 0, 0, 0, []),
  (248, .iload 6, 2, 0, 1, 0, 0, 0, []),
  (250, .aload_n 0, 1, 0, 1, 0, 0, 0, []),
  (251, .getfield 60, 3, 0, 6, 6, 22, 0, [693]),
  (254, .iload 7, 2, 0, 1, 0, 0, 0, []),
  (256, .iaload, 1, 0, 8, 0, 0, 0, []),
  (257, .invokevirtual 123, 3, 2, 2, 72, 3, 6, [820, 817, 819, 54, 42]),
  (260, .iastore, 1, 0, 9, 0, 0, 0, []),
  (261, .aload_n 0, 1, 0, 1, 0, 0, 0, []),
  (262, .getfield 60, 3, 0, 6, 6, 22, 0, [693]),
  (265, .iload 7, 2, 0, 1, 0, 0, 0, []),
  (267, .aload_n 0, 1, 0, 1, 0, 0, 0, []),
  (268, .getfield 60, 3, 0, 6, 6, 22, 0, [693]),
  (271, .iload 7, 2, 0, 1, 0, 0, 0, []),
  (273, .iaload, 1, 0, 8, 0, 0, 0, []),
  (274, .aload_n 0, 1, 0, 1, 0, 0, 0, [])]
def mc68_4 : List mB := [(275, .getfield 57, 3, 0, 6, 6, 21, 0, [692]),
  (278, .iload 4, 2, 0, 1, 0, 0, 0, []),
  (280, .iaload, 1, 0, 8, 0, 0, 0, []),
  (281, .isub, 1, 0, 3, 0, 0, 0, []),
  (282, .iastore, 1, 0, 9, 0, 0, 0, []),
  (283, .iload_n 3, 1, 0, 1, 0, 0, 0, []),
  (284, .aload_n 0, 1, 0, 1, 0, 0, 0, []),
  (285, .getfield 57, 3, 0, 6, 6, 21, 0, [692]),
  (288, .iload 4, 2, 0, 1, 0, 0, 0, []),
  (290, .iaload, 1, 0, 8, 0, 0, 0, []),
  (291, .aload_n 0, 1, 0, 1, 0, 0, 0, []),
  (292, .getfield 35, 3, 0, 6, 6, 13, 0, [684]),
  (295, .iload 7, 2, 0, 1, 0, 0, 0, []),
  (297, .iaload, 1, 0, 8, 0, 0, 0, []),
  (298, .imul, 1, 0, 3, 0, 0, 0, []),
  (299, .iadd, 1, 0, 3, 0, 0, 0, []),
  (300, .istore_n 3, 1, 0, 2, 0, 0, 0, []),
  (301, .iinc 4 1, 3, 0, 2, 0, 0, 0, []),
  (304, .aload_n 0, 1, 0, 1, 0, 0, 0, []),
  (305, .getfield 54, 3, 0, 6, 6, 20, 0, [691]),
  (308, .iload 4, 2, 0, 1, 0, 0, 0, []),
  (310, .aload_n 0, 1, 0, 1, 0, 0, 0, []),
  (311, .getfield 54, 3, 0, 6, 6, 20, 0, [691]),
  (314, .iload 4, 2, 0, 1, 0, 0, 0, []),
  (316, .iconst 1, 1, 0, 0, 0, 0, 0, []),
  (317, .isub, 1, 0, 3, 0, 0, 0, []),
  (318, .iaload, 1, 0, 8, 0, 0, 0, []),
  (319, .aload_n 0, 1, 0, 1, 0, 0, 0, []),
  (320, .iload 6, 2, 0, 1, 0, 0, 0, []),
  (322, .invokevirtual 117, 3, 2, 2, 70, 2, 6, [812, 809, 811, 54, 40]),
  (325, .iadd, 1, 0, 3, 0, 0, 0, []),
  (326, .aload_n 0, 1, 0, 1, 0, 0, 0, []),
  (327, .getfield 90, 3, 0, 6, 6, 3, 0, [674]),
  (330, .iadd, 1, 0, 3, 0, 0, 0, []),
  (331, .iastore, 1, 0, 9, 0, 0, 0, []),
  (332, .aload_n 0, 1, 0, 1, 0, 0, 0, []),
  (333, .getfield 51, 3, 0, 6, 6, 19, 0, [690]),
  (336, .iload 4, 2, 0, 1, 0, 0, 0, []),
  (338, .iconst 0, 1, 0, 0, 0, 0, 0, []),
  (339, .iastore, 1, 0, 9, 0, 0, 0, [])]
def mc68_5 : List mB := [(340, .iload_n 3, 1, 0, 1, 0, 0, 0, []),
  (341, .iload_n 2, 1, 0, 1, 0, 0, 0, []),
  (342, .if_icmp .gt 17, 3, 1, 0, 359, 0, 0, []),
  (345, .iload_n 3, 1, 0, 1, 0, 0, 0, []),
  (346, .iload_n 2, 1, 0, 1, 0, 0, 0, []),
  (347, .if_icmp .ne 20, 3, 1, 0, 367, 0, 0, []),
  (350, .iload 4, 2, 0, 1, 0, 0, 0, []),
  (352, .aload_n 0, 1, 0, 1, 0, 0, 0, []),
  (353, .getfield 127, 3, 0, 6, 6, 25, 0, [696]),
  (356, .if_icmp .ge 11, 3, 1, 0, 367, 0, 0, []),
  (359, .iload_n 3, 1, 0, 1, 0, 0, 0, []),
  (360, .istore_n 2, 1, 0, 2, 0, 0, 0, []),
  (361, .aload_n 0, 1, 0, 1, 0, 0, 0, []),
  (362, .iload 4, 2, 0, 1, 0, 0, 0, []),
  (364, .invokevirtual 137, 3, 2, 2, 74, 2, 6, [828, 825, 827, 54, 44]),
  (367, .goto (-279), 3, 0, 16, 88, 0, 0, []),
  (370, .aload_n 0, 1, 0, 1, 0, 0, 0, []),
  (371, .invokevirtual 141, 3, 2, 2, 75, 1, 6, [832, 829, 831, 54, 45]),
  (374, .iload_n 2, 1, 0, 1, 0, 0, 0, []),
  (375, .ireturn, 1, 3, 0, 0, 0, 0, [])]
def mc68 : List mB := mc68_0 ++ (mc68_1 ++ (mc68_2 ++ (mc68_3 ++ (mc68_4 ++ (mc68_5)))))
def mq68 : mM := (0, 0, mc68, ⟨"SlabPatternsModel", "run", "(I)I"⟩, prog_8_method_18_code, 8, some .int, [], [], "SlabPatternsModel")
/-- SlabPatternsModel.fits(II)Z -/
def mc69_0 : List mB := [(0, .iload_n 1, 1, 0, 1, 0, 0, 0, []),
  (1, .iconst 2, 1, 0, 0, 0, 0, 0, []),
  (2, .irem, 1, 0, 3, 0, 0, 0, []),
  (3, .iconst 1, 1, 0, 0, 0, 0, 0, []),
  (4, .if_icmp .ne 16, 3, 1, 0, 20, 0, 0, []),
  (7, .aload_n 0, 1, 0, 1, 0, 0, 0, []),
  (8, .getfield 41, 3, 0, 6, 6, 15, 0, [686]),
  (11, .iload_n 1, 1, 0, 1, 0, 0, 0, []),
  (12, .iconst 2, 1, 0, 0, 0, 0, 0, []),
  (13, .idiv, 1, 0, 3, 0, 0, 0, []),
  (14, .baload, 1, 0, 8, 0, 0, 0, []),
  (15, .ifCond .ne 5, 3, 1, 0, 20, 0, 0, []),
  (18, .iconst 0, 1, 0, 0, 0, 0, 0, []),
  (19, .ireturn, 1, 3, 0, 0, 0, 0, []),
  (20, .iload_n 2, 1, 0, 1, 0, 0, 0, []),
  (21, .aload_n 0, 1, 0, 1, 0, 0, 0, []),
  (22, .iload_n 1, 1, 0, 1, 0, 0, 0, []),
  (23, .invokevirtual 117, 3, 2, 2, 70, 2, 6, [812, 809, 811, 54, 40]),
  (26, .iadd, 1, 0, 3, 0, 0, 0, []),
  (27, .istore_n 3, 1, 0, 2, 0, 0, 0, []),
  (28, .iload_n 3, 1, 0, 1, 0, 0, 0, []),
  (29, .aload_n 0, 1, 0, 1, 0, 0, 0, []),
  (30, .getfield 7, 3, 0, 6, 6, 1, 0, [672]),
  (33, .aload_n 0, 1, 0, 1, 0, 0, 0, []),
  (34, .getfield 107, 3, 0, 6, 6, 5, 0, [676]),
  (37, .isub, 1, 0, 3, 0, 0, 0, []),
  (38, .if_icmp .gt 39, 3, 1, 0, 77, 0, 0, []),
  (41, .aload_n 0, 1, 0, 1, 0, 0, 0, []),
  (42, .iload_n 2, 1, 0, 1, 0, 0, 0, []),
  (43, .invokevirtual 120, 3, 2, 2, 71, 2, 6, [816, 813, 815, 54, 41]),
  (46, .ifCond .ne 31, 3, 1, 0, 77, 0, 0, []),
  (49, .aload_n 0, 1, 0, 1, 0, 0, 0, []),
  (50, .iload_n 3, 1, 0, 1, 0, 0, 0, []),
  (51, .invokevirtual 120, 3, 2, 2, 71, 2, 6, [816, 813, 815, 54, 41]),
  (54, .ifCond .ne 23, 3, 1, 0, 77, 0, 0, []),
  (57, .aload_n 0, 1, 0, 1, 0, 0, 0, []),
  (58, .iload_n 1, 1, 0, 1, 0, 0, 0, []),
  (59, .aload_n 0, 1, 0, 1, 0, 0, 0, []),
  (60, .getfield 60, 3, 0, 6, 6, 22, 0, [693]),
  (63, .iload_n 1, 1, 0, 1, 0, 0, 0, [])]
def mc69_1 : List mB := [(64, .iconst 2, 1, 0, 0, 0, 0, 0, []),
  (65, .idiv, 1, 0, 3, 0, 0, 0, []),
  (66, .iaload, 1, 0, 8, 0, 0, 0, []),
  (67, .invokevirtual 123, 3, 2, 2, 72, 3, 6, [820, 817, 819, 54, 42]),
  (70, .ifCond .le 7, 3, 1, 0, 77, 0, 0, []),
  (73, .iconst 1, 1, 0, 0, 0, 0, 0, []),
  (74, .goto 4, 3, 0, 16, 78, 0, 0, []),
  (77, .iconst 0, 1, 0, 0, 0, 0, 0, []),
  (78, .ireturn, 1, 3, 0, 0, 0, 0, [])]
def mc69 : List mB := mc69_0 ++ (mc69_1)
def mq69 : mM := (0, 0, mc69, ⟨"SlabPatternsModel", "fits", "(II)Z"⟩, prog_8_method_16_code, 4, some .boolean, [], [], "SlabPatternsModel")
/-- SlabPatternsModel.lengthOf(I)I -/
def mc70_0 : List mB := [(0, .iload_n 1, 1, 0, 1, 0, 0, 0, []),
  (1, .iconst 2, 1, 0, 0, 0, 0, 0, []),
  (2, .irem, 1, 0, 3, 0, 0, 0, []),
  (3, .ifCond .ne 14, 3, 1, 0, 17, 0, 0, []),
  (6, .aload_n 0, 1, 0, 1, 0, 0, 0, []),
  (7, .getfield 25, 3, 0, 6, 6, 10, 0, [681]),
  (10, .iload_n 1, 1, 0, 1, 0, 0, 0, []),
  (11, .iconst 2, 1, 0, 0, 0, 0, 0, []),
  (12, .idiv, 1, 0, 3, 0, 0, 0, []),
  (13, .iaload, 1, 0, 8, 0, 0, 0, []),
  (14, .goto 11, 3, 0, 16, 25, 0, 0, []),
  (17, .aload_n 0, 1, 0, 1, 0, 0, 0, []),
  (18, .getfield 32, 3, 0, 6, 6, 12, 0, [683]),
  (21, .iload_n 1, 1, 0, 1, 0, 0, 0, []),
  (22, .iconst 2, 1, 0, 0, 0, 0, 0, []),
  (23, .idiv, 1, 0, 3, 0, 0, 0, []),
  (24, .iaload, 1, 0, 8, 0, 0, 0, []),
  (25, .ireturn, 1, 3, 0, 0, 0, 0, [])]
def mc70 : List mB := mc70_0
def mq70 : mM := (0, 0, mc70, ⟨"SlabPatternsModel", "lengthOf", "(I)I"⟩, prog_8_method_13_code, 2, some .int, [], [], "SlabPatternsModel")
/-- SlabPatternsModel.isBarred(I)Z -/
def mc71_0 : List mB := [(0, .iconst 0, 1, 0, 0, 0, 0, 0, []),
  (1, .istore_n 2, 1, 0, 2, 0, 0, 0, []),
  (2, .iload_n 2, 1, 0, 1, 0, 0, 0, []),
  (3, .aload_n 0, 1, 0, 1, 0, 0, 0, []),
  (4, .getfield 110, 3, 0, 6, 6, 16, 0, [687]),
  (7, .if_icmp .ge 31, 3, 1, 0, 38, 0, 0, []),
  (10, .iload_n 1, 1, 0, 1, 0, 0, 0, []),
  (11, .aload_n 0, 1, 0, 1, 0, 0, 0, []),
  (12, .getfield 45, 3, 0, 6, 6, 17, 0, [688]),
  (15, .iload_n 2, 1, 0, 1, 0, 0, 0, []),
  (16, .iaload, 1, 0, 8, 0, 0, 0, []),
  (17, .if_icmp .le 15, 3, 1, 0, 32, 0, 0, []),
  (20, .iload_n 1, 1, 0, 1, 0, 0, 0, []),
  (21, .aload_n 0, 1, 0, 1, 0, 0, 0, []),
  (22, .getfield 48, 3, 0, 6, 6, 18, 0, [689]),
  (25, .iload_n 2, 1, 0, 1, 0, 0, 0, []),
  (26, .iaload, 1, 0, 8, 0, 0, 0, []),
  (27, .if_icmp .ge 5, 3, 1, 0, 32, 0, 0, []),
  (30, .iconst 1, 1, 0, 0, 0, 0, 0, []),
  (31, .ireturn, 1, 3, 0, 0, 0, 0, []),
  (32, .iinc 2 1, 3, 0, 2, 0, 0, 0, []),
  (35, .goto (-33), 3, 0, 16, 2, 0, 0, []),
  (38, .iconst 0, 1, 0, 0, 0, 0, 0, []),
  (39, .ireturn, 1, 3, 0, 0, 0, 0, [])]
def mc71 : List mB := mc71_0
def mq71 : mM := (0, 0, mc71, ⟨"SlabPatternsModel", "isBarred", "(I)Z"⟩, prog_8_method_12_code, 3, some .boolean, [], [], "SlabPatternsModel")
/-- SlabPatternsModel.hold(II)I -/
def mc72_0 : List mB := [(0, .aload_n 0, 1, 0, 1, 0, 0, 0, []),
  (1, .getfield 16, 3, 0, 6, 6, 6, 0, [677]),
  (4, .iconst 1, 1, 0, 0, 0, 0, 0, []),
  (5, .if_icmp .ne 7, 3, 1, 0, 12, 0, 0, []),
  (8, .iconst 1, 1, 0, 0, 0, 0, 0, []),
  (9, .goto 9, 3, 0, 16, 18, 0, 0, []),
  (12, .aload_n 0, 1, 0, 1, 0, 0, 0, []),
  (13, .getfield 19, 3, 0, 6, 6, 7, 0, [678]),
  (16, .iconst 1, 1, 0, 0, 0, 0, 0, []),
  (17, .iadd, 1, 0, 3, 0, 0, 0, []),
  (18, .istore_n 3, 1, 0, 2, 0, 0, 0, []),
  (19, .iconst 0, 1, 0, 0, 0, 0, 0, []),
  (20, .istore 4, 2, 0, 2, 0, 0, 0, []),
  (22, .iload 4, 2, 0, 1, 0, 0, 0, []),
  (24, .iload_n 2, 1, 0, 1, 0, 0, 0, []),
  (25, .if_icmp .ge 40, 3, 1, 0, 65, 0, 0, []),
  (28, .iload 4, 2, 0, 1, 0, 0, 0, []),
  (30, .iload_n 3, 1, 0, 1, 0, 0, 0, []),
  (31, .if_icmp .ge 34, 3, 1, 0, 65, 0, 0, []),
  (34, .iload 4, 2, 0, 1, 0, 0, 0, []),
  (36, .iconst 1, 1, 0, 0, 0, 0, 0, []),
  (37, .iadd, 1, 0, 3, 0, 0, 0, []),
  (38, .aload_n 0, 1, 0, 1, 0, 0, 0, []),
  (39, .iload_n 1, 1, 0, 1, 0, 0, 0, []),
  (40, .invokevirtual 113, 3, 2, 2, 73, 2, 6, [824, 821, 823, 54, 43]),
  (43, .imul, 1, 0, 3, 0, 0, 0, []),
  (44, .iload 4, 2, 0, 1, 0, 0, 0, []),
  (46, .aload_n 0, 1, 0, 1, 0, 0, 0, []),
  (47, .getfield 90, 3, 0, 6, 6, 3, 0, [674]),
  (50, .imul, 1, 0, 3, 0, 0, 0, []),
  (51, .iadd, 1, 0, 3, 0, 0, 0, []),
  (52, .aload_n 0, 1, 0, 1, 0, 0, 0, []),
  (53, .getfield 13, 3, 0, 6, 6, 2, 0, [673]),
  (56, .if_icmp .gt 9, 3, 1, 0, 65, 0, 0, []),
  (59, .iinc 4 1, 3, 0, 2, 0, 0, 0, []),
  (62, .goto (-40), 3, 0, 16, 22, 0, 0, []),
  (65, .iload 4, 2, 0, 1, 0, 0, 0, []),
  (67, .ireturn, 1, 3, 0, 0, 0, 0, [])]
def mc72 : List mB := mc72_0
def mq72 : mM := (0, 0, mc72, ⟨"SlabPatternsModel", "hold", "(II)I"⟩, prog_8_method_15_code, 5, some .int, [], [], "SlabPatternsModel")
/-- SlabPatternsModel.acrossOf(I)I -/
def mc73_0 : List mB := [(0, .iload_n 1, 1, 0, 1, 0, 0, 0, []),
  (1, .iconst 2, 1, 0, 0, 0, 0, 0, []),
  (2, .irem, 1, 0, 3, 0, 0, 0, []),
  (3, .ifCond .ne 14, 3, 1, 0, 17, 0, 0, []),
  (6, .aload_n 0, 1, 0, 1, 0, 0, 0, []),
  (7, .getfield 32, 3, 0, 6, 6, 12, 0, [683]),
  (10, .iload_n 1, 1, 0, 1, 0, 0, 0, []),
  (11, .iconst 2, 1, 0, 0, 0, 0, 0, []),
  (12, .idiv, 1, 0, 3, 0, 0, 0, []),
  (13, .iaload, 1, 0, 8, 0, 0, 0, []),
  (14, .goto 11, 3, 0, 16, 25, 0, 0, []),
  (17, .aload_n 0, 1, 0, 1, 0, 0, 0, []),
  (18, .getfield 25, 3, 0, 6, 6, 10, 0, [681]),
  (21, .iload_n 1, 1, 0, 1, 0, 0, 0, []),
  (22, .iconst 2, 1, 0, 0, 0, 0, 0, []),
  (23, .idiv, 1, 0, 3, 0, 0, 0, []),
  (24, .iaload, 1, 0, 8, 0, 0, 0, []),
  (25, .ireturn, 1, 3, 0, 0, 0, 0, [])]
def mc73 : List mB := mc73_0
def mq73 : mM := (0, 0, mc73, ⟨"SlabPatternsModel", "acrossOf", "(I)I"⟩, prog_8_method_14_code, 2, some .int, [], [], "SlabPatternsModel")
/-- SlabPatternsModel.keeps(I)V -/
def mc74_0 : List mB := [(0, .aload_n 0, 1, 0, 1, 0, 0, 0, []),
  (1, .iload_n 1, 1, 0, 1, 0, 0, 0, []),
  (2, .putfield 127, 3, 0, 7, 6, 25, 0, [696]),
  (5, .iconst 0, 1, 0, 0, 0, 0, 0, []),
  (6, .istore_n 2, 1, 0, 2, 0, 0, 0, []),
  (7, .iload_n 2, 1, 0, 1, 0, 0, 0, []),
  (8, .iload_n 1, 1, 0, 1, 0, 0, 0, []),
  (9, .if_icmp .ge 61, 3, 1, 0, 70, 0, 0, []),
  (12, .aload_n 0, 1, 0, 1, 0, 0, 0, []),
  (13, .getfield 63, 3, 0, 6, 6, 26, 0, [697]),
  (16, .iload_n 2, 1, 0, 1, 0, 0, 0, []),
  (17, .aload_n 0, 1, 0, 1, 0, 0, 0, []),
  (18, .getfield 51, 3, 0, 6, 6, 19, 0, [690]),
  (21, .iload_n 2, 1, 0, 1, 0, 0, 0, []),
  (22, .iaload, 1, 0, 8, 0, 0, 0, []),
  (23, .iastore, 1, 0, 9, 0, 0, 0, []),
  (24, .aload_n 0, 1, 0, 1, 0, 0, 0, []),
  (25, .getfield 66, 3, 0, 6, 6, 27, 0, [698]),
  (28, .iload_n 2, 1, 0, 1, 0, 0, 0, []),
  (29, .aload_n 0, 1, 0, 1, 0, 0, 0, []),
  (30, .getfield 54, 3, 0, 6, 6, 20, 0, [691]),
  (33, .iload_n 2, 1, 0, 1, 0, 0, 0, []),
  (34, .iaload, 1, 0, 8, 0, 0, 0, []),
  (35, .iastore, 1, 0, 9, 0, 0, 0, []),
  (36, .aload_n 0, 1, 0, 1, 0, 0, 0, []),
  (37, .getfield 69, 3, 0, 6, 6, 28, 0, [699]),
  (40, .iload_n 2, 1, 0, 1, 0, 0, 0, []),
  (41, .aload_n 0, 1, 0, 1, 0, 0, 0, []),
  (42, .aload_n 0, 1, 0, 1, 0, 0, 0, []),
  (43, .getfield 51, 3, 0, 6, 6, 19, 0, [690]),
  (46, .iload_n 2, 1, 0, 1, 0, 0, 0, []),
  (47, .iaload, 1, 0, 8, 0, 0, 0, []),
  (48, .invokevirtual 117, 3, 2, 2, 70, 2, 6, [812, 809, 811, 54, 40]),
  (51, .iastore, 1, 0, 9, 0, 0, 0, []),
  (52, .aload_n 0, 1, 0, 1, 0, 0, 0, []),
  (53, .getfield 72, 3, 0, 6, 6, 29, 0, [700]),
  (56, .iload_n 2, 1, 0, 1, 0, 0, 0, []),
  (57, .aload_n 0, 1, 0, 1, 0, 0, 0, []),
  (58, .getfield 57, 3, 0, 6, 6, 21, 0, [692]),
  (61, .iload_n 2, 1, 0, 1, 0, 0, 0, [])]
def mc74_1 : List mB := [(62, .iaload, 1, 0, 8, 0, 0, 0, []),
  (63, .iastore, 1, 0, 9, 0, 0, 0, []),
  (64, .iinc 2 1, 3, 0, 2, 0, 0, 0, []),
  (67, .goto (-60), 3, 0, 16, 7, 0, 0, []),
  (70, .return_, 1, 3, 0, 0, 0, 0, [])]
def mc74 : List mB := mc74_0 ++ (mc74_1)
def mq74 : mM := (0, 0, mc74, ⟨"SlabPatternsModel", "keeps", "(I)V"⟩, prog_8_method_17_code, 3, none, [], [], "SlabPatternsModel")
/-- SlabPatternsModel.stretch()V -/
def mc75_0 : List mB := [(0, .iconst 0, 1, 0, 0, 0, 0, 0, []),
  (1, .istore_n 1, 1, 0, 2, 0, 0, 0, []),
  (2, .iload_n 1, 1, 0, 1, 0, 0, 0, []),
  (3, .aload_n 0, 1, 0, 1, 0, 0, 0, []),
  (4, .getfield 127, 3, 0, 6, 6, 25, 0, [696]),
  (7, .if_icmp .ge 117, 3, 1, 0, 124, 0, 0, []),
  (10, .aload_n 0, 1, 0, 1, 0, 0, 0, []),
  (11, .getfield 63, 3, 0, 6, 6, 26, 0, [697]),
  (14, .iload_n 1, 1, 0, 1, 0, 0, 0, []),
  (15, .iaload, 1, 0, 8, 0, 0, 0, []),
  (16, .iconst 2, 1, 0, 0, 0, 0, 0, []),
  (17, .irem, 1, 0, 3, 0, 0, 0, []),
  (18, .iconst 1, 1, 0, 0, 0, 0, 0, []),
  (19, .if_icmp .ne 6, 3, 1, 0, 25, 0, 0, []),
  (22, .goto 96, 3, 0, 16, 118, 0, 0, []),
  (25, .aload_n 0, 1, 0, 1, 0, 0, 0, []),
  (26, .getfield 29, 3, 0, 6, 6, 11, 0, [682]),
  (29, .aload_n 0, 1, 0, 1, 0, 0, 0, []),
  (30, .getfield 63, 3, 0, 6, 6, 26, 0, [697]),
  (33, .iload_n 1, 1, 0, 1, 0, 0, 0, []),
  (34, .iaload, 1, 0, 8, 0, 0, 0, []),
  (35, .iconst 2, 1, 0, 0, 0, 0, 0, []),
  (36, .idiv, 1, 0, 3, 0, 0, 0, []),
  (37, .iaload, 1, 0, 8, 0, 0, 0, []),
  (38, .aload_n 0, 1, 0, 1, 0, 0, 0, []),
  (39, .getfield 25, 3, 0, 6, 6, 10, 0, [681]),
  (42, .aload_n 0, 1, 0, 1, 0, 0, 0, []),
  (43, .getfield 63, 3, 0, 6, 6, 26, 0, [697]),
  (46, .iload_n 1, 1, 0, 1, 0, 0, 0, []),
  (47, .iaload, 1, 0, 8, 0, 0, 0, []),
  (48, .iconst 2, 1, 0, 0, 0, 0, 0, []),
  (49, .idiv, 1, 0, 3, 0, 0, 0, []),
  (50, .iaload, 1, 0, 8, 0, 0, 0, []),
  (51, .isub, 1, 0, 3, 0, 0, 0, []),
  (52, .istore_n 2, 1, 0, 2, 0, 0, 0, []),
  (53, .iload_n 2, 1, 0, 1, 0, 0, 0, []),
  (54, .ifCond .le 18, 3, 1, 0, 72, 0, 0, []),
  (57, .aload_n 0, 1, 0, 1, 0, 0, 0, []),
  (58, .iload_n 1, 1, 0, 1, 0, 0, 0, []),
  (59, .iload_n 2, 1, 0, 1, 0, 0, 0, [])]
def mc75_1 : List mB := [(60, .invokevirtual 144, 3, 2, 2, 76, 3, 6, [836, 833, 835, 54, 46]),
  (63, .ifCond .ne 9, 3, 1, 0, 72, 0, 0, []),
  (66, .iinc 2 (-1), 3, 0, 2, 0, 0, 0, []),
  (69, .goto (-16), 3, 0, 16, 53, 0, 0, []),
  (72, .aload_n 0, 1, 0, 1, 0, 0, 0, []),
  (73, .getfield 69, 3, 0, 6, 6, 28, 0, [699]),
  (76, .iload_n 1, 1, 0, 1, 0, 0, 0, []),
  (77, .aload_n 0, 1, 0, 1, 0, 0, 0, []),
  (78, .getfield 69, 3, 0, 6, 6, 28, 0, [699]),
  (81, .iload_n 1, 1, 0, 1, 0, 0, 0, []),
  (82, .iaload, 1, 0, 8, 0, 0, 0, []),
  (83, .iload_n 2, 1, 0, 1, 0, 0, 0, []),
  (84, .iadd, 1, 0, 3, 0, 0, 0, []),
  (85, .iastore, 1, 0, 9, 0, 0, 0, []),
  (86, .iload_n 1, 1, 0, 1, 0, 0, 0, []),
  (87, .iconst 1, 1, 0, 0, 0, 0, 0, []),
  (88, .iadd, 1, 0, 3, 0, 0, 0, []),
  (89, .istore_n 3, 1, 0, 2, 0, 0, 0, []),
  (90, .iload_n 3, 1, 0, 1, 0, 0, 0, []),
  (91, .aload_n 0, 1, 0, 1, 0, 0, 0, []),
  (92, .getfield 127, 3, 0, 6, 6, 25, 0, [696]),
  (95, .if_icmp .ge 23, 3, 1, 0, 118, 0, 0, []),
  (98, .aload_n 0, 1, 0, 1, 0, 0, 0, []),
  (99, .getfield 66, 3, 0, 6, 6, 27, 0, [698]),
  (102, .iload_n 3, 1, 0, 1, 0, 0, 0, []),
  (103, .aload_n 0, 1, 0, 1, 0, 0, 0, []),
  (104, .getfield 66, 3, 0, 6, 6, 27, 0, [698]),
  (107, .iload_n 3, 1, 0, 1, 0, 0, 0, []),
  (108, .iaload, 1, 0, 8, 0, 0, 0, []),
  (109, .iload_n 2, 1, 0, 1, 0, 0, 0, []),
  (110, .iadd, 1, 0, 3, 0, 0, 0, []),
  (111, .iastore, 1, 0, 9, 0, 0, 0, []),
  (112, .iinc 3 1, 3, 0, 2, 0, 0, 0, []),
  (115, .goto (-25), 3, 0, 16, 90, 0, 0, []),
  (118, .iinc 1 1, 3, 0, 2, 0, 0, 0, []),
  (121, .goto (-119), 3, 0, 16, 2, 0, 0, []),
  (124, .return_, 1, 3, 0, 0, 0, 0, [])]
def mc75 : List mB := mc75_0 ++ (mc75_1)
def mq75 : mM := (0, 0, mc75, ⟨"SlabPatternsModel", "stretch", "()V"⟩, prog_8_method_20_code, 4, none, [], [], "SlabPatternsModel")
/-- SlabPatternsModel.stands(II)Z -/
def mc76_0 : List mB := [(0, .iconst 0, 1, 0, 0, 0, 0, 0, []),
  (1, .istore_n 3, 1, 0, 2, 0, 0, 0, []),
  (2, .iload_n 3, 1, 0, 1, 0, 0, 0, []),
  (3, .aload_n 0, 1, 0, 1, 0, 0, 0, []),
  (4, .getfield 127, 3, 0, 6, 6, 25, 0, [696]),
  (7, .if_icmp .ge 89, 3, 1, 0, 96, 0, 0, []),
  (10, .iload_n 3, 1, 0, 1, 0, 0, 0, []),
  (11, .iload_n 1, 1, 0, 1, 0, 0, 0, []),
  (12, .if_icmp .le 14, 3, 1, 0, 26, 0, 0, []),
  (15, .aload_n 0, 1, 0, 1, 0, 0, 0, []),
  (16, .getfield 66, 3, 0, 6, 6, 27, 0, [698]),
  (19, .iload_n 3, 1, 0, 1, 0, 0, 0, []),
  (20, .iaload, 1, 0, 8, 0, 0, 0, []),
  (21, .iload_n 2, 1, 0, 1, 0, 0, 0, []),
  (22, .iadd, 1, 0, 3, 0, 0, 0, []),
  (23, .goto 9, 3, 0, 16, 32, 0, 0, []),
  (26, .aload_n 0, 1, 0, 1, 0, 0, 0, []),
  (27, .getfield 66, 3, 0, 6, 6, 27, 0, [698]),
  (30, .iload_n 3, 1, 0, 1, 0, 0, 0, []),
  (31, .iaload, 1, 0, 8, 0, 0, 0, []),
  (32, .istore 4, 2, 0, 2, 0, 0, 0, []),
  (34, .iload 4, 2, 0, 1, 0, 0, 0, []),
  (36, .aload_n 0, 1, 0, 1, 0, 0, 0, []),
  (37, .getfield 69, 3, 0, 6, 6, 28, 0, [699]),
  (40, .iload_n 3, 1, 0, 1, 0, 0, 0, []),
  (41, .iaload, 1, 0, 8, 0, 0, 0, []),
  (42, .iadd, 1, 0, 3, 0, 0, 0, []),
  (43, .iload_n 3, 1, 0, 1, 0, 0, 0, []),
  (44, .iload_n 1, 1, 0, 1, 0, 0, 0, []),
  (45, .if_icmp .ne 7, 3, 1, 0, 52, 0, 0, []),
  (48, .iload_n 2, 1, 0, 1, 0, 0, 0, []),
  (49, .goto 4, 3, 0, 16, 53, 0, 0, []),
  (52, .iconst 0, 1, 0, 0, 0, 0, 0, []),
  (53, .iadd, 1, 0, 3, 0, 0, 0, []),
  (54, .istore 5, 2, 0, 2, 0, 0, 0, []),
  (56, .iload 5, 2, 0, 1, 0, 0, 0, []),
  (58, .aload_n 0, 1, 0, 1, 0, 0, 0, []),
  (59, .getfield 7, 3, 0, 6, 6, 1, 0, [672]),
  (62, .aload_n 0, 1, 0, 1, 0, 0, 0, []),
  (63, .getfield 107, 3, 0, 6, 6, 5, 0, [676])]
def mc76_1 : List mB := [(66, .isub, 1, 0, 3, 0, 0, 0, []),
  (67, .if_icmp .gt 21, 3, 1, 0, 88, 0, 0, []),
  (70, .aload_n 0, 1, 0, 1, 0, 0, 0, []),
  (71, .iload 4, 2, 0, 1, 0, 0, 0, []),
  (73, .invokevirtual 120, 3, 2, 2, 71, 2, 6, [816, 813, 815, 54, 41]),
  (76, .ifCond .ne 12, 3, 1, 0, 88, 0, 0, []),
  (79, .aload_n 0, 1, 0, 1, 0, 0, 0, []),
  (80, .iload 5, 2, 0, 1, 0, 0, 0, []),
  (82, .invokevirtual 120, 3, 2, 2, 71, 2, 6, [816, 813, 815, 54, 41]),
  (85, .ifCond .eq 5, 3, 1, 0, 90, 0, 0, []),
  (88, .iconst 0, 1, 0, 0, 0, 0, 0, []),
  (89, .ireturn, 1, 3, 0, 0, 0, 0, []),
  (90, .iinc 3 1, 3, 0, 2, 0, 0, 0, []),
  (93, .goto (-91), 3, 0, 16, 2, 0, 0, []),
  (96, .iconst 1, 1, 0, 0, 0, 0, 0, []),
  (97, .ireturn, 1, 3, 0, 0, 0, 0, [])]
def mc76 : List mB := mc76_0 ++ (mc76_1)
def mq76 : mM := (0, 0, mc76, ⟨"SlabPatternsModel", "stands", "(II)Z"⟩, prog_8_method_19_code, 6, some .boolean, [], [], "SlabPatternsModel")
/-- SlabPatternsModel.proved()Z -/
def mc77_0 : List mB := [(0, .aload_n 0, 1, 0, 1, 0, 0, 0, []),
  (1, .aload_n 0, 1, 0, 1, 0, 0, 0, []),
  (2, .getfield 93, 3, 0, 6, 6, 23, 0, [694]),
  (5, .iconst 1, 1, 0, 0, 0, 0, 0, []),
  (6, .iconst 1, 1, 0, 0, 0, 0, 0, []),
  (7, .invokevirtual 86, 3, 2, 2, 62, 4, 6, [779, 776, 778, 54, 37]),
  (10, .ifCond .eq 14, 3, 1, 0, 24, 0, 0, []),
  (13, .aload_n 0, 1, 0, 1, 0, 0, 0, []),
  (14, .getfield 130, 3, 0, 6, 6, 24, 0, [695]),
  (17, .ifCond .eq 7, 3, 1, 0, 24, 0, 0, []),
  (20, .iconst 1, 1, 0, 0, 0, 0, 0, []),
  (21, .goto 4, 3, 0, 16, 25, 0, 0, []),
  (24, .iconst 0, 1, 0, 0, 0, 0, 0, []),
  (25, .ireturn, 1, 3, 0, 0, 0, 0, [])]
def mc77 : List mB := mc77_0
def mq77 : mM := (0, 0, mc77, ⟨"SlabPatternsModel", "proved", "()Z"⟩, prog_8_method_21_code, 1, some .boolean, [], [], "SlabPatternsModel")
/-- SlabPatternsModel.strips()I -/
def mc78_0 : List mB := [(0, .aload_n 0, 1, 0, 1, 0, 0, 0, []),
  (1, .aload_n 0, 1, 0, 1, 0, 0, 0, []),
  (2, .getfield 93, 3, 0, 6, 6, 23, 0, [694]),
  (5, .iconst 1, 1, 0, 0, 0, 0, 0, []),
  (6, .iconst 1, 1, 0, 0, 0, 0, 0, []),
  (7, .invokevirtual 86, 3, 2, 2, 62, 4, 6, [779, 776, 778, 54, 37]),
  (10, .ifCond .ne 5, 3, 1, 0, 15, 0, 0, []),
  (13, .iconst 0, 1, 0, 0, 0, 0, 0, []),
  (14, .ireturn, 1, 3, 0, 0, 0, 0, []),
  (15, .aload_n 0, 1, 0, 1, 0, 0, 0, []),
  (16, .getfield 127, 3, 0, 6, 6, 25, 0, [696]),
  (19, .ireturn, 1, 3, 0, 0, 0, 0, [])]
def mc78 : List mB := mc78_0
def mq78 : mM := (0, 0, mc78, ⟨"SlabPatternsModel", "strips", "()I"⟩, prog_8_method_22_code, 1, some .int, [], [], "SlabPatternsModel")
/-- SlabPatternsModel.strip(II)I -/
def mc79_0 : List mB := [(0, .aload_n 0, 1, 0, 1, 0, 0, 0, []),
  (1, .iload_n 2, 1, 0, 1, 0, 0, 0, []),
  (2, .iconst 0, 1, 0, 0, 0, 0, 0, []),
  (3, .iconst 4, 1, 0, 0, 0, 0, 0, []),
  (4, .invokestatic 78, 3, 2, 4, 61, 3, 0, [775, 773, 774, 54]),
  (7, .aload_n 0, 1, 0, 1, 0, 0, 0, []),
  (8, .getfield 93, 3, 0, 6, 6, 23, 0, [694]),
  (11, .iload_n 1, 1, 0, 1, 0, 0, 0, []),
  (12, .iconst 0, 1, 0, 0, 0, 0, 0, []),
  (13, .aload_n 0, 1, 0, 1, 0, 0, 0, []),
  (14, .getfield 127, 3, 0, 6, 6, 25, 0, [696]),
  (17, .iconst 1, 1, 0, 0, 0, 0, 0, []),
  (18, .isub, 1, 0, 3, 0, 0, 0, []),
  (19, .invokestatic 78, 3, 2, 4, 61, 3, 0, [775, 773, 774, 54]),
  (22, .invokevirtual 86, 3, 2, 2, 62, 4, 6, [779, 776, 778, 54, 37]),
  (25, .ifCond .ne 5, 3, 1, 0, 30, 0, 0, []),
  (28, .iconst 0, 1, 0, 0, 0, 0, 0, []),
  (29, .ireturn, 1, 3, 0, 0, 0, 0, []),
  (30, .iload_n 2, 1, 0, 1, 0, 0, 0, []),
  (31, .ifCond .ne 14, 3, 1, 0, 45, 0, 0, []),
  (34, .aload_n 0, 1, 0, 1, 0, 0, 0, []),
  (35, .getfield 63, 3, 0, 6, 6, 26, 0, [697]),
  (38, .iload_n 1, 1, 0, 1, 0, 0, 0, []),
  (39, .iaload, 1, 0, 8, 0, 0, 0, []),
  (40, .iconst 2, 1, 0, 0, 0, 0, 0, []),
  (41, .idiv, 1, 0, 3, 0, 0, 0, []),
  (42, .goto 53, 3, 0, 16, 95, 0, 0, []),
  (45, .iload_n 2, 1, 0, 1, 0, 0, 0, []),
  (46, .iconst 1, 1, 0, 0, 0, 0, 0, []),
  (47, .if_icmp .ne 14, 3, 1, 0, 61, 0, 0, []),
  (50, .aload_n 0, 1, 0, 1, 0, 0, 0, []),
  (51, .getfield 63, 3, 0, 6, 6, 26, 0, [697]),
  (54, .iload_n 1, 1, 0, 1, 0, 0, 0, []),
  (55, .iaload, 1, 0, 8, 0, 0, 0, []),
  (56, .iconst 2, 1, 0, 0, 0, 0, 0, []),
  (57, .irem, 1, 0, 3, 0, 0, 0, []),
  (58, .goto 37, 3, 0, 16, 95, 0, 0, []),
  (61, .iload_n 2, 1, 0, 1, 0, 0, 0, []),
  (62, .iconst 2, 1, 0, 0, 0, 0, 0, []),
  (63, .if_icmp .ne 12, 3, 1, 0, 75, 0, 0, [])]
def mc79_1 : List mB := [(66, .aload_n 0, 1, 0, 1, 0, 0, 0, []),
  (67, .getfield 66, 3, 0, 6, 6, 27, 0, [698]),
  (70, .iload_n 1, 1, 0, 1, 0, 0, 0, []),
  (71, .iaload, 1, 0, 8, 0, 0, 0, []),
  (72, .goto 23, 3, 0, 16, 95, 0, 0, []),
  (75, .iload_n 2, 1, 0, 1, 0, 0, 0, []),
  (76, .iconst 3, 1, 0, 0, 0, 0, 0, []),
  (77, .if_icmp .ne 12, 3, 1, 0, 89, 0, 0, []),
  (80, .aload_n 0, 1, 0, 1, 0, 0, 0, []),
  (81, .getfield 69, 3, 0, 6, 6, 28, 0, [699]),
  (84, .iload_n 1, 1, 0, 1, 0, 0, 0, []),
  (85, .iaload, 1, 0, 8, 0, 0, 0, []),
  (86, .goto 9, 3, 0, 16, 95, 0, 0, []),
  (89, .aload_n 0, 1, 0, 1, 0, 0, 0, []),
  (90, .getfield 72, 3, 0, 6, 6, 29, 0, [700]),
  (93, .iload_n 1, 1, 0, 1, 0, 0, 0, []),
  (94, .iaload, 1, 0, 8, 0, 0, 0, []),
  (95, .ireturn, 1, 3, 0, 0, 0, 0, [])]
def mc79 : List mB := mc79_0 ++ (mc79_1)
def mq79 : mM := (0, 0, mc79, ⟨"SlabPatternsModel", "strip", "(II)I"⟩, prog_8_method_23_code, 3, some .int, [], [], "SlabPatternsModel")
/-- SlabPatternsModel.copies(I)I -/
def mc80_0 : List mB := [(0, .aload_n 0, 1, 0, 1, 0, 0, 0, []),
  (1, .aload_n 0, 1, 0, 1, 0, 0, 0, []),
  (2, .iload_n 1, 1, 0, 1, 0, 0, 0, []),
  (3, .invokevirtual 101, 3, 2, 2, 65, 2, 6, [792, 789, 791, 54, 38]),
  (6, .aload_n 0, 1, 0, 1, 0, 0, 0, []),
  (7, .getfield 93, 3, 0, 6, 6, 23, 0, [694]),
  (10, .iconst 1, 1, 0, 0, 0, 0, 0, []),
  (11, .invokevirtual 86, 3, 2, 2, 62, 4, 6, [779, 776, 778, 54, 37]),
  (14, .ifCond .ne 5, 3, 1, 0, 19, 0, 0, []),
  (17, .iconst 0, 1, 0, 0, 0, 0, 0, []),
  (18, .ireturn, 1, 3, 0, 0, 0, 0, []),
  (19, .iconst 0, 1, 0, 0, 0, 0, 0, []),
  (20, .istore_n 2, 1, 0, 2, 0, 0, 0, []),
  (21, .iconst 0, 1, 0, 0, 0, 0, 0, []),
  (22, .istore_n 3, 1, 0, 2, 0, 0, 0, []),
  (23, .iload_n 3, 1, 0, 1, 0, 0, 0, []),
  (24, .aload_n 0, 1, 0, 1, 0, 0, 0, []),
  (25, .getfield 127, 3, 0, 6, 6, 25, 0, [696]),
  (28, .if_icmp .ge 30, 3, 1, 0, 58, 0, 0, []),
  (31, .aload_n 0, 1, 0, 1, 0, 0, 0, []),
  (32, .getfield 63, 3, 0, 6, 6, 26, 0, [697]),
  (35, .iload_n 3, 1, 0, 1, 0, 0, 0, []),
  (36, .iaload, 1, 0, 8, 0, 0, 0, []),
  (37, .iconst 2, 1, 0, 0, 0, 0, 0, []),
  (38, .idiv, 1, 0, 3, 0, 0, 0, []),
  (39, .iload_n 1, 1, 0, 1, 0, 0, 0, []),
  (40, .if_icmp .ne 12, 3, 1, 0, 52, 0, 0, []),
  (43, .iload_n 2, 1, 0, 1, 0, 0, 0, []),
  (44, .aload_n 0, 1, 0, 1, 0, 0, 0, []),
  (45, .getfield 72, 3, 0, 6, 6, 29, 0, [700]),
  (48, .iload_n 3, 1, 0, 1, 0, 0, 0, []),
  (49, .iaload, 1, 0, 8, 0, 0, 0, []),
  (50, .iadd, 1, 0, 3, 0, 0, 0, []),
  (51, .istore_n 2, 1, 0, 2, 0, 0, 0, []),
  (52, .iinc 3 1, 3, 0, 2, 0, 0, 0, []),
  (55, .goto (-32), 3, 0, 16, 23, 0, 0, []),
  (58, .iload_n 2, 1, 0, 1, 0, 0, 0, []),
  (59, .ireturn, 1, 3, 0, 0, 0, 0, [])]
def mc80 : List mB := mc80_0
def mq80 : mM := (0, 0, mc80, ⟨"SlabPatternsModel", "copies", "(I)I"⟩, prog_8_method_24_code, 4, some .int, [], [], "SlabPatternsModel")
/-- SlabPatternsModel.rest(I)I -/
def mc81_0 : List mB := [(0, .aload_n 0, 1, 0, 1, 0, 0, 0, []),
  (1, .iload_n 1, 1, 0, 1, 0, 0, 0, []),
  (2, .iconst 0, 1, 0, 0, 0, 0, 0, []),
  (3, .iconst 1, 1, 0, 0, 0, 0, 0, []),
  (4, .invokestatic 78, 3, 2, 4, 61, 3, 0, [775, 773, 774, 54]),
  (7, .aload_n 0, 1, 0, 1, 0, 0, 0, []),
  (8, .getfield 93, 3, 0, 6, 6, 23, 0, [694]),
  (11, .iconst 1, 1, 0, 0, 0, 0, 0, []),
  (12, .invokevirtual 86, 3, 2, 2, 62, 4, 6, [779, 776, 778, 54, 37]),
  (15, .ifCond .ne 5, 3, 1, 0, 20, 0, 0, []),
  (18, .iconst 0, 1, 0, 0, 0, 0, 0, []),
  (19, .ireturn, 1, 3, 0, 0, 0, 0, []),
  (20, .aload_n 0, 1, 0, 1, 0, 0, 0, []),
  (21, .getfield 127, 3, 0, 6, 6, 25, 0, [696]),
  (24, .ifCond .ne 10, 3, 1, 0, 34, 0, 0, []),
  (27, .aload_n 0, 1, 0, 1, 0, 0, 0, []),
  (28, .getfield 104, 3, 0, 6, 6, 4, 0, [675]),
  (31, .goto 31, 3, 0, 16, 62, 0, 0, []),
  (34, .aload_n 0, 1, 0, 1, 0, 0, 0, []),
  (35, .getfield 66, 3, 0, 6, 6, 27, 0, [698]),
  (38, .aload_n 0, 1, 0, 1, 0, 0, 0, []),
  (39, .getfield 127, 3, 0, 6, 6, 25, 0, [696]),
  (42, .iconst 1, 1, 0, 0, 0, 0, 0, []),
  (43, .isub, 1, 0, 3, 0, 0, 0, []),
  (44, .iaload, 1, 0, 8, 0, 0, 0, []),
  (45, .aload_n 0, 1, 0, 1, 0, 0, 0, []),
  (46, .getfield 69, 3, 0, 6, 6, 28, 0, [699]),
  (49, .aload_n 0, 1, 0, 1, 0, 0, 0, []),
  (50, .getfield 127, 3, 0, 6, 6, 25, 0, [696]),
  (53, .iconst 1, 1, 0, 0, 0, 0, 0, []),
  (54, .isub, 1, 0, 3, 0, 0, 0, []),
  (55, .iaload, 1, 0, 8, 0, 0, 0, []),
  (56, .iadd, 1, 0, 3, 0, 0, 0, []),
  (57, .aload_n 0, 1, 0, 1, 0, 0, 0, []),
  (58, .getfield 90, 3, 0, 6, 6, 3, 0, [674]),
  (61, .iadd, 1, 0, 3, 0, 0, 0, []),
  (62, .istore_n 2, 1, 0, 2, 0, 0, 0, []),
  (63, .aload_n 0, 1, 0, 1, 0, 0, 0, []),
  (64, .getfield 7, 3, 0, 6, 6, 1, 0, [672]),
  (67, .aload_n 0, 1, 0, 1, 0, 0, 0, [])]
def mc81_1 : List mB := [(68, .getfield 107, 3, 0, 6, 6, 5, 0, [676]),
  (71, .isub, 1, 0, 3, 0, 0, 0, []),
  (72, .iload_n 2, 1, 0, 1, 0, 0, 0, []),
  (73, .isub, 1, 0, 3, 0, 0, 0, []),
  (74, .istore_n 3, 1, 0, 2, 0, 0, 0, []),
  (75, .iload_n 3, 1, 0, 1, 0, 0, 0, []),
  (76, .ifCond .ge 5, 3, 1, 0, 81, 0, 0, []),
  (79, .iconst 0, 1, 0, 0, 0, 0, 0, []),
  (80, .istore_n 3, 1, 0, 2, 0, 0, 0, []),
  (81, .iload_n 1, 1, 0, 1, 0, 0, 0, []),
  (82, .ifCond .ne 7, 3, 1, 0, 89, 0, 0, []),
  (85, .iload_n 3, 1, 0, 1, 0, 0, 0, []),
  (86, .goto 16, 3, 0, 16, 102, 0, 0, []),
  (89, .iload_n 3, 1, 0, 1, 0, 0, 0, []),
  (90, .aload_n 0, 1, 0, 1, 0, 0, 0, []),
  (91, .getfield 22, 3, 0, 6, 6, 8, 0, [679]),
  (94, .if_icmp .lt 7, 3, 1, 0, 101, 0, 0, []),
  (97, .iconst 1, 1, 0, 0, 0, 0, 0, []),
  (98, .goto 4, 3, 0, 16, 102, 0, 0, []),
  (101, .iconst 0, 1, 0, 0, 0, 0, 0, []),
  (102, .ireturn, 1, 3, 0, 0, 0, 0, [])]
def mc81 : List mB := mc81_0 ++ (mc81_1)
def mq81 : mM := (0, 0, mc81, ⟨"SlabPatternsModel", "rest", "(I)I"⟩, prog_8_method_25_code, 4, some .int, [], [], "SlabPatternsModel")
/-- SlabPatternsModel.check()I -/
def mc82_0 : List mB := [(0, .aload_n 0, 1, 0, 1, 0, 0, 0, []),
  (1, .aload_n 0, 1, 0, 1, 0, 0, 0, []),
  (2, .getfield 93, 3, 0, 6, 6, 23, 0, [694]),
  (5, .iconst 1, 1, 0, 0, 0, 0, 0, []),
  (6, .iconst 1, 1, 0, 0, 0, 0, 0, []),
  (7, .invokevirtual 86, 3, 2, 2, 62, 4, 6, [779, 776, 778, 54, 37]),
  (10, .ifCond .ne 5, 3, 1, 0, 15, 0, 0, []),
  (13, .iconst 0, 1, 0, 0, 0, 0, 0, []),
  (14, .ireturn, 1, 3, 0, 0, 0, 0, []),
  (15, .iconst 0, 1, 0, 0, 0, 0, 0, []),
  (16, .istore_n 1, 1, 0, 2, 0, 0, 0, []),
  (17, .iload_n 1, 1, 0, 1, 0, 0, 0, []),
  (18, .aload_n 0, 1, 0, 1, 0, 0, 0, []),
  (19, .getfield 127, 3, 0, 6, 6, 25, 0, [696]),
  (22, .if_icmp .ge 171, 3, 1, 0, 193, 0, 0, []),
  (25, .aload_n 0, 1, 0, 1, 0, 0, 0, []),
  (26, .getfield 63, 3, 0, 6, 6, 26, 0, [697]),
  (29, .iload_n 1, 1, 0, 1, 0, 0, 0, []),
  (30, .iaload, 1, 0, 8, 0, 0, 0, []),
  (31, .istore_n 2, 1, 0, 2, 0, 0, 0, []),
  (32, .aload_n 0, 1, 0, 1, 0, 0, 0, []),
  (33, .getfield 66, 3, 0, 6, 6, 27, 0, [698]),
  (36, .iload_n 1, 1, 0, 1, 0, 0, 0, []),
  (37, .iaload, 1, 0, 8, 0, 0, 0, []),
  (38, .aload_n 0, 1, 0, 1, 0, 0, 0, []),
  (39, .getfield 69, 3, 0, 6, 6, 28, 0, [699]),
  (42, .iload_n 1, 1, 0, 1, 0, 0, 0, []),
  (43, .iaload, 1, 0, 8, 0, 0, 0, []),
  (44, .iadd, 1, 0, 3, 0, 0, 0, []),
  (45, .istore_n 3, 1, 0, 2, 0, 0, 0, []),
  (46, .iconst 0, 1, 0, 0, 0, 0, 0, []),
  (47, .istore 4, 2, 0, 2, 0, 0, 0, []),
  (49, .iconst 0, 1, 0, 0, 0, 0, 0, []),
  (50, .istore 5, 2, 0, 2, 0, 0, 0, []),
  (52, .iload 5, 2, 0, 1, 0, 0, 0, []),
  (54, .iload_n 1, 1, 0, 1, 0, 0, 0, []),
  (55, .if_icmp .gt 36, 3, 1, 0, 91, 0, 0, []),
  (58, .aload_n 0, 1, 0, 1, 0, 0, 0, []),
  (59, .getfield 63, 3, 0, 6, 6, 26, 0, [697]),
  (62, .iload 5, 2, 0, 1, 0, 0, 0, [])]
def mc82_1 : List mB := [(64, .iaload, 1, 0, 8, 0, 0, 0, []),
  (65, .iconst 2, 1, 0, 0, 0, 0, 0, []),
  (66, .idiv, 1, 0, 3, 0, 0, 0, []),
  (67, .iload_n 2, 1, 0, 1, 0, 0, 0, []),
  (68, .iconst 2, 1, 0, 0, 0, 0, 0, []),
  (69, .idiv, 1, 0, 3, 0, 0, 0, []),
  (70, .if_icmp .ne 15, 3, 1, 0, 85, 0, 0, []),
  (73, .iload 4, 2, 0, 1, 0, 0, 0, []),
  (75, .aload_n 0, 1, 0, 1, 0, 0, 0, []),
  (76, .getfield 72, 3, 0, 6, 6, 29, 0, [700]),
  (79, .iload 5, 2, 0, 1, 0, 0, 0, []),
  (81, .iaload, 1, 0, 8, 0, 0, 0, []),
  (82, .iadd, 1, 0, 3, 0, 0, 0, []),
  (83, .istore 4, 2, 0, 2, 0, 0, 0, []),
  (85, .iinc 5 1, 3, 0, 2, 0, 0, 0, []),
  (88, .goto (-36), 3, 0, 16, 52, 0, 0, []),
  (91, .aload_n 0, 1, 0, 1, 0, 0, 0, []),
  (92, .getfield 66, 3, 0, 6, 6, 27, 0, [698]),
  (95, .iload_n 1, 1, 0, 1, 0, 0, 0, []),
  (96, .iaload, 1, 0, 8, 0, 0, 0, []),
  (97, .aload_n 0, 1, 0, 1, 0, 0, 0, []),
  (98, .getfield 104, 3, 0, 6, 6, 4, 0, [675]),
  (101, .if_icmp .lt 16, 3, 1, 0, 117, 0, 0, []),
  (104, .iload_n 3, 1, 0, 1, 0, 0, 0, []),
  (105, .aload_n 0, 1, 0, 1, 0, 0, 0, []),
  (106, .getfield 7, 3, 0, 6, 6, 1, 0, [672]),
  (109, .aload_n 0, 1, 0, 1, 0, 0, 0, []),
  (110, .getfield 107, 3, 0, 6, 6, 5, 0, [676]),
  (113, .isub, 1, 0, 3, 0, 0, 0, []),
  (114, .if_icmp .le 7, 3, 1, 0, 121, 0, 0, []),
  (117, .iconst 1, 1, 0, 0, 0, 0, 0, []),
  (118, .goto 4, 3, 0, 16, 122, 0, 0, []),
  (121, .iconst 0, 1, 0, 0, 0, 0, 0, []),
  (122, .istore 5, 2, 0, 2, 0, 0, 0, []),
  (124, .iload 5, 2, 0, 1, 0, 0, 0, []),
  (126, .ifCond .ne 57, 3, 1, 0, 183, 0, 0, []),
  (129, .aload_n 0, 1, 0, 1, 0, 0, 0, []),
  (130, .aload_n 0, 1, 0, 1, 0, 0, 0, []),
  (131, .getfield 66, 3, 0, 6, 6, 27, 0, [698]),
  (134, .iload_n 1, 1, 0, 1, 0, 0, 0, [])]
def mc82_2 : List mB := [(135, .iaload, 1, 0, 8, 0, 0, 0, []),
  (136, .invokevirtual 120, 3, 2, 2, 71, 2, 6, [816, 813, 815, 54, 41]),
  (139, .ifCond .ne 44, 3, 1, 0, 183, 0, 0, []),
  (142, .aload_n 0, 1, 0, 1, 0, 0, 0, []),
  (143, .iload_n 3, 1, 0, 1, 0, 0, 0, []),
  (144, .invokevirtual 120, 3, 2, 2, 71, 2, 6, [816, 813, 815, 54, 41]),
  (147, .ifCond .ne 36, 3, 1, 0, 183, 0, 0, []),
  (150, .iload 4, 2, 0, 1, 0, 0, 0, []),
  (152, .aload_n 0, 1, 0, 1, 0, 0, 0, []),
  (153, .getfield 38, 3, 0, 6, 6, 14, 0, [685]),
  (156, .iload_n 2, 1, 0, 1, 0, 0, 0, []),
  (157, .iconst 2, 1, 0, 0, 0, 0, 0, []),
  (158, .idiv, 1, 0, 3, 0, 0, 0, []),
  (159, .iaload, 1, 0, 8, 0, 0, 0, []),
  (160, .if_icmp .gt 23, 3, 1, 0, 183, 0, 0, []),
  (163, .aload_n 0, 1, 0, 1, 0, 0, 0, []),
  (164, .iload_n 2, 1, 0, 1, 0, 0, 0, []),
  (165, .aload_n 0, 1, 0, 1, 0, 0, 0, []),
  (166, .getfield 72, 3, 0, 6, 6, 29, 0, [700]),
  (169, .iload_n 1, 1, 0, 1, 0, 0, 0, []),
  (170, .iaload, 1, 0, 8, 0, 0, 0, []),
  (171, .invokevirtual 123, 3, 2, 2, 72, 3, 6, [820, 817, 819, 54, 42]),
  (174, .aload_n 0, 1, 0, 1, 0, 0, 0, []),
  (175, .getfield 72, 3, 0, 6, 6, 29, 0, [700]),
  (178, .iload_n 1, 1, 0, 1, 0, 0, 0, []),
  (179, .iaload, 1, 0, 8, 0, 0, 0, []),
  (180, .if_icmp .ge 7, 3, 1, 0, 187, 0, 0, []),
  (183, .iload_n 1, 1, 0, 1, 0, 0, 0, []),
  (184, .iconst 1, 1, 0, 0, 0, 0, 0, []),
  (185, .iadd, 1, 0, 3, 0, 0, 0, []),
  (186, .ireturn, 1, 3, 0, 0, 0, 0, []),
  (187, .iinc 1 1, 3, 0, 2, 0, 0, 0, []),
  (190, .goto (-173), 3, 0, 16, 17, 0, 0, []),
  (193, .iconst 0, 1, 0, 0, 0, 0, 0, []),
  (194, .ireturn, 1, 3, 0, 0, 0, 0, [])]
def mc82 : List mB := mc82_0 ++ (mc82_1 ++ (mc82_2))
def mq82 : mM := (0, 0, mc82, ⟨"SlabPatternsModel", "check", "()I"⟩, prog_8_method_26_code, 6, some .int, [], [], "SlabPatternsModel")
/-- SlabPatternsModel.clear()V -/
def mc83_0 : List mB := [(0, .aload_n 0, 1, 0, 1, 0, 0, 0, []),
  (1, .iconst 0, 1, 0, 0, 0, 0, 0, []),
  (2, .putfield 75, 3, 0, 7, 6, 0, 0, [671]),
  (5, .aload_n 0, 1, 0, 1, 0, 0, 0, []),
  (6, .iconst 1, 1, 0, 0, 0, 0, 0, []),
  (7, .putfield 7, 3, 0, 7, 6, 1, 0, [672]),
  (10, .aload_n 0, 1, 0, 1, 0, 0, 0, []),
  (11, .iconst 1, 1, 0, 0, 0, 0, 0, []),
  (12, .putfield 13, 3, 0, 7, 6, 2, 0, [673]),
  (15, .aload_n 0, 1, 0, 1, 0, 0, 0, []),
  (16, .iconst 0, 1, 0, 0, 0, 0, 0, []),
  (17, .putfield 90, 3, 0, 7, 6, 3, 0, [674]),
  (20, .aload_n 0, 1, 0, 1, 0, 0, 0, []),
  (21, .iconst 0, 1, 0, 0, 0, 0, 0, []),
  (22, .putfield 104, 3, 0, 7, 6, 4, 0, [675]),
  (25, .aload_n 0, 1, 0, 1, 0, 0, 0, []),
  (26, .iconst 0, 1, 0, 0, 0, 0, 0, []),
  (27, .putfield 107, 3, 0, 7, 6, 5, 0, [676]),
  (30, .aload_n 0, 1, 0, 1, 0, 0, 0, []),
  (31, .iconst 2, 1, 0, 0, 0, 0, 0, []),
  (32, .putfield 16, 3, 0, 7, 6, 6, 0, [677]),
  (35, .aload_n 0, 1, 0, 1, 0, 0, 0, []),
  (36, .bipush 20, 2, 0, 0, 0, 0, 0, []),
  (38, .putfield 19, 3, 0, 7, 6, 7, 0, [678]),
  (41, .aload_n 0, 1, 0, 1, 0, 0, 0, []),
  (42, .bipush 10, 2, 0, 0, 0, 0, 0, []),
  (44, .putfield 22, 3, 0, 7, 6, 8, 0, [679]),
  (47, .aload_n 0, 1, 0, 1, 0, 0, 0, []),
  (48, .iconst 0, 1, 0, 0, 0, 0, 0, []),
  (49, .putfield 98, 3, 0, 7, 6, 9, 0, [680]),
  (52, .aload_n 0, 1, 0, 1, 0, 0, 0, []),
  (53, .iconst 0, 1, 0, 0, 0, 0, 0, []),
  (54, .putfield 110, 3, 0, 7, 6, 16, 0, [687]),
  (57, .aload_n 0, 1, 0, 1, 0, 0, 0, []),
  (58, .iconst 0, 1, 0, 0, 0, 0, 0, []),
  (59, .putfield 93, 3, 0, 7, 6, 23, 0, [694]),
  (62, .return_, 1, 3, 0, 0, 0, 0, [])]
def mc83 : List mB := mc83_0
def mq83 : mM := (0, 0, mc83, ⟨"SlabPatternsModel", "clear", "()V"⟩, prog_8_method_27_code, 1, none, [], [], "SlabPatternsModel")
/-- SlabPatternsLaw.plate(LSlabPatterns;III)I -/
def mc84_0 : List mB := [(0, .aload_n 0, 1, 0, 1, 0, 0, 0, []),
  (1, .iload_n 1, 1, 0, 1, 0, 0, 0, []),
  (2, .iload_n 2, 1, 0, 1, 0, 0, 0, []),
  (3, .iload_n 3, 1, 0, 1, 0, 0, 0, []),
  (4, .invokevirtual 7, 3, 2, 6, 5, 4, 0, [299, 296, 297, 48, 298]),
  (7, .goto 7, 3, 0, 16, 14, 0, 0, []),
  (10, .astore 4, 2, 0, 2, 0, 0, 0, []),
  (12, .iconst 1, 1, 0, 0, 0, 0, 0, []),
  (13, .ireturn, 1, 3, 0, 0, 0, 0, []),
  (14, .iconst 0, 1, 0, 0, 0, 0, 0, []),
  (15, .ireturn, 1, 3, 0, 0, 0, 0, [])]
def mc84 : List mB := mc84_0
def mq84 : mM := (1, 6, mc84, ⟨"SlabPatternsLaw", "plate", "(LSlabPatterns;III)I"⟩, method_3_code, 5, some .int, [(0, 7, 10, 13)], [0], "SlabPatternsLaw")
/-- SlabPatternsLaw.want(LSlabPatterns;IIIII[J)I -/
def mc85_0 : List mB := [(0, .aload 6, 2, 0, 1, 0, 0, 0, []),
  (2, .iconst 0, 1, 0, 0, 0, 0, 0, []),
  (3, .aload_n 0, 1, 0, 1, 0, 0, 0, []),
  (4, .iload_n 1, 1, 0, 1, 0, 0, 0, []),
  (5, .iload_n 2, 1, 0, 1, 0, 0, 0, []),
  (6, .iload_n 3, 1, 0, 1, 0, 0, 0, []),
  (7, .iload 4, 2, 0, 1, 0, 0, 0, []),
  (9, .iload 5, 2, 0, 1, 0, 0, 0, []),
  (11, .invokevirtual 15, 3, 2, 6, 7, 6, 0, [379, 376, 377, 48, 378]),
  (14, .i2l, 1, 0, 4, 0, 0, 0, []),
  (15, .lastore, 1, 0, 9, 0, 0, 0, []),
  (16, .goto 11, 3, 0, 16, 27, 0, 0, []),
  (19, .astore 7, 2, 0, 2, 0, 0, 0, []),
  (21, .iconst 1, 1, 0, 0, 0, 0, 0, []),
  (22, .ireturn, 1, 3, 0, 0, 0, 0, []),
  (23, .astore 7, 2, 0, 2, 0, 0, 0, []),
  (25, .iconst 2, 1, 0, 0, 0, 0, 0, []),
  (26, .ireturn, 1, 3, 0, 0, 0, 0, []),
  (27, .iconst 0, 1, 0, 0, 0, 0, 0, []),
  (28, .ireturn, 1, 3, 0, 0, 0, 0, [])]
def mc85 : List mB := mc85_0
def mq85 : mM := (1, 6, mc85, ⟨"SlabPatternsLaw", "want", "(LSlabPatterns;IIIII[J)I"⟩, method_4_code, 8, some .int, [(0, 16, 19, 13), (0, 16, 23, 19)], [0, 3], "SlabPatternsLaw")
/-- SlabPatternsLaw.turn(LSlabPatterns;IZ)I -/
def mc86_0 : List mB := [(0, .aload_n 0, 1, 0, 1, 0, 0, 0, []),
  (1, .iload_n 1, 1, 0, 1, 0, 0, 0, []),
  (2, .iload_n 2, 1, 0, 1, 0, 0, 0, []),
  (3, .invokevirtual 21, 3, 2, 6, 8, 3, 0, [415, 412, 413, 48, 414]),
  (6, .goto 6, 3, 0, 16, 12, 0, 0, []),
  (9, .astore_n 3, 1, 0, 2, 0, 0, 0, []),
  (10, .iconst 1, 1, 0, 0, 0, 0, 0, []),
  (11, .ireturn, 1, 3, 0, 0, 0, 0, []),
  (12, .iconst 0, 1, 0, 0, 0, 0, 0, []),
  (13, .ireturn, 1, 3, 0, 0, 0, 0, [])]
def mc86 : List mB := mc86_0
def mq86 : mM := (1, 6, mc86, ⟨"SlabPatternsLaw", "turn", "(LSlabPatterns;IZ)I"⟩, method_5_code, 4, some .int, [(0, 6, 9, 25)], [2], "SlabPatternsLaw")
/-- SlabPatternsLaw.rules(LSlabPatterns;IIIII)I -/
def mc87_0 : List mB := [(0, .aload_n 0, 1, 0, 1, 0, 0, 0, []),
  (1, .iload_n 1, 1, 0, 1, 0, 0, 0, []),
  (2, .iload_n 2, 1, 0, 1, 0, 0, 0, []),
  (3, .iload_n 3, 1, 0, 1, 0, 0, 0, []),
  (4, .iload 4, 2, 0, 1, 0, 0, 0, []),
  (6, .iload 5, 2, 0, 1, 0, 0, 0, []),
  (8, .invokevirtual 27, 3, 2, 6, 9, 6, 0, [442, 439, 440, 48, 441]),
  (11, .goto 7, 3, 0, 16, 18, 0, 0, []),
  (14, .astore 6, 2, 0, 2, 0, 0, 0, []),
  (16, .iconst 1, 1, 0, 0, 0, 0, 0, []),
  (17, .ireturn, 1, 3, 0, 0, 0, 0, []),
  (18, .iconst 0, 1, 0, 0, 0, 0, 0, []),
  (19, .ireturn, 1, 3, 0, 0, 0, 0, [])]
def mc87 : List mB := mc87_0
def mq87 : mM := (1, 6, mc87, ⟨"SlabPatternsLaw", "rules", "(LSlabPatterns;IIIII)I"⟩, method_6_code, 7, some .int, [(0, 11, 14, 13)], [0], "SlabPatternsLaw")
/-- SlabPatternsLaw.bar(LSlabPatterns;II[J)I -/
def mc88_0 : List mB := [(0, .aload_n 3, 1, 0, 1, 0, 0, 0, []),
  (1, .iconst 0, 1, 0, 0, 0, 0, 0, []),
  (2, .aload_n 0, 1, 0, 1, 0, 0, 0, []),
  (3, .iload_n 1, 1, 0, 1, 0, 0, 0, []),
  (4, .iload_n 2, 1, 0, 1, 0, 0, 0, []),
  (5, .invokevirtual 31, 3, 2, 6, 10, 3, 0, [450, 447, 448, 48, 449]),
  (8, .i2l, 1, 0, 4, 0, 0, 0, []),
  (9, .lastore, 1, 0, 9, 0, 0, 0, []),
  (10, .goto 11, 3, 0, 16, 21, 0, 0, []),
  (13, .astore 4, 2, 0, 2, 0, 0, 0, []),
  (15, .iconst 1, 1, 0, 0, 0, 0, 0, []),
  (16, .ireturn, 1, 3, 0, 0, 0, 0, []),
  (17, .astore 4, 2, 0, 2, 0, 0, 0, []),
  (19, .iconst 2, 1, 0, 0, 0, 0, 0, []),
  (20, .ireturn, 1, 3, 0, 0, 0, 0, []),
  (21, .iconst 0, 1, 0, 0, 0, 0, 0, []),
  (22, .ireturn, 1, 3, 0, 0, 0, 0, [])]
def mc88 : List mB := mc88_0
def mq88 : mM := (1, 6, mc88, ⟨"SlabPatternsLaw", "bar", "(LSlabPatterns;II[J)I"⟩, method_7_code, 5, some .int, [(0, 10, 13, 13), (0, 10, 17, 19)], [0, 3], "SlabPatternsLaw")
/-- SlabPatternsLaw.run(LSlabPatterns;I[J)I -/
def mc89_0 : List mB := [(0, .aload_n 2, 1, 0, 1, 0, 0, 0, []),
  (1, .iconst 0, 1, 0, 0, 0, 0, 0, []),
  (2, .aload_n 0, 1, 0, 1, 0, 0, 0, []),
  (3, .iload_n 1, 1, 0, 1, 0, 0, 0, []),
  (4, .invokevirtual 35, 3, 2, 6, 11, 2, 0, [466, 463, 464, 48, 465]),
  (7, .i2l, 1, 0, 4, 0, 0, 0, []),
  (8, .lastore, 1, 0, 9, 0, 0, 0, []),
  (9, .goto 6, 3, 0, 16, 15, 0, 0, []),
  (12, .astore_n 3, 1, 0, 2, 0, 0, 0, []),
  (13, .iconst 1, 1, 0, 0, 0, 0, 0, []),
  (14, .ireturn, 1, 3, 0, 0, 0, 0, []),
  (15, .iconst 0, 1, 0, 0, 0, 0, 0, []),
  (16, .ireturn, 1, 3, 0, 0, 0, 0, [])]
def mc89 : List mB := mc89_0
def mq89 : mM := (1, 6, mc89, ⟨"SlabPatternsLaw", "run", "(LSlabPatterns;I[J)I"⟩, method_8_code, 4, some .int, [(0, 9, 12, 13)], [0], "SlabPatternsLaw")
/-- SlabPatternsLaw.proved(LSlabPatterns;[J)I -/
def mc90_0 : List mB := [(0, .aload_n 1, 1, 0, 1, 0, 0, 0, []),
  (1, .iconst 0, 1, 0, 0, 0, 0, 0, []),
  (2, .aload_n 0, 1, 0, 1, 0, 0, 0, []),
  (3, .invokevirtual 39, 3, 2, 6, 12, 1, 0, [587, 584, 585, 48, 586]),
  (6, .ifCond .eq 7, 3, 1, 0, 13, 0, 0, []),
  (9, .lconst 1, 1, 0, 0, 0, 0, 0, []),
  (10, .goto 4, 3, 0, 16, 14, 0, 0, []),
  (13, .lconst 0, 1, 0, 0, 0, 0, 0, []),
  (14, .lastore, 1, 0, 9, 0, 0, 0, []),
  (15, .goto 6, 3, 0, 16, 21, 0, 0, []),
  (18, .astore_n 2, 1, 0, 2, 0, 0, 0, []),
  (19, .iconst 1, 1, 0, 0, 0, 0, 0, []),
  (20, .ireturn, 1, 3, 0, 0, 0, 0, []),
  (21, .iconst 0, 1, 0, 0, 0, 0, 0, []),
  (22, .ireturn, 1, 3, 0, 0, 0, 0, [])]
def mc90 : List mB := mc90_0
def mq90 : mM := (1, 6, mc90, ⟨"SlabPatternsLaw", "proved", "(LSlabPatterns;[J)I"⟩, method_9_code, 3, some .int, [(0, 15, 18, 43)], [1], "SlabPatternsLaw")
/-- SlabPatternsLaw.strips(LSlabPatterns;[J)I -/
def mc91_0 : List mB := [(0, .aload_n 1, 1, 0, 1, 0, 0, 0, []),
  (1, .iconst 0, 1, 0, 0, 0, 0, 0, []),
  (2, .aload_n 0, 1, 0, 1, 0, 0, 0, []),
  (3, .invokevirtual 45, 3, 2, 6, 14, 1, 0, [614, 611, 612, 48, 613]),
  (6, .i2l, 1, 0, 4, 0, 0, 0, []),
  (7, .lastore, 1, 0, 9, 0, 0, 0, []),
  (8, .goto 6, 3, 0, 16, 14, 0, 0, []),
  (11, .astore_n 2, 1, 0, 2, 0, 0, 0, []),
  (12, .iconst 1, 1, 0, 0, 0, 0, 0, []),
  (13, .ireturn, 1, 3, 0, 0, 0, 0, []),
  (14, .iconst 0, 1, 0, 0, 0, 0, 0, []),
  (15, .ireturn, 1, 3, 0, 0, 0, 0, [])]
def mc91 : List mB := mc91_0
def mq91 : mM := (1, 6, mc91, ⟨"SlabPatternsLaw", "strips", "(LSlabPatterns;[J)I"⟩, method_10_code, 3, some .int, [(0, 8, 11, 43)], [1], "SlabPatternsLaw")
/-- SlabPatternsLaw.strip(LSlabPatterns;II[J)I -/
def mc92_0 : List mB := [(0, .aload_n 3, 1, 0, 1, 0, 0, 0, []),
  (1, .iconst 0, 1, 0, 0, 0, 0, 0, []),
  (2, .aload_n 0, 1, 0, 1, 0, 0, 0, []),
  (3, .iload_n 1, 1, 0, 1, 0, 0, 0, []),
  (4, .iload_n 2, 1, 0, 1, 0, 0, 0, []),
  (5, .invokevirtual 49, 3, 2, 6, 15, 3, 0, [621, 618, 619, 48, 620]),
  (8, .i2l, 1, 0, 4, 0, 0, 0, []),
  (9, .lastore, 1, 0, 9, 0, 0, 0, []),
  (10, .goto 15, 3, 0, 16, 25, 0, 0, []),
  (13, .astore 4, 2, 0, 2, 0, 0, 0, []),
  (15, .iconst 1, 1, 0, 0, 0, 0, 0, []),
  (16, .ireturn, 1, 3, 0, 0, 0, 0, []),
  (17, .astore 4, 2, 0, 2, 0, 0, 0, []),
  (19, .iconst 2, 1, 0, 0, 0, 0, 0, []),
  (20, .ireturn, 1, 3, 0, 0, 0, 0, []),
  (21, .astore 4, 2, 0, 2, 0, 0, 0, []),
  (23, .iconst 3, 1, 0, 0, 0, 0, 0, []),
  (24, .ireturn, 1, 3, 0, 0, 0, 0, []),
  (25, .iconst 0, 1, 0, 0, 0, 0, 0, []),
  (26, .ireturn, 1, 3, 0, 0, 0, 0, [])]
def mc92 : List mB := mc92_0
def mq92 : mM := (2, 12, mc92, ⟨"SlabPatternsLaw", "strip", "(LSlabPatterns;II[J)I"⟩, method_11_code, 5, some .int, [(0, 10, 13, 25), (0, 10, 17, 43), (0, 10, 21, 13)], [2, 1, 0], "SlabPatternsLaw")
/-- SlabPatternsLaw.copies(LSlabPatterns;I[J)I -/
def mc93_0 : List mB := [(0, .aload_n 2, 1, 0, 1, 0, 0, 0, []),
  (1, .iconst 0, 1, 0, 0, 0, 0, 0, []),
  (2, .aload_n 0, 1, 0, 1, 0, 0, 0, []),
  (3, .iload_n 1, 1, 0, 1, 0, 0, 0, []),
  (4, .invokevirtual 52, 3, 2, 6, 16, 2, 0, [631, 628, 629, 48, 630]),
  (7, .i2l, 1, 0, 4, 0, 0, 0, []),
  (8, .lastore, 1, 0, 9, 0, 0, 0, []),
  (9, .goto 9, 3, 0, 16, 18, 0, 0, []),
  (12, .astore_n 3, 1, 0, 2, 0, 0, 0, []),
  (13, .iconst 1, 1, 0, 0, 0, 0, 0, []),
  (14, .ireturn, 1, 3, 0, 0, 0, 0, []),
  (15, .astore_n 3, 1, 0, 2, 0, 0, 0, []),
  (16, .iconst 2, 1, 0, 0, 0, 0, 0, []),
  (17, .ireturn, 1, 3, 0, 0, 0, 0, []),
  (18, .iconst 0, 1, 0, 0, 0, 0, 0, []),
  (19, .ireturn, 1, 3, 0, 0, 0, 0, [])]
def mc93 : List mB := mc93_0
def mq93 : mM := (1, 6, mc93, ⟨"SlabPatternsLaw", "copies", "(LSlabPatterns;I[J)I"⟩, method_12_code, 4, some .int, [(0, 9, 12, 25), (0, 9, 15, 43)], [2, 1], "SlabPatternsLaw")
/-- SlabPatternsLaw.rest(LSlabPatterns;I[J)I -/
def mc94_0 : List mB := [(0, .aload_n 2, 1, 0, 1, 0, 0, 0, []),
  (1, .iconst 0, 1, 0, 0, 0, 0, 0, []),
  (2, .aload_n 0, 1, 0, 1, 0, 0, 0, []),
  (3, .iload_n 1, 1, 0, 1, 0, 0, 0, []),
  (4, .invokevirtual 55, 3, 2, 6, 17, 2, 0, [642, 639, 640, 48, 641]),
  (7, .i2l, 1, 0, 4, 0, 0, 0, []),
  (8, .lastore, 1, 0, 9, 0, 0, 0, []),
  (9, .goto 9, 3, 0, 16, 18, 0, 0, []),
  (12, .astore_n 3, 1, 0, 2, 0, 0, 0, []),
  (13, .iconst 1, 1, 0, 0, 0, 0, 0, []),
  (14, .ireturn, 1, 3, 0, 0, 0, 0, []),
  (15, .astore_n 3, 1, 0, 2, 0, 0, 0, []),
  (16, .iconst 2, 1, 0, 0, 0, 0, 0, []),
  (17, .ireturn, 1, 3, 0, 0, 0, 0, []),
  (18, .iconst 0, 1, 0, 0, 0, 0, 0, []),
  (19, .ireturn, 1, 3, 0, 0, 0, 0, [])]
def mc94 : List mB := mc94_0
def mq94 : mM := (1, 6, mc94, ⟨"SlabPatternsLaw", "rest", "(LSlabPatterns;I[J)I"⟩, method_13_code, 4, some .int, [(0, 9, 12, 25), (0, 9, 15, 43)], [2, 1], "SlabPatternsLaw")
/-- SlabPatternsLaw.check(LSlabPatterns;[J)I -/
def mc95_0 : List mB := [(0, .aload_n 1, 1, 0, 1, 0, 0, 0, []),
  (1, .iconst 0, 1, 0, 0, 0, 0, 0, []),
  (2, .aload_n 0, 1, 0, 1, 0, 0, 0, []),
  (3, .invokevirtual 58, 3, 2, 6, 19, 1, 0, [656, 653, 654, 48, 655]),
  (6, .i2l, 1, 0, 4, 0, 0, 0, []),
  (7, .lastore, 1, 0, 9, 0, 0, 0, []),
  (8, .goto 6, 3, 0, 16, 14, 0, 0, []),
  (11, .astore_n 2, 1, 0, 2, 0, 0, 0, []),
  (12, .iconst 1, 1, 0, 0, 0, 0, 0, []),
  (13, .ireturn, 1, 3, 0, 0, 0, 0, []),
  (14, .iconst 0, 1, 0, 0, 0, 0, 0, []),
  (15, .ireturn, 1, 3, 0, 0, 0, 0, [])]
def mc95 : List mB := mc95_0
def mq95 : mM := (1, 6, mc95, ⟨"SlabPatternsLaw", "check", "(LSlabPatterns;[J)I"⟩, method_14_code, 3, some .int, [(0, 8, 11, 43)], [1], "SlabPatternsLaw")
def mmP : List mM := [mq0, mq1, mq2, mq3, mq4, mq5, mq6, mq7, mq8, mq9, mq10, mq11, mq12, mq13, mq14, mq15, mq16, mq17, mq18, mq19, mq20, mq21, mq22, mq23, mq24, mq25, mq26, mq27, mq28, mq29, mq30, mq31, mq32, mq33, mq34, mq35, mq36, mq37, mq38, mq39, mq40, mq41, mq42, mq43, mq44, mq45, mq46, mq47, mq48, mq49, mq50, mq51, mq52, mq53, mq54, mq55, mq56, mq57, mq58, mq59, mq60, mq61, mq62, mq63, mq64, mq65, mq66, mq67, mq68, mq69, mq70, mq71, mq72, mq73, mq74, mq75, mq76, mq77, mq78, mq79, mq80, mq81, mq82, mq83, mq84, mq85, mq86, mq87, mq88, mq89, mq90, mq91, mq92, mq93, mq94, mq95]
end
section
/-! the table of the code holds: decided by program (0) -/
set_option maxRecDepth 100000 in
theorem mr_0_0 : mc0_0.all (mm_ckB lw_tbl mmEx mmSx mmK mmP mq0) = true := by decide +kernel
end
section
/-! the table of the code holds: decided by program (1) -/
set_option maxRecDepth 100000 in
theorem mr_0_1 : mc0_1.all (mm_ckB lw_tbl mmEx mmSx mmK mmP mq0) = true := by decide +kernel
end
section
/-! the table of the code holds: decided by program (2) -/
set_option maxRecDepth 100000 in
theorem mr_0_2 : mc0_2.all (mm_ckB lw_tbl mmEx mmSx mmK mmP mq0) = true := by decide +kernel
end
section
/-! the table of the code holds: decided by program (3) -/
set_option maxRecDepth 100000 in
theorem mr_0_3 : mc0_3.all (mm_ckB lw_tbl mmEx mmSx mmK mmP mq0) = true := by decide +kernel
end
section
/-! the table of the code holds: decided by program (4) -/
set_option maxRecDepth 100000 in
theorem mr_0_4 : mc0_4.all (mm_ckB lw_tbl mmEx mmSx mmK mmP mq0) = true := by decide +kernel
end
section
/-! the table of the code holds: decided by program (5) -/
set_option maxRecDepth 100000 in
theorem mr_0_5 : mc0_5.all (mm_ckB lw_tbl mmEx mmSx mmK mmP mq0) = true := by decide +kernel
end
section
/-! the table of the code holds: decided by program (6) -/
set_option maxRecDepth 100000 in
theorem mr_0_6 : mc0_6.all (mm_ckB lw_tbl mmEx mmSx mmK mmP mq0) = true := by decide +kernel
end
section
/-! the table of the code holds: decided by program (7) -/
set_option maxRecDepth 100000 in
theorem mr_0_7 : mc0_7.all (mm_ckB lw_tbl mmEx mmSx mmK mmP mq0) = true := by decide +kernel
end
section
/-! the table of the code holds: decided by program (8) -/
set_option maxRecDepth 100000 in
theorem mr_0_8 : mc0_8.all (mm_ckB lw_tbl mmEx mmSx mmK mmP mq0) = true := by decide +kernel
end
section
/-! the table of the code holds: decided by program (9) -/
set_option maxRecDepth 100000 in
theorem mr_0_9 : mc0_9.all (mm_ckB lw_tbl mmEx mmSx mmK mmP mq0) = true := by decide +kernel
end
section
/-! the table of the code holds: decided by program (10) -/
set_option maxRecDepth 100000 in
theorem mr_0_10 : mc0_10.all (mm_ckB lw_tbl mmEx mmSx mmK mmP mq0) = true := by decide +kernel
end
section
/-! the table of the code holds: decided by program (11) -/
set_option maxRecDepth 100000 in
theorem mr_0_11 : mc0_11.all (mm_ckB lw_tbl mmEx mmSx mmK mmP mq0) = true := by decide +kernel
end
section
/-! the table of the code holds: decided by program (12) -/
set_option maxRecDepth 100000 in
theorem mr_0_12 : mc0_12.all (mm_ckB lw_tbl mmEx mmSx mmK mmP mq0) = true := by decide +kernel
end
section
/-! the table of the code holds: decided by program (13) -/
set_option maxRecDepth 100000 in
theorem mr_0_13 : mc0_13.all (mm_ckB lw_tbl mmEx mmSx mmK mmP mq0) = true := by decide +kernel
set_option maxRecDepth 100000 in
theorem mr_1_0 : mc1_0.all (mm_ckB lw_tbl mmEx mmSx mmK mmP mq1) = true := by decide +kernel
set_option maxRecDepth 100000 in
theorem mr_2_0 : mc2_0.all (mm_ckB lw_tbl mmEx mmSx mmK mmP mq2) = true := by decide +kernel
set_option maxRecDepth 100000 in
theorem mr_3_0 : mc3_0.all (mm_ckB lw_tbl mmEx mmSx mmK mmP mq3) = true := by decide +kernel
set_option maxRecDepth 100000 in
theorem mr_4_0 : mc4_0.all (mm_ckB lw_tbl mmEx mmSx mmK mmP mq4) = true := by decide +kernel
set_option maxRecDepth 100000 in
theorem mr_5_0 : mc5_0.all (mm_ckB lw_tbl mmEx mmSx mmK mmP mq5) = true := by decide +kernel
set_option maxRecDepth 100000 in
theorem mr_6_0 : mc6_0.all (mm_ckB lw_tbl mmEx mmSx mmK mmP mq6) = true := by decide +kernel
set_option maxRecDepth 100000 in
theorem mr_7_0 : mc7_0.all (mm_ckB lw_tbl mmEx mmSx mmK mmP mq7) = true := by decide +kernel
set_option maxRecDepth 100000 in
theorem mr_8_0 : mc8_0.all (mm_ckB lw_tbl mmEx mmSx mmK mmP mq8) = true := by decide +kernel
end
section
/-! the table of the code holds: decided by program (14) -/
set_option maxRecDepth 100000 in
theorem mr_9_0 : mc9_0.all (mm_ckB lw_tbl mmEx mmSx mmK mmP mq9) = true := by decide +kernel
set_option maxRecDepth 100000 in
theorem mr_9_1 : mc9_1.all (mm_ckB lw_tbl mmEx mmSx mmK mmP mq9) = true := by decide +kernel
set_option maxRecDepth 100000 in
theorem mr_10_0 : mc10_0.all (mm_ckB lw_tbl mmEx mmSx mmK mmP mq10) = true := by decide +kernel
set_option maxRecDepth 100000 in
theorem mr_11_0 : mc11_0.all (mm_ckB lw_tbl mmEx mmSx mmK mmP mq11) = true := by decide +kernel
set_option maxRecDepth 100000 in
theorem mr_12_0 : mc12_0.all (mm_ckB lw_tbl mmEx mmSx mmK mmP mq12) = true := by decide +kernel
set_option maxRecDepth 100000 in
theorem mr_13_0 : mc13_0.all (mm_ckB lw_tbl mmEx mmSx mmK mmP mq13) = true := by decide +kernel
set_option maxRecDepth 100000 in
theorem mr_14_0 : mc14_0.all (mm_ckB lw_tbl mmEx mmSx mmK mmP mq14) = true := by decide +kernel
end
section
/-! the table of the code holds: decided by program (15) -/
set_option maxRecDepth 100000 in
theorem mr_15_0 : mc15_0.all (mm_ckB lw_tbl mmEx mmSx mmK mmP mq15) = true := by decide +kernel
set_option maxRecDepth 100000 in
theorem mr_15_1 : mc15_1.all (mm_ckB lw_tbl mmEx mmSx mmK mmP mq15) = true := by decide +kernel
set_option maxRecDepth 100000 in
theorem mr_16_0 : mc16_0.all (mm_ckB lw_tbl mmEx mmSx mmK mmP mq16) = true := by decide +kernel
set_option maxRecDepth 100000 in
theorem mr_17_0 : mc17_0.all (mm_ckB lw_tbl mmEx mmSx mmK mmP mq17) = true := by decide +kernel
set_option maxRecDepth 100000 in
theorem mr_18_0 : mc18_0.all (mm_ckB lw_tbl mmEx mmSx mmK mmP mq18) = true := by decide +kernel
set_option maxRecDepth 100000 in
theorem mr_19_0 : mc19_0.all (mm_ckB lw_tbl mmEx mmSx mmK mmP mq19) = true := by decide +kernel
set_option maxRecDepth 100000 in
theorem mr_20_0 : mc20_0.all (mm_ckB lw_tbl mmEx mmSx mmK mmP mq20) = true := by decide +kernel
end
section
/-! the table of the code holds: decided by program (16) -/
set_option maxRecDepth 100000 in
theorem mr_21_0 : mc21_0.all (mm_ckB lw_tbl mmEx mmSx mmK mmP mq21) = true := by decide +kernel
set_option maxRecDepth 100000 in
theorem mr_21_1 : mc21_1.all (mm_ckB lw_tbl mmEx mmSx mmK mmP mq21) = true := by decide +kernel
set_option maxRecDepth 100000 in
theorem mr_22_0 : mc22_0.all (mm_ckB lw_tbl mmEx mmSx mmK mmP mq22) = true := by decide +kernel
set_option maxRecDepth 100000 in
theorem mr_23_0 : mc23_0.all (mm_ckB lw_tbl mmEx mmSx mmK mmP mq23) = true := by decide +kernel
set_option maxRecDepth 100000 in
theorem mr_24_0 : mc24_0.all (mm_ckB lw_tbl mmEx mmSx mmK mmP mq24) = true := by decide +kernel
set_option maxRecDepth 100000 in
theorem mr_25_0 : mc25_0.all (mm_ckB lw_tbl mmEx mmSx mmK mmP mq25) = true := by decide +kernel
set_option maxRecDepth 100000 in
theorem mr_26_0 : mc26_0.all (mm_ckB lw_tbl mmEx mmSx mmK mmP mq26) = true := by decide +kernel
set_option maxRecDepth 100000 in
theorem mr_27_0 : mc27_0.all (mm_ckB lw_tbl mmEx mmSx mmK mmP mq27) = true := by decide +kernel
end
section
/-! the table of the code holds: decided by program (17) -/
set_option maxRecDepth 100000 in
theorem mr_28_0 : mc28_0.all (mm_ckB lw_tbl mmEx mmSx mmK mmP mq28) = true := by decide +kernel
set_option maxRecDepth 100000 in
theorem mr_28_1 : mc28_1.all (mm_ckB lw_tbl mmEx mmSx mmK mmP mq28) = true := by decide +kernel
set_option maxRecDepth 100000 in
theorem mr_29_0 : mc29_0.all (mm_ckB lw_tbl mmEx mmSx mmK mmP mq29) = true := by decide +kernel
set_option maxRecDepth 100000 in
theorem mr_30_0 : mc30_0.all (mm_ckB lw_tbl mmEx mmSx mmK mmP mq30) = true := by decide +kernel
set_option maxRecDepth 100000 in
theorem mr_31_0 : mc31_0.all (mm_ckB lw_tbl mmEx mmSx mmK mmP mq31) = true := by decide +kernel
set_option maxRecDepth 100000 in
theorem mr_32_0 : mc32_0.all (mm_ckB lw_tbl mmEx mmSx mmK mmP mq32) = true := by decide +kernel
set_option maxRecDepth 100000 in
theorem mr_33_0 : mc33_0.all (mm_ckB lw_tbl mmEx mmSx mmK mmP mq33) = true := by decide +kernel
set_option maxRecDepth 100000 in
theorem mr_34_0 : mc34_0.all (mm_ckB lw_tbl mmEx mmSx mmK mmP mq34) = true := by decide +kernel
set_option maxRecDepth 100000 in
theorem mr_35_0 : mc35_0.all (mm_ckB lw_tbl mmEx mmSx mmK mmP mq35) = true := by decide +kernel
end
section
/-! the table of the code holds: decided by program (18) -/
set_option maxRecDepth 100000 in
theorem mr_36_0 : mc36_0.all (mm_ckB lw_tbl mmEx mmSx mmK mmP mq36) = true := by decide +kernel
set_option maxRecDepth 100000 in
theorem mr_36_1 : mc36_1.all (mm_ckB lw_tbl mmEx mmSx mmK mmP mq36) = true := by decide +kernel
set_option maxRecDepth 100000 in
theorem mr_37_0 : mc37_0.all (mm_ckB lw_tbl mmEx mmSx mmK mmP mq37) = true := by decide +kernel
set_option maxRecDepth 100000 in
theorem mr_38_0 : mc38_0.all (mm_ckB lw_tbl mmEx mmSx mmK mmP mq38) = true := by decide +kernel
set_option maxRecDepth 100000 in
theorem mr_39_0 : mc39_0.all (mm_ckB lw_tbl mmEx mmSx mmK mmP mq39) = true := by decide +kernel
set_option maxRecDepth 100000 in
theorem mr_39_1 : mc39_1.all (mm_ckB lw_tbl mmEx mmSx mmK mmP mq39) = true := by decide +kernel
end
section
/-! the table of the code holds: decided by program (19) -/
set_option maxRecDepth 100000 in
theorem mr_40_0 : mc40_0.all (mm_ckB lw_tbl mmEx mmSx mmK mmP mq40) = true := by decide +kernel
set_option maxRecDepth 100000 in
theorem mr_40_1 : mc40_1.all (mm_ckB lw_tbl mmEx mmSx mmK mmP mq40) = true := by decide +kernel
set_option maxRecDepth 100000 in
theorem mr_41_0 : mc41_0.all (mm_ckB lw_tbl mmEx mmSx mmK mmP mq41) = true := by decide +kernel
set_option maxRecDepth 100000 in
theorem mr_41_1 : mc41_1.all (mm_ckB lw_tbl mmEx mmSx mmK mmP mq41) = true := by decide +kernel
set_option maxRecDepth 100000 in
theorem mr_42_0 : mc42_0.all (mm_ckB lw_tbl mmEx mmSx mmK mmP mq42) = true := by decide +kernel
set_option maxRecDepth 100000 in
theorem mr_43_0 : mc43_0.all (mm_ckB lw_tbl mmEx mmSx mmK mmP mq43) = true := by decide +kernel
set_option maxRecDepth 100000 in
theorem mr_44_0 : mc44_0.all (mm_ckB lw_tbl mmEx mmSx mmK mmP mq44) = true := by decide +kernel
end
section
/-! the table of the code holds: decided by program (20) -/
set_option maxRecDepth 100000 in
theorem mr_45_0 : mc45_0.all (mm_ckB lw_tbl mmEx mmSx mmK mmP mq45) = true := by decide +kernel
set_option maxRecDepth 100000 in
theorem mr_45_1 : mc45_1.all (mm_ckB lw_tbl mmEx mmSx mmK mmP mq45) = true := by decide +kernel
end
section
/-! the table of the code holds: decided by program (21) -/
set_option maxRecDepth 100000 in
theorem mr_45_2 : mc45_2.all (mm_ckB lw_tbl mmEx mmSx mmK mmP mq45) = true := by decide +kernel
set_option maxRecDepth 100000 in
theorem mr_45_3 : mc45_3.all (mm_ckB lw_tbl mmEx mmSx mmK mmP mq45) = true := by decide +kernel
set_option maxRecDepth 100000 in
theorem mr_46_0 : mc46_0.all (mm_ckB lw_tbl mmEx mmSx mmK mmP mq46) = true := by decide +kernel
set_option maxRecDepth 100000 in
theorem mr_47_0 : mc47_0.all (mm_ckB lw_tbl mmEx mmSx mmK mmP mq47) = true := by decide +kernel
end
section
/-! the table of the code holds: decided by program (22) -/
set_option maxRecDepth 100000 in
theorem mr_48_0 : mc48_0.all (mm_ckB lw_tbl mmEx mmSx mmK mmP mq48) = true := by decide +kernel
set_option maxRecDepth 100000 in
theorem mr_48_1 : mc48_1.all (mm_ckB lw_tbl mmEx mmSx mmK mmP mq48) = true := by decide +kernel
set_option maxRecDepth 100000 in
theorem mr_49_0 : mc49_0.all (mm_ckB lw_tbl mmEx mmSx mmK mmP mq49) = true := by decide +kernel
set_option maxRecDepth 100000 in
theorem mr_49_1 : mc49_1.all (mm_ckB lw_tbl mmEx mmSx mmK mmP mq49) = true := by decide +kernel
set_option maxRecDepth 100000 in
theorem mr_50_0 : mc50_0.all (mm_ckB lw_tbl mmEx mmSx mmK mmP mq50) = true := by decide +kernel
set_option maxRecDepth 100000 in
theorem mr_51_0 : mc51_0.all (mm_ckB lw_tbl mmEx mmSx mmK mmP mq51) = true := by decide +kernel
set_option maxRecDepth 100000 in
theorem mr_52_0 : mc52_0.all (mm_ckB lw_tbl mmEx mmSx mmK mmP mq52) = true := by decide +kernel
end
section
/-! the table of the code holds: decided by program (23) -/
set_option maxRecDepth 100000 in
theorem mr_53_0 : mc53_0.all (mm_ckB lw_tbl mmEx mmSx mmK mmP mq53) = true := by decide +kernel
set_option maxRecDepth 100000 in
theorem mr_53_1 : mc53_1.all (mm_ckB lw_tbl mmEx mmSx mmK mmP mq53) = true := by decide +kernel
set_option maxRecDepth 100000 in
theorem mr_54_0 : mc54_0.all (mm_ckB lw_tbl mmEx mmSx mmK mmP mq54) = true := by decide +kernel
set_option maxRecDepth 100000 in
theorem mr_55_0 : mc55_0.all (mm_ckB lw_tbl mmEx mmSx mmK mmP mq55) = true := by decide +kernel
set_option maxRecDepth 100000 in
theorem mr_56_0 : mc56_0.all (mm_ckB lw_tbl mmEx mmSx mmK mmP mq56) = true := by decide +kernel
end
section
/-! the table of the code holds: decided by program (24) -/
set_option maxRecDepth 100000 in
theorem mr_56_1 : mc56_1.all (mm_ckB lw_tbl mmEx mmSx mmK mmP mq56) = true := by decide +kernel
set_option maxRecDepth 100000 in
theorem mr_56_2 : mc56_2.all (mm_ckB lw_tbl mmEx mmSx mmK mmP mq56) = true := by decide +kernel
set_option maxRecDepth 100000 in
theorem mr_57_0 : mc57_0.all (mm_ckB lw_tbl mmEx mmSx mmK mmP mq57) = true := by decide +kernel
set_option maxRecDepth 100000 in
theorem mr_57_1 : mc57_1.all (mm_ckB lw_tbl mmEx mmSx mmK mmP mq57) = true := by decide +kernel
set_option maxRecDepth 100000 in
theorem mr_57_2 : mc57_2.all (mm_ckB lw_tbl mmEx mmSx mmK mmP mq57) = true := by decide +kernel
set_option maxRecDepth 100000 in
theorem mr_58_0 : mc58_0.all (mm_ckB lw_tbl mmEx mmSx mmK mmP mq58) = true := by decide +kernel
end
section
/-! the table of the code holds: decided by program (25) -/
set_option maxRecDepth 100000 in
theorem mr_59_0 : mc59_0.all (mm_ckB lw_tbl mmEx mmSx mmK mmP mq59) = true := by decide +kernel
set_option maxRecDepth 100000 in
theorem mr_60_0 : mc60_0.all (mm_ckB lw_tbl mmEx mmSx mmK mmP mq60) = true := by decide +kernel
set_option maxRecDepth 100000 in
theorem mr_61_0 : mc61_0.all (mm_ckB lw_tbl mmEx mmSx mmK mmP mq61) = true := by decide +kernel
set_option maxRecDepth 100000 in
theorem mr_62_0 : mc62_0.all (mm_ckB lw_tbl mmEx mmSx mmK mmP mq62) = true := by decide +kernel
set_option maxRecDepth 100000 in
theorem mr_63_0 : mc63_0.all (mm_ckB lw_tbl mmEx mmSx mmK mmP mq63) = true := by decide +kernel
set_option maxRecDepth 100000 in
theorem mr_63_1 : mc63_1.all (mm_ckB lw_tbl mmEx mmSx mmK mmP mq63) = true := by decide +kernel
end
section
/-! the table of the code holds: decided by program (26) -/
set_option maxRecDepth 100000 in
theorem mr_63_2 : mc63_2.all (mm_ckB lw_tbl mmEx mmSx mmK mmP mq63) = true := by decide +kernel
set_option maxRecDepth 100000 in
theorem mr_64_0 : mc64_0.all (mm_ckB lw_tbl mmEx mmSx mmK mmP mq64) = true := by decide +kernel
set_option maxRecDepth 100000 in
theorem mr_65_0 : mc65_0.all (mm_ckB lw_tbl mmEx mmSx mmK mmP mq65) = true := by decide +kernel
set_option maxRecDepth 100000 in
theorem mr_66_0 : mc66_0.all (mm_ckB lw_tbl mmEx mmSx mmK mmP mq66) = true := by decide +kernel
set_option maxRecDepth 100000 in
theorem mr_66_1 : mc66_1.all (mm_ckB lw_tbl mmEx mmSx mmK mmP mq66) = true := by decide +kernel
set_option maxRecDepth 100000 in
theorem mr_67_0 : mc67_0.all (mm_ckB lw_tbl mmEx mmSx mmK mmP mq67) = true := by decide +kernel
set_option maxRecDepth 100000 in
theorem mr_67_1 : mc67_1.all (mm_ckB lw_tbl mmEx mmSx mmK mmP mq67) = true := by decide +kernel
end
section
/-! the table of the code holds: decided by program (27) -/
set_option maxRecDepth 100000 in
theorem mr_68_0 : mc68_0.all (mm_ckB lw_tbl mmEx mmSx mmK mmP mq68) = true := by decide +kernel
end
section
/-! the table of the code holds: decided by program (28) -/
set_option maxRecDepth 100000 in
theorem mr_68_1 : mc68_1.all (mm_ckB lw_tbl mmEx mmSx mmK mmP mq68) = true := by decide +kernel
end
section
/-! the table of the code holds: decided by program (29) -/
set_option maxRecDepth 100000 in
theorem mr_68_2 : mc68_2.all (mm_ckB lw_tbl mmEx mmSx mmK mmP mq68) = true := by decide +kernel
end
section
/-! the table of the code holds: decided by program (30) -/
set_option maxRecDepth 100000 in
theorem mr_68_3 : mc68_3.all (mm_ckB lw_tbl mmEx mmSx mmK mmP mq68) = true := by decide +kernel
end
section
/-! the table of the code holds: decided by program (31) -/
set_option maxRecDepth 100000 in
theorem mr_68_4 : mc68_4.all (mm_ckB lw_tbl mmEx mmSx mmK mmP mq68) = true := by decide +kernel
set_option maxRecDepth 100000 in
theorem mr_68_5 : mc68_5.all (mm_ckB lw_tbl mmEx mmSx mmK mmP mq68) = true := by decide +kernel
end
section
/-! the table of the code holds: decided by program (32) -/
set_option maxRecDepth 100000 in
theorem mr_69_0 : mc69_0.all (mm_ckB lw_tbl mmEx mmSx mmK mmP mq69) = true := by decide +kernel
set_option maxRecDepth 100000 in
theorem mr_69_1 : mc69_1.all (mm_ckB lw_tbl mmEx mmSx mmK mmP mq69) = true := by decide +kernel
set_option maxRecDepth 100000 in
theorem mr_70_0 : mc70_0.all (mm_ckB lw_tbl mmEx mmSx mmK mmP mq70) = true := by decide +kernel
set_option maxRecDepth 100000 in
theorem mr_71_0 : mc71_0.all (mm_ckB lw_tbl mmEx mmSx mmK mmP mq71) = true := by decide +kernel
set_option maxRecDepth 100000 in
theorem mr_72_0 : mc72_0.all (mm_ckB lw_tbl mmEx mmSx mmK mmP mq72) = true := by decide +kernel
set_option maxRecDepth 100000 in
theorem mr_73_0 : mc73_0.all (mm_ckB lw_tbl mmEx mmSx mmK mmP mq73) = true := by decide +kernel
end
section
/-! the table of the code holds: decided by program (33) -/
set_option maxRecDepth 100000 in
theorem mr_74_0 : mc74_0.all (mm_ckB lw_tbl mmEx mmSx mmK mmP mq74) = true := by decide +kernel
set_option maxRecDepth 100000 in
theorem mr_74_1 : mc74_1.all (mm_ckB lw_tbl mmEx mmSx mmK mmP mq74) = true := by decide +kernel
set_option maxRecDepth 100000 in
theorem mr_75_0 : mc75_0.all (mm_ckB lw_tbl mmEx mmSx mmK mmP mq75) = true := by decide +kernel
set_option maxRecDepth 100000 in
theorem mr_75_1 : mc75_1.all (mm_ckB lw_tbl mmEx mmSx mmK mmP mq75) = true := by decide +kernel
end
section
/-! the table of the code holds: decided by program (34) -/
set_option maxRecDepth 100000 in
theorem mr_76_0 : mc76_0.all (mm_ckB lw_tbl mmEx mmSx mmK mmP mq76) = true := by decide +kernel
set_option maxRecDepth 100000 in
theorem mr_76_1 : mc76_1.all (mm_ckB lw_tbl mmEx mmSx mmK mmP mq76) = true := by decide +kernel
set_option maxRecDepth 100000 in
theorem mr_77_0 : mc77_0.all (mm_ckB lw_tbl mmEx mmSx mmK mmP mq77) = true := by decide +kernel
set_option maxRecDepth 100000 in
theorem mr_78_0 : mc78_0.all (mm_ckB lw_tbl mmEx mmSx mmK mmP mq78) = true := by decide +kernel
set_option maxRecDepth 100000 in
theorem mr_79_0 : mc79_0.all (mm_ckB lw_tbl mmEx mmSx mmK mmP mq79) = true := by decide +kernel
set_option maxRecDepth 100000 in
theorem mr_79_1 : mc79_1.all (mm_ckB lw_tbl mmEx mmSx mmK mmP mq79) = true := by decide +kernel
end
section
/-! the table of the code holds: decided by program (35) -/
set_option maxRecDepth 100000 in
theorem mr_80_0 : mc80_0.all (mm_ckB lw_tbl mmEx mmSx mmK mmP mq80) = true := by decide +kernel
set_option maxRecDepth 100000 in
theorem mr_81_0 : mc81_0.all (mm_ckB lw_tbl mmEx mmSx mmK mmP mq81) = true := by decide +kernel
set_option maxRecDepth 100000 in
theorem mr_81_1 : mc81_1.all (mm_ckB lw_tbl mmEx mmSx mmK mmP mq81) = true := by decide +kernel
set_option maxRecDepth 100000 in
theorem mr_82_0 : mc82_0.all (mm_ckB lw_tbl mmEx mmSx mmK mmP mq82) = true := by decide +kernel
end
section
/-! the table of the code holds: decided by program (36) -/
set_option maxRecDepth 100000 in
theorem mr_82_1 : mc82_1.all (mm_ckB lw_tbl mmEx mmSx mmK mmP mq82) = true := by decide +kernel
set_option maxRecDepth 100000 in
theorem mr_82_2 : mc82_2.all (mm_ckB lw_tbl mmEx mmSx mmK mmP mq82) = true := by decide +kernel
set_option maxRecDepth 100000 in
theorem mr_83_0 : mc83_0.all (mm_ckB lw_tbl mmEx mmSx mmK mmP mq83) = true := by decide +kernel
set_option maxRecDepth 100000 in
theorem mr_84_0 : mc84_0.all (mm_ckB lw_tbl mmEx mmSx mmK mmP mq84) = true := by decide +kernel
end
section
/-! the table of the code holds: decided by program (37) -/
set_option maxRecDepth 100000 in
theorem mr_85_0 : mc85_0.all (mm_ckB lw_tbl mmEx mmSx mmK mmP mq85) = true := by decide +kernel
set_option maxRecDepth 100000 in
theorem mr_86_0 : mc86_0.all (mm_ckB lw_tbl mmEx mmSx mmK mmP mq86) = true := by decide +kernel
set_option maxRecDepth 100000 in
theorem mr_87_0 : mc87_0.all (mm_ckB lw_tbl mmEx mmSx mmK mmP mq87) = true := by decide +kernel
set_option maxRecDepth 100000 in
theorem mr_88_0 : mc88_0.all (mm_ckB lw_tbl mmEx mmSx mmK mmP mq88) = true := by decide +kernel
set_option maxRecDepth 100000 in
theorem mr_89_0 : mc89_0.all (mm_ckB lw_tbl mmEx mmSx mmK mmP mq89) = true := by decide +kernel
set_option maxRecDepth 100000 in
theorem mr_90_0 : mc90_0.all (mm_ckB lw_tbl mmEx mmSx mmK mmP mq90) = true := by decide +kernel
set_option maxRecDepth 100000 in
theorem mr_91_0 : mc91_0.all (mm_ckB lw_tbl mmEx mmSx mmK mmP mq91) = true := by decide +kernel
set_option maxRecDepth 100000 in
theorem mr_92_0 : mc92_0.all (mm_ckB lw_tbl mmEx mmSx mmK mmP mq92) = true := by decide +kernel
set_option maxRecDepth 100000 in
theorem mr_93_0 : mc93_0.all (mm_ckB lw_tbl mmEx mmSx mmK mmP mq93) = true := by decide +kernel
set_option maxRecDepth 100000 in
theorem mr_94_0 : mc94_0.all (mm_ckB lw_tbl mmEx mmSx mmK mmP mq94) = true := by decide +kernel
set_option maxRecDepth 100000 in
theorem mr_95_0 : mc95_0.all (mm_ckB lw_tbl mmEx mmSx mmK mmP mq95) = true := by decide +kernel
end
section
/-! all of it -/
set_option maxRecDepth 100000 in
theorem mk_K : mmK.all (mm_ckK (lw_tbl.filter goodWord)) = true := by decide +kernel
set_option maxRecDepth 100000 in
theorem mk_arr : ∀ ty ∈ ([.int, .boolean, .long] : List FieldType), Cond.arrayClass ty ∈ lw_tbl.filter goodWord := by decide +kernel
set_option maxRecDepth 100000 in
theorem mk_cast : ∀ i, i < mmEx.length → Cond.castable (mmEx.getD i "") (mmEx.getD i "") ∈ lw_tbl.filter mx_isC := by decide +kernel
theorem mm_ckM_of {Tb : List Cond} {Ex : List String} {Sx : List (String × Nat × String)} {K : mK} {P : List mM} {q : mM} {r : Bool} (hr : mm_ckM Tb Ex Sx K P q = (q.2.2.1.all (mm_ckB Tb Ex Sx K P q) && r)) (h1 : q.2.2.1.all (mm_ckB Tb Ex Sx K P q) = true) (h2 : r = true) : mm_ckM Tb Ex Sx K P q = true := by
  rw [hr, h1, h2]
  rfl
theorem mm_all2 {a b : List mB} {f : mB → Bool} (h : a.all f = true) (h2 : b.all f = true) : (a ++ b).all f = true := by
  rw [List.all_append, h, h2]
  rfl
set_option maxRecDepth 100000 in
theorem mk_0 : mm_ckM lw_tbl mmEx mmSx mmK mmP mq0 = true := mm_ckM_of (q := mq0) rfl (mm_all2 mr_0_0 (mm_all2 mr_0_1 (mm_all2 mr_0_2 (mm_all2 mr_0_3 (mm_all2 mr_0_4 (mm_all2 mr_0_5 (mm_all2 mr_0_6 (mm_all2 mr_0_7 (mm_all2 mr_0_8 (mm_all2 mr_0_9 (mm_all2 mr_0_10 (mm_all2 mr_0_11 (mm_all2 mr_0_12 mr_0_13))))))))))))) (by decide +kernel)
set_option maxRecDepth 100000 in
theorem mk_1 : mm_ckM lw_tbl mmEx mmSx mmK mmP mq1 = true := mm_ckM_of (q := mq1) rfl mr_1_0 (by decide +kernel)
set_option maxRecDepth 100000 in
theorem mk_2 : mm_ckM lw_tbl mmEx mmSx mmK mmP mq2 = true := mm_ckM_of (q := mq2) rfl mr_2_0 (by decide +kernel)
set_option maxRecDepth 100000 in
theorem mk_3 : mm_ckM lw_tbl mmEx mmSx mmK mmP mq3 = true := mm_ckM_of (q := mq3) rfl mr_3_0 (by decide +kernel)
set_option maxRecDepth 100000 in
theorem mk_4 : mm_ckM lw_tbl mmEx mmSx mmK mmP mq4 = true := mm_ckM_of (q := mq4) rfl mr_4_0 (by decide +kernel)
set_option maxRecDepth 100000 in
theorem mk_5 : mm_ckM lw_tbl mmEx mmSx mmK mmP mq5 = true := mm_ckM_of (q := mq5) rfl mr_5_0 (by decide +kernel)
set_option maxRecDepth 100000 in
theorem mk_6 : mm_ckM lw_tbl mmEx mmSx mmK mmP mq6 = true := mm_ckM_of (q := mq6) rfl mr_6_0 (by decide +kernel)
set_option maxRecDepth 100000 in
theorem mk_7 : mm_ckM lw_tbl mmEx mmSx mmK mmP mq7 = true := mm_ckM_of (q := mq7) rfl mr_7_0 (by decide +kernel)
set_option maxRecDepth 100000 in
theorem mk_8 : mm_ckM lw_tbl mmEx mmSx mmK mmP mq8 = true := mm_ckM_of (q := mq8) rfl mr_8_0 (by decide +kernel)
set_option maxRecDepth 100000 in
theorem mk_9 : mm_ckM lw_tbl mmEx mmSx mmK mmP mq9 = true := mm_ckM_of (q := mq9) rfl (mm_all2 mr_9_0 mr_9_1) (by decide +kernel)
set_option maxRecDepth 100000 in
theorem mk_10 : mm_ckM lw_tbl mmEx mmSx mmK mmP mq10 = true := mm_ckM_of (q := mq10) rfl mr_10_0 (by decide +kernel)
set_option maxRecDepth 100000 in
theorem mk_11 : mm_ckM lw_tbl mmEx mmSx mmK mmP mq11 = true := mm_ckM_of (q := mq11) rfl mr_11_0 (by decide +kernel)
set_option maxRecDepth 100000 in
theorem mk_12 : mm_ckM lw_tbl mmEx mmSx mmK mmP mq12 = true := mm_ckM_of (q := mq12) rfl mr_12_0 (by decide +kernel)
set_option maxRecDepth 100000 in
theorem mk_13 : mm_ckM lw_tbl mmEx mmSx mmK mmP mq13 = true := mm_ckM_of (q := mq13) rfl mr_13_0 (by decide +kernel)
set_option maxRecDepth 100000 in
theorem mk_14 : mm_ckM lw_tbl mmEx mmSx mmK mmP mq14 = true := mm_ckM_of (q := mq14) rfl mr_14_0 (by decide +kernel)
set_option maxRecDepth 100000 in
theorem mk_15 : mm_ckM lw_tbl mmEx mmSx mmK mmP mq15 = true := mm_ckM_of (q := mq15) rfl (mm_all2 mr_15_0 mr_15_1) (by decide +kernel)
set_option maxRecDepth 100000 in
theorem mk_16 : mm_ckM lw_tbl mmEx mmSx mmK mmP mq16 = true := mm_ckM_of (q := mq16) rfl mr_16_0 (by decide +kernel)
set_option maxRecDepth 100000 in
theorem mk_17 : mm_ckM lw_tbl mmEx mmSx mmK mmP mq17 = true := mm_ckM_of (q := mq17) rfl mr_17_0 (by decide +kernel)
set_option maxRecDepth 100000 in
theorem mk_18 : mm_ckM lw_tbl mmEx mmSx mmK mmP mq18 = true := mm_ckM_of (q := mq18) rfl mr_18_0 (by decide +kernel)
set_option maxRecDepth 100000 in
theorem mk_19 : mm_ckM lw_tbl mmEx mmSx mmK mmP mq19 = true := mm_ckM_of (q := mq19) rfl mr_19_0 (by decide +kernel)
set_option maxRecDepth 100000 in
theorem mk_20 : mm_ckM lw_tbl mmEx mmSx mmK mmP mq20 = true := mm_ckM_of (q := mq20) rfl mr_20_0 (by decide +kernel)
set_option maxRecDepth 100000 in
theorem mk_21 : mm_ckM lw_tbl mmEx mmSx mmK mmP mq21 = true := mm_ckM_of (q := mq21) rfl (mm_all2 mr_21_0 mr_21_1) (by decide +kernel)
set_option maxRecDepth 100000 in
theorem mk_22 : mm_ckM lw_tbl mmEx mmSx mmK mmP mq22 = true := mm_ckM_of (q := mq22) rfl mr_22_0 (by decide +kernel)
set_option maxRecDepth 100000 in
theorem mk_23 : mm_ckM lw_tbl mmEx mmSx mmK mmP mq23 = true := mm_ckM_of (q := mq23) rfl mr_23_0 (by decide +kernel)
set_option maxRecDepth 100000 in
theorem mk_24 : mm_ckM lw_tbl mmEx mmSx mmK mmP mq24 = true := mm_ckM_of (q := mq24) rfl mr_24_0 (by decide +kernel)
set_option maxRecDepth 100000 in
theorem mk_25 : mm_ckM lw_tbl mmEx mmSx mmK mmP mq25 = true := mm_ckM_of (q := mq25) rfl mr_25_0 (by decide +kernel)
set_option maxRecDepth 100000 in
theorem mk_26 : mm_ckM lw_tbl mmEx mmSx mmK mmP mq26 = true := mm_ckM_of (q := mq26) rfl mr_26_0 (by decide +kernel)
set_option maxRecDepth 100000 in
theorem mk_27 : mm_ckM lw_tbl mmEx mmSx mmK mmP mq27 = true := mm_ckM_of (q := mq27) rfl mr_27_0 (by decide +kernel)
set_option maxRecDepth 100000 in
theorem mk_28 : mm_ckM lw_tbl mmEx mmSx mmK mmP mq28 = true := mm_ckM_of (q := mq28) rfl (mm_all2 mr_28_0 mr_28_1) (by decide +kernel)
set_option maxRecDepth 100000 in
theorem mk_29 : mm_ckM lw_tbl mmEx mmSx mmK mmP mq29 = true := mm_ckM_of (q := mq29) rfl mr_29_0 (by decide +kernel)
set_option maxRecDepth 100000 in
theorem mk_30 : mm_ckM lw_tbl mmEx mmSx mmK mmP mq30 = true := mm_ckM_of (q := mq30) rfl mr_30_0 (by decide +kernel)
set_option maxRecDepth 100000 in
theorem mk_31 : mm_ckM lw_tbl mmEx mmSx mmK mmP mq31 = true := mm_ckM_of (q := mq31) rfl mr_31_0 (by decide +kernel)
set_option maxRecDepth 100000 in
theorem mk_32 : mm_ckM lw_tbl mmEx mmSx mmK mmP mq32 = true := mm_ckM_of (q := mq32) rfl mr_32_0 (by decide +kernel)
set_option maxRecDepth 100000 in
theorem mk_33 : mm_ckM lw_tbl mmEx mmSx mmK mmP mq33 = true := mm_ckM_of (q := mq33) rfl mr_33_0 (by decide +kernel)
set_option maxRecDepth 100000 in
theorem mk_34 : mm_ckM lw_tbl mmEx mmSx mmK mmP mq34 = true := mm_ckM_of (q := mq34) rfl mr_34_0 (by decide +kernel)
set_option maxRecDepth 100000 in
theorem mk_35 : mm_ckM lw_tbl mmEx mmSx mmK mmP mq35 = true := mm_ckM_of (q := mq35) rfl mr_35_0 (by decide +kernel)
set_option maxRecDepth 100000 in
theorem mk_36 : mm_ckM lw_tbl mmEx mmSx mmK mmP mq36 = true := mm_ckM_of (q := mq36) rfl (mm_all2 mr_36_0 mr_36_1) (by decide +kernel)
set_option maxRecDepth 100000 in
theorem mk_37 : mm_ckM lw_tbl mmEx mmSx mmK mmP mq37 = true := mm_ckM_of (q := mq37) rfl mr_37_0 (by decide +kernel)
set_option maxRecDepth 100000 in
theorem mk_38 : mm_ckM lw_tbl mmEx mmSx mmK mmP mq38 = true := mm_ckM_of (q := mq38) rfl mr_38_0 (by decide +kernel)
set_option maxRecDepth 100000 in
theorem mk_39 : mm_ckM lw_tbl mmEx mmSx mmK mmP mq39 = true := mm_ckM_of (q := mq39) rfl (mm_all2 mr_39_0 mr_39_1) (by decide +kernel)
set_option maxRecDepth 100000 in
theorem mk_40 : mm_ckM lw_tbl mmEx mmSx mmK mmP mq40 = true := mm_ckM_of (q := mq40) rfl (mm_all2 mr_40_0 mr_40_1) (by decide +kernel)
set_option maxRecDepth 100000 in
theorem mk_41 : mm_ckM lw_tbl mmEx mmSx mmK mmP mq41 = true := mm_ckM_of (q := mq41) rfl (mm_all2 mr_41_0 mr_41_1) (by decide +kernel)
set_option maxRecDepth 100000 in
theorem mk_42 : mm_ckM lw_tbl mmEx mmSx mmK mmP mq42 = true := mm_ckM_of (q := mq42) rfl mr_42_0 (by decide +kernel)
set_option maxRecDepth 100000 in
theorem mk_43 : mm_ckM lw_tbl mmEx mmSx mmK mmP mq43 = true := mm_ckM_of (q := mq43) rfl mr_43_0 (by decide +kernel)
set_option maxRecDepth 100000 in
theorem mk_44 : mm_ckM lw_tbl mmEx mmSx mmK mmP mq44 = true := mm_ckM_of (q := mq44) rfl mr_44_0 (by decide +kernel)
set_option maxRecDepth 100000 in
theorem mk_45 : mm_ckM lw_tbl mmEx mmSx mmK mmP mq45 = true := mm_ckM_of (q := mq45) rfl (mm_all2 mr_45_0 (mm_all2 mr_45_1 (mm_all2 mr_45_2 mr_45_3))) (by decide +kernel)
set_option maxRecDepth 100000 in
theorem mk_46 : mm_ckM lw_tbl mmEx mmSx mmK mmP mq46 = true := mm_ckM_of (q := mq46) rfl mr_46_0 (by decide +kernel)
set_option maxRecDepth 100000 in
theorem mk_47 : mm_ckM lw_tbl mmEx mmSx mmK mmP mq47 = true := mm_ckM_of (q := mq47) rfl mr_47_0 (by decide +kernel)
set_option maxRecDepth 100000 in
theorem mk_48 : mm_ckM lw_tbl mmEx mmSx mmK mmP mq48 = true := mm_ckM_of (q := mq48) rfl (mm_all2 mr_48_0 mr_48_1) (by decide +kernel)
set_option maxRecDepth 100000 in
theorem mk_49 : mm_ckM lw_tbl mmEx mmSx mmK mmP mq49 = true := mm_ckM_of (q := mq49) rfl (mm_all2 mr_49_0 mr_49_1) (by decide +kernel)
set_option maxRecDepth 100000 in
theorem mk_50 : mm_ckM lw_tbl mmEx mmSx mmK mmP mq50 = true := mm_ckM_of (q := mq50) rfl mr_50_0 (by decide +kernel)
set_option maxRecDepth 100000 in
theorem mk_51 : mm_ckM lw_tbl mmEx mmSx mmK mmP mq51 = true := mm_ckM_of (q := mq51) rfl mr_51_0 (by decide +kernel)
set_option maxRecDepth 100000 in
theorem mk_52 : mm_ckM lw_tbl mmEx mmSx mmK mmP mq52 = true := mm_ckM_of (q := mq52) rfl mr_52_0 (by decide +kernel)
set_option maxRecDepth 100000 in
theorem mk_53 : mm_ckM lw_tbl mmEx mmSx mmK mmP mq53 = true := mm_ckM_of (q := mq53) rfl (mm_all2 mr_53_0 mr_53_1) (by decide +kernel)
set_option maxRecDepth 100000 in
theorem mk_54 : mm_ckM lw_tbl mmEx mmSx mmK mmP mq54 = true := mm_ckM_of (q := mq54) rfl mr_54_0 (by decide +kernel)
set_option maxRecDepth 100000 in
theorem mk_55 : mm_ckM lw_tbl mmEx mmSx mmK mmP mq55 = true := mm_ckM_of (q := mq55) rfl mr_55_0 (by decide +kernel)
set_option maxRecDepth 100000 in
theorem mk_56 : mm_ckM lw_tbl mmEx mmSx mmK mmP mq56 = true := mm_ckM_of (q := mq56) rfl (mm_all2 mr_56_0 (mm_all2 mr_56_1 mr_56_2)) (by decide +kernel)
set_option maxRecDepth 100000 in
theorem mk_57 : mm_ckM lw_tbl mmEx mmSx mmK mmP mq57 = true := mm_ckM_of (q := mq57) rfl (mm_all2 mr_57_0 (mm_all2 mr_57_1 mr_57_2)) (by decide +kernel)
set_option maxRecDepth 100000 in
theorem mk_58 : mm_ckM lw_tbl mmEx mmSx mmK mmP mq58 = true := mm_ckM_of (q := mq58) rfl mr_58_0 (by decide +kernel)
set_option maxRecDepth 100000 in
theorem mk_59 : mm_ckM lw_tbl mmEx mmSx mmK mmP mq59 = true := mm_ckM_of (q := mq59) rfl mr_59_0 (by decide +kernel)
set_option maxRecDepth 100000 in
theorem mk_60 : mm_ckM lw_tbl mmEx mmSx mmK mmP mq60 = true := mm_ckM_of (q := mq60) rfl mr_60_0 (by decide +kernel)
set_option maxRecDepth 100000 in
theorem mk_61 : mm_ckM lw_tbl mmEx mmSx mmK mmP mq61 = true := mm_ckM_of (q := mq61) rfl mr_61_0 (by decide +kernel)
set_option maxRecDepth 100000 in
theorem mk_62 : mm_ckM lw_tbl mmEx mmSx mmK mmP mq62 = true := mm_ckM_of (q := mq62) rfl mr_62_0 (by decide +kernel)
set_option maxRecDepth 100000 in
theorem mk_63 : mm_ckM lw_tbl mmEx mmSx mmK mmP mq63 = true := mm_ckM_of (q := mq63) rfl (mm_all2 mr_63_0 (mm_all2 mr_63_1 mr_63_2)) (by decide +kernel)
set_option maxRecDepth 100000 in
theorem mk_64 : mm_ckM lw_tbl mmEx mmSx mmK mmP mq64 = true := mm_ckM_of (q := mq64) rfl mr_64_0 (by decide +kernel)
set_option maxRecDepth 100000 in
theorem mk_65 : mm_ckM lw_tbl mmEx mmSx mmK mmP mq65 = true := mm_ckM_of (q := mq65) rfl mr_65_0 (by decide +kernel)
set_option maxRecDepth 100000 in
theorem mk_66 : mm_ckM lw_tbl mmEx mmSx mmK mmP mq66 = true := mm_ckM_of (q := mq66) rfl (mm_all2 mr_66_0 mr_66_1) (by decide +kernel)
set_option maxRecDepth 100000 in
theorem mk_67 : mm_ckM lw_tbl mmEx mmSx mmK mmP mq67 = true := mm_ckM_of (q := mq67) rfl (mm_all2 mr_67_0 mr_67_1) (by decide +kernel)
set_option maxRecDepth 100000 in
theorem mk_68 : mm_ckM lw_tbl mmEx mmSx mmK mmP mq68 = true := mm_ckM_of (q := mq68) rfl (mm_all2 mr_68_0 (mm_all2 mr_68_1 (mm_all2 mr_68_2 (mm_all2 mr_68_3 (mm_all2 mr_68_4 mr_68_5))))) (by decide +kernel)
set_option maxRecDepth 100000 in
theorem mk_69 : mm_ckM lw_tbl mmEx mmSx mmK mmP mq69 = true := mm_ckM_of (q := mq69) rfl (mm_all2 mr_69_0 mr_69_1) (by decide +kernel)
set_option maxRecDepth 100000 in
theorem mk_70 : mm_ckM lw_tbl mmEx mmSx mmK mmP mq70 = true := mm_ckM_of (q := mq70) rfl mr_70_0 (by decide +kernel)
set_option maxRecDepth 100000 in
theorem mk_71 : mm_ckM lw_tbl mmEx mmSx mmK mmP mq71 = true := mm_ckM_of (q := mq71) rfl mr_71_0 (by decide +kernel)
set_option maxRecDepth 100000 in
theorem mk_72 : mm_ckM lw_tbl mmEx mmSx mmK mmP mq72 = true := mm_ckM_of (q := mq72) rfl mr_72_0 (by decide +kernel)
set_option maxRecDepth 100000 in
theorem mk_73 : mm_ckM lw_tbl mmEx mmSx mmK mmP mq73 = true := mm_ckM_of (q := mq73) rfl mr_73_0 (by decide +kernel)
set_option maxRecDepth 100000 in
theorem mk_74 : mm_ckM lw_tbl mmEx mmSx mmK mmP mq74 = true := mm_ckM_of (q := mq74) rfl (mm_all2 mr_74_0 mr_74_1) (by decide +kernel)
set_option maxRecDepth 100000 in
theorem mk_75 : mm_ckM lw_tbl mmEx mmSx mmK mmP mq75 = true := mm_ckM_of (q := mq75) rfl (mm_all2 mr_75_0 mr_75_1) (by decide +kernel)
set_option maxRecDepth 100000 in
theorem mk_76 : mm_ckM lw_tbl mmEx mmSx mmK mmP mq76 = true := mm_ckM_of (q := mq76) rfl (mm_all2 mr_76_0 mr_76_1) (by decide +kernel)
set_option maxRecDepth 100000 in
theorem mk_77 : mm_ckM lw_tbl mmEx mmSx mmK mmP mq77 = true := mm_ckM_of (q := mq77) rfl mr_77_0 (by decide +kernel)
set_option maxRecDepth 100000 in
theorem mk_78 : mm_ckM lw_tbl mmEx mmSx mmK mmP mq78 = true := mm_ckM_of (q := mq78) rfl mr_78_0 (by decide +kernel)
set_option maxRecDepth 100000 in
theorem mk_79 : mm_ckM lw_tbl mmEx mmSx mmK mmP mq79 = true := mm_ckM_of (q := mq79) rfl (mm_all2 mr_79_0 mr_79_1) (by decide +kernel)
set_option maxRecDepth 100000 in
theorem mk_80 : mm_ckM lw_tbl mmEx mmSx mmK mmP mq80 = true := mm_ckM_of (q := mq80) rfl mr_80_0 (by decide +kernel)
set_option maxRecDepth 100000 in
theorem mk_81 : mm_ckM lw_tbl mmEx mmSx mmK mmP mq81 = true := mm_ckM_of (q := mq81) rfl (mm_all2 mr_81_0 mr_81_1) (by decide +kernel)
set_option maxRecDepth 100000 in
theorem mk_82 : mm_ckM lw_tbl mmEx mmSx mmK mmP mq82 = true := mm_ckM_of (q := mq82) rfl (mm_all2 mr_82_0 (mm_all2 mr_82_1 mr_82_2)) (by decide +kernel)
set_option maxRecDepth 100000 in
theorem mk_83 : mm_ckM lw_tbl mmEx mmSx mmK mmP mq83 = true := mm_ckM_of (q := mq83) rfl mr_83_0 (by decide +kernel)
set_option maxRecDepth 100000 in
theorem mk_84 : mm_ckM lw_tbl mmEx mmSx mmK mmP mq84 = true := mm_ckM_of (q := mq84) rfl mr_84_0 (by decide +kernel)
set_option maxRecDepth 100000 in
theorem mk_85 : mm_ckM lw_tbl mmEx mmSx mmK mmP mq85 = true := mm_ckM_of (q := mq85) rfl mr_85_0 (by decide +kernel)
set_option maxRecDepth 100000 in
theorem mk_86 : mm_ckM lw_tbl mmEx mmSx mmK mmP mq86 = true := mm_ckM_of (q := mq86) rfl mr_86_0 (by decide +kernel)
set_option maxRecDepth 100000 in
theorem mk_87 : mm_ckM lw_tbl mmEx mmSx mmK mmP mq87 = true := mm_ckM_of (q := mq87) rfl mr_87_0 (by decide +kernel)
set_option maxRecDepth 100000 in
theorem mk_88 : mm_ckM lw_tbl mmEx mmSx mmK mmP mq88 = true := mm_ckM_of (q := mq88) rfl mr_88_0 (by decide +kernel)
set_option maxRecDepth 100000 in
theorem mk_89 : mm_ckM lw_tbl mmEx mmSx mmK mmP mq89 = true := mm_ckM_of (q := mq89) rfl mr_89_0 (by decide +kernel)
set_option maxRecDepth 100000 in
theorem mk_90 : mm_ckM lw_tbl mmEx mmSx mmK mmP mq90 = true := mm_ckM_of (q := mq90) rfl mr_90_0 (by decide +kernel)
set_option maxRecDepth 100000 in
theorem mk_91 : mm_ckM lw_tbl mmEx mmSx mmK mmP mq91 = true := mm_ckM_of (q := mq91) rfl mr_91_0 (by decide +kernel)
set_option maxRecDepth 100000 in
theorem mk_92 : mm_ckM lw_tbl mmEx mmSx mmK mmP mq92 = true := mm_ckM_of (q := mq92) rfl mr_92_0 (by decide +kernel)
set_option maxRecDepth 100000 in
theorem mk_93 : mm_ckM lw_tbl mmEx mmSx mmK mmP mq93 = true := mm_ckM_of (q := mq93) rfl mr_93_0 (by decide +kernel)
set_option maxRecDepth 100000 in
theorem mk_94 : mm_ckM lw_tbl mmEx mmSx mmK mmP mq94 = true := mm_ckM_of (q := mq94) rfl mr_94_0 (by decide +kernel)
set_option maxRecDepth 100000 in
theorem mk_95 : mm_ckM lw_tbl mmEx mmSx mmK mmP mq95 = true := mm_ckM_of (q := mq95) rfl mr_95_0 (by decide +kernel)
theorem mk_P : ∀ q ∈ mmP, mm_ckM lw_tbl mmEx mmSx mmK mmP q = true :=
  List.forall_mem_cons.mpr ⟨mk_0, List.forall_mem_cons.mpr ⟨mk_1, List.forall_mem_cons.mpr ⟨mk_2, List.forall_mem_cons.mpr ⟨mk_3, List.forall_mem_cons.mpr ⟨mk_4, List.forall_mem_cons.mpr ⟨mk_5, List.forall_mem_cons.mpr ⟨mk_6, List.forall_mem_cons.mpr ⟨mk_7, List.forall_mem_cons.mpr ⟨mk_8, List.forall_mem_cons.mpr ⟨mk_9, List.forall_mem_cons.mpr ⟨mk_10, List.forall_mem_cons.mpr ⟨mk_11, List.forall_mem_cons.mpr ⟨mk_12, List.forall_mem_cons.mpr ⟨mk_13, List.forall_mem_cons.mpr ⟨mk_14, List.forall_mem_cons.mpr ⟨mk_15, List.forall_mem_cons.mpr ⟨mk_16, List.forall_mem_cons.mpr ⟨mk_17, List.forall_mem_cons.mpr ⟨mk_18, List.forall_mem_cons.mpr ⟨mk_19, List.forall_mem_cons.mpr ⟨mk_20, List.forall_mem_cons.mpr ⟨mk_21, List.forall_mem_cons.mpr ⟨mk_22, List.forall_mem_cons.mpr ⟨mk_23, List.forall_mem_cons.mpr ⟨mk_24, List.forall_mem_cons.mpr ⟨mk_25, List.forall_mem_cons.mpr ⟨mk_26, List.forall_mem_cons.mpr ⟨mk_27, List.forall_mem_cons.mpr ⟨mk_28, List.forall_mem_cons.mpr ⟨mk_29, List.forall_mem_cons.mpr ⟨mk_30, List.forall_mem_cons.mpr ⟨mk_31, List.forall_mem_cons.mpr ⟨mk_32, List.forall_mem_cons.mpr ⟨mk_33, List.forall_mem_cons.mpr ⟨mk_34, List.forall_mem_cons.mpr ⟨mk_35, List.forall_mem_cons.mpr ⟨mk_36, List.forall_mem_cons.mpr ⟨mk_37, List.forall_mem_cons.mpr ⟨mk_38, List.forall_mem_cons.mpr ⟨mk_39, List.forall_mem_cons.mpr ⟨mk_40, List.forall_mem_cons.mpr ⟨mk_41, List.forall_mem_cons.mpr ⟨mk_42, List.forall_mem_cons.mpr ⟨mk_43, List.forall_mem_cons.mpr ⟨mk_44, List.forall_mem_cons.mpr ⟨mk_45, List.forall_mem_cons.mpr ⟨mk_46, List.forall_mem_cons.mpr ⟨mk_47, List.forall_mem_cons.mpr ⟨mk_48, List.forall_mem_cons.mpr ⟨mk_49, List.forall_mem_cons.mpr ⟨mk_50, List.forall_mem_cons.mpr ⟨mk_51, List.forall_mem_cons.mpr ⟨mk_52, List.forall_mem_cons.mpr ⟨mk_53, List.forall_mem_cons.mpr ⟨mk_54, List.forall_mem_cons.mpr ⟨mk_55, List.forall_mem_cons.mpr ⟨mk_56, List.forall_mem_cons.mpr ⟨mk_57, List.forall_mem_cons.mpr ⟨mk_58, List.forall_mem_cons.mpr ⟨mk_59, List.forall_mem_cons.mpr ⟨mk_60, List.forall_mem_cons.mpr ⟨mk_61, List.forall_mem_cons.mpr ⟨mk_62, List.forall_mem_cons.mpr ⟨mk_63, List.forall_mem_cons.mpr ⟨mk_64, List.forall_mem_cons.mpr ⟨mk_65, List.forall_mem_cons.mpr ⟨mk_66, List.forall_mem_cons.mpr ⟨mk_67, List.forall_mem_cons.mpr ⟨mk_68, List.forall_mem_cons.mpr ⟨mk_69, List.forall_mem_cons.mpr ⟨mk_70, List.forall_mem_cons.mpr ⟨mk_71, List.forall_mem_cons.mpr ⟨mk_72, List.forall_mem_cons.mpr ⟨mk_73, List.forall_mem_cons.mpr ⟨mk_74, List.forall_mem_cons.mpr ⟨mk_75, List.forall_mem_cons.mpr ⟨mk_76, List.forall_mem_cons.mpr ⟨mk_77, List.forall_mem_cons.mpr ⟨mk_78, List.forall_mem_cons.mpr ⟨mk_79, List.forall_mem_cons.mpr ⟨mk_80, List.forall_mem_cons.mpr ⟨mk_81, List.forall_mem_cons.mpr ⟨mk_82, List.forall_mem_cons.mpr ⟨mk_83, List.forall_mem_cons.mpr ⟨mk_84, List.forall_mem_cons.mpr ⟨mk_85, List.forall_mem_cons.mpr ⟨mk_86, List.forall_mem_cons.mpr ⟨mk_87, List.forall_mem_cons.mpr ⟨mk_88, List.forall_mem_cons.mpr ⟨mk_89, List.forall_mem_cons.mpr ⟨mk_90, List.forall_mem_cons.mpr ⟨mk_91, List.forall_mem_cons.mpr ⟨mk_92, List.forall_mem_cons.mpr ⟨mk_93, List.forall_mem_cons.mpr ⟨mk_94, List.forall_mem_cons.mpr ⟨mk_95, fun _ h => absurd h List.not_mem_nil⟩⟩⟩⟩⟩⟩⟩⟩⟩⟩⟩⟩⟩⟩⟩⟩⟩⟩⟩⟩⟩⟩⟩⟩⟩⟩⟩⟩⟩⟩⟩⟩⟩⟩⟩⟩⟩⟩⟩⟩⟩⟩⟩⟩⟩⟩⟩⟩⟩⟩⟩⟩⟩⟩⟩⟩⟩⟩⟩⟩⟩⟩⟩⟩⟩⟩⟩⟩⟩⟩⟩⟩⟩⟩⟩⟩⟩⟩⟩⟩⟩⟩⟩⟩⟩⟩⟩⟩⟩⟩⟩⟩⟩⟩⟩⟩
end
