section
/-! A small machine: the code as a table, a state of pieces, and what holds before it so that something holds behind it. No row here speaks of a class of the claim. -/
abbrev mE : Type := (FieldType × vp_A) ⊕ (Nat × List Value)
abbrev mL : Type := List (Option Value)
/-- pc, locals, stack, cells, cells made, slots made -/
abbrev mC : Type := Nat × mL × List Value × List mE × Nat × Nat
/-- pc, instruction, its length, group, kind, three numbers, where its words stand -/
abbrev mB : Type := Nat × Instr × Nat × Nat × Nat × Nat × Nat × Nat × List Nat
/-- most cells, most slots, code, name, bytes, most locals, result, handlers, their classes, the nest's host -/
abbrev mM : Type := Nat × Nat × List mB × MethodName × ByteArray × Nat × Option FieldType × List (Nat × Nat × Nat × Nat) × List Nat × String
abbrev mO : Type := Option (List Prop × mC)
abbrev mR : Type := Option Value ⊕ Nat
/-- the script, the classes (name, fields, how many, types of fields), the room of the method -/
abbrev mS : Type := Nat × (Nat → Int32)
abbrev mK : Type := List (String × u_T × Nat × List FieldType)
/-- how long an instruction is -/
def mm_len (ins : Instr) : Nat := match ins with
  | .bipush _ => 2
  | .sipush _ => 3
  | .ldc _ => 2
  | .iload _ => 2
  | .aload _ => 2
  | .istore _ => 2
  | .astore _ => 2
  | .iinc _ _ => 3
  | .getfield _ => 3
  | .putfield _ => 3
  | .new _ => 3
  | .newarray _ => 2
  | .goto _ => 3
  | .ifCond _ _ => 3
  | .if_icmp _ _ => 3
  | .invokevirtual _ => 3
  | .invokespecial _ => 3
  | .invokestatic _ => 3
  | _ => 1
def mm_all : List Prop → Prop
  | [] => True
  | p :: ps => p ∧ mm_all ps
def mm_ld (ls : mL) (i : Nat) : Option Value := match ls[i]? with
  | some (some v) => some v
  | _ => none
def mm_st (pc len : Nat) (ls : mL) (i : Nat) (v : Value) (st : List Value) (h : List mE) (kc ks : Nat) : mO :=
  if i < ls.length then some ([], pc + len, ls.set i (some v), st, h, kc, ks) else none
def mm_const (pc : Nat) (ins : Instr) (a : Nat) (ls : mL) (st : List Value) (h : List mE) (kc ks : Nat) : mO := match ins with
  | .iconst n => some ([], pc + 1, ls, .int (Int32.ofInt n) :: st, h, kc, ks)
  | .bipush n => some ([], pc + 2, ls, .int (Int8.ofInt n).toInt32 :: st, h, kc, ks)
  | .sipush n => some ([], pc + 3, ls, .int (Int16.ofInt n).toInt32 :: st, h, kc, ks)
  | .ldc _ => some ([], pc + 2, ls, .int (Int32.ofNat a) :: st, h, kc, ks)
  | .lconst n => some ([], pc + 1, ls, .long (Int64.ofNat n.val) :: st, h, kc, ks)
  | _ => none
def mm_iload (pc len i : Nat) (ls : mL) (st : List Value) (h : List mE) (kc ks : Nat) : mO := match mm_ld ls i with
  | some (.int x) => some ([], pc + len, ls, .int x :: st, h, kc, ks)
  | _ => none
def mm_aload (pc len i : Nat) (ls : mL) (st : List Value) (h : List mE) (kc ks : Nat) : mO := match mm_ld ls i with
  | some (.ref x) => some ([], pc + len, ls, .ref x :: st, h, kc, ks)
  | some (.float x) => some ([], pc + len, ls, .float x :: st, h, kc, ks)
  | _ => none
def mm_load (pc : Nat) (ins : Instr) (ls : mL) (st : List Value) (h : List mE) (kc ks : Nat) : mO := match ins with
  | .iload_n k => mm_iload pc 1 k.val ls st h kc ks
  | .iload i => mm_iload pc 2 i ls st h kc ks
  | .aload_n k => mm_aload pc 1 k.val ls st h kc ks
  | .aload i => mm_aload pc 2 i ls st h kc ks
  | _ => none
def mm_istore (pc len i : Nat) (ls : mL) (st : List Value) (h : List mE) (kc ks : Nat) : mO := match st with
  | .int x :: r => mm_st pc len ls i (.int x) r h kc ks
  | _ => none
def mm_astore (pc len i : Nat) (ls : mL) (st : List Value) (h : List mE) (kc ks : Nat) : mO := match st with
  | .ref x :: r => mm_st pc len ls i (.ref x) r h kc ks
  | _ => none
def mm_iinc (pc i : Nat) (n : Int) (ls : mL) (st : List Value) (h : List mE) (kc ks : Nat) : mO := match mm_ld ls i with
  | some (.int x) => mm_st pc 3 ls i (.int (x + Int32.ofInt n)) st h kc ks
  | _ => none
def mm_store (pc : Nat) (ins : Instr) (ls : mL) (st : List Value) (h : List mE) (kc ks : Nat) : mO := match ins with
  | .istore_n k => mm_istore pc 1 k.val ls st h kc ks
  | .istore i => mm_istore pc 2 i ls st h kc ks
  | .astore_n k => mm_astore pc 1 k.val ls st h kc ks
  | .astore i => mm_astore pc 2 i ls st h kc ks
  | .iinc i n => mm_iinc pc i n ls st h kc ks
  | _ => none
def mm_bin (pc : Nat) (ins : Instr) (ls : mL) (x y : Int32) (r : List Value) (h : List mE) (kc ks : Nat) : mO := match ins with
  | .iadd => some ([], pc + 1, ls, .int (x + y) :: r, h, kc, ks)
  | .isub => some ([], pc + 1, ls, .int (x - y) :: r, h, kc, ks)
  | .imul => some ([], pc + 1, ls, .int (x * y) :: r, h, kc, ks)
  | .iand => some ([], pc + 1, ls, .int (x &&& y) :: r, h, kc, ks)
  | .idiv => some ([¬ y = 0], pc + 1, ls, .int (x / y) :: r, h, kc, ks)
  | .irem => some ([¬ y = 0], pc + 1, ls, .int (x - x / y * y) :: r, h, kc, ks)
  | _ => none
def mm_arith (pc : Nat) (ins : Instr) (ls : mL) (st : List Value) (h : List mE) (kc ks : Nat) : mO := match st with
  | .int y :: .int x :: r => mm_bin pc ins ls x y r h kc ks
  | _ => none
def mm_un (pc : Nat) (ins : Instr) (ls : mL) (st : List Value) (h : List mE) (kc ks : Nat) : mO := match st with
  | .int x :: r => (match ins with
    | .ineg => some ([], pc + 1, ls, .int (-x) :: r, h, kc, ks)
    | .i2l => some ([], pc + 1, ls, .long x.toInt64 :: r, h, kc, ks)
    | _ => none)
  | _ => none
def mm_c1 (v : Value) : Bool := match v with
  | .long _ => false
  | .double _ => false
  | _ => true
def mm_stk (pc : Nat) (ins : Instr) (ls : mL) (st : List Value) (h : List mE) (kc ks : Nat) : mO := match ins, st with
  | .dup, a :: r => if mm_c1 a then some ([], pc + 1, ls, a :: a :: r, h, kc, ks) else none
  | .pop, a :: r => if mm_c1 a then some ([], pc + 1, ls, r, h, kc, ks) else none
  | .dup2, a :: b :: r => if mm_c1 a && mm_c1 b then some ([], pc + 1, ls, a :: b :: a :: b :: r, h, kc, ks) else none
  | .dup_x1, a :: b :: r => if mm_c1 a && mm_c1 b then some ([], pc + 1, ls, a :: b :: a :: r, h, kc, ks) else none
  | _, _ => none
def mm_getf (pc ci k : Nat) (ls : mL) (st : List Value) (h : List mE) (kc ks : Nat) : mO := match st with
  | .ref i :: r => (match h[i]? with
    | some (.inr (cj, fs)) => (match cj == ci, fs[k]? with
      | true, some v => some ([], pc + 3, ls, v :: r, h, kc, ks)
      | _, _ => none)
    | _ => none)
  | _ => none
/-- a value that a field of this type takes as it is -/
def mm_fit (ty : FieldType) (v : Value) : Prop := match ty, v with
  | .int, .int _ => True
  | .boolean, .int x => x = 0 ∨ x = 1
  | .object _, .ref _ => True
  | .array _, .ref _ => True
  | _, _ => False
def mm_putf (K : mK) (pc ci k : Nat) (ls : mL) (st : List Value) (h : List mE) (kc ks : Nat) : mO := match st with
  | v :: .ref i :: r => (match h[i]? with
    | some (.inr (cj, fs)) => (match cj == ci, K[ci]? with
      | true, some q => (match q.2.2.2[k]? with
        | some ty => some ([mm_fit ty v, k < fs.length], pc + 3, ls, r, h.set i (.inr (cj, fs.set k v)), kc, ks)
        | none => none)
      | _, _ => none)
    | _ => none)
  | _ => none
/-- is the place within -/
def mm_in (i : Int32) (n : Nat) : Prop := 0 ≤ i ∧ i.toNatClampNeg < n
def mm_ald (sc : mS) (pc : Nat) (ins : Instr) (ls : mL) (st : List Value) (h : List mE) (kc ks : Nat) : mO := match st with
  | .int i :: .ref a :: r => (match ins, h[a]? with
    | .iaload, some (.inl (.int, n, .inl f)) => some ([mm_in i n], pc + 1, ls, .int (f i.toNatClampNeg) :: r, h, kc, ks)
    | .baload, some (.inl (.boolean, n, .inl f)) => some ([mm_in i n], pc + 1, ls, .int (f i.toNatClampNeg) :: r, h, kc, ks)
    | .laload, some (.inl (.long, n, .inr (.inl f))) => some ([mm_in i n], pc + 1, ls, .long (f i.toNatClampNeg) :: r, h, kc, ks)
    | _, _ => none)
  | .int i :: .float _ :: r => (match ins with
    | .iaload => some ([mm_in i sc.1], pc + 1, ls, .int (sc.2 i.toNatClampNeg) :: r, h, kc, ks)
    | _ => none)
  | _ => none
def mm_ast (pc : Nat) (ins : Instr) (ls : mL) (st : List Value) (h : List mE) (kc ks : Nat) : mO := match st with
  | .int x :: .int i :: .ref a :: r => (match ins, h[a]? with
    | .iastore, some (.inl (.int, n, .inl f)) => some ([mm_in i n], pc + 1, ls, r, h.set a (.inl (.int, n, .inl (upd f i.toNatClampNeg x))), kc, ks)
    | .bastore, some (.inl (.boolean, n, .inl f)) => some ([mm_in i n], pc + 1, ls, r, h.set a (.inl (.boolean, n, .inl (upd f i.toNatClampNeg (vp_nar .boolean x)))), kc, ks)
    | _, _ => none)
  | .long x :: .int i :: .ref a :: r => (match ins, h[a]? with
    | .lastore, some (.inl (.long, n, .inr (.inl f))) => some ([mm_in i n], pc + 1, ls, r, h.set a (.inl (.long, n, .inr (.inl (vp_updL f i.toNatClampNeg x)))), kc, ks)
    | _, _ => none)
  | _ => none
def mm_alen (sc : mS) (pc : Nat) (ls : mL) (st : List Value) (h : List mE) (kc ks : Nat) : mO := match st with
  | .ref a :: r => (match h[a]? with
    | some (.inl (_, x)) => some ([], pc + 1, ls, .int (Int32.ofNat x.1) :: r, h, kc, ks)
    | _ => none)
  | .float _ :: r => some ([], pc + 1, ls, .int (Int32.ofNat sc.1) :: r, h, kc, ks)
  | _ => none
def mm_new (K : mK) (mc ms pc ci : Nat) (ls : mL) (st : List Value) (h : List mE) (kc ks : Nat) : mO := match K[ci]? with
  | some q => some ([kc + 1 ≤ mc, ks + q.2.2.1 ≤ ms], pc + 3, ls, .ref h.length :: st, h ++ [.inr (ci, q.2.2.2.map defaultValue)], kc + 1, ks + q.2.2.1)
  | none => none
def mm_newa (mc ms pc : Nat) (ins : Instr) (ls : mL) (st : List Value) (h : List mE) (kc ks : Nat) : mO := match st with
  | .int n :: r => (match ins with
    | .newarray .int => some ([0 ≤ n, n.toNatClampNeg ≤ 100000, kc + 1 ≤ mc, ks + n.toNatClampNeg ≤ ms], pc + 2, ls, .ref h.length :: r, h ++ [.inl (.int, n.toNatClampNeg, .inl (fun _ => 0))], kc + 1, ks + n.toNatClampNeg)
    | .newarray .boolean => some ([0 ≤ n, n.toNatClampNeg ≤ 100000, kc + 1 ≤ mc, ks + n.toNatClampNeg ≤ ms], pc + 2, ls, .ref h.length :: r, h ++ [.inl (.boolean, n.toNatClampNeg, .inl (fun _ => 0))], kc + 1, ks + n.toNatClampNeg)
    | .newarray .long => some ([0 ≤ n, n.toNatClampNeg ≤ 100000, kc + 1 ≤ mc, ks + n.toNatClampNeg ≤ ms], pc + 2, ls, .ref h.length :: r, h ++ [.inl (.long, n.toNatClampNeg, .inr (.inl (fun _ => 0)))], kc + 1, ks + n.toNatClampNeg)
    | _ => none)
  | _ => none
def mm_math (mc ms k pc : Nat) (ls : mL) (st : List Value) (h : List mE) (kc ks : Nat) : mO := match st with
  | .int y :: .int x :: r => (match k with
    | 0 => some ([kc ≤ mc, ks ≤ ms], pc + 3, ls, .int (if x < y then y else x) :: r, h, kc, ks)
    | 1 => some ([kc ≤ mc, ks ≤ ms], pc + 3, ls, .int (if y < x then y else x) :: r, h, kc, ks)
    | _ => none)
  | _ => none
def mm_lcmp (pc : Nat) (ls : mL) (st : List Value) (h : List mE) (kc ks : Nat) : mO := match st with
  | .long y :: .long x :: r => some ([], pc + 1, ls, .int (lg_cmp x y) :: r, h, kc, ks)
  | _ => none
def mm_obj (pc : Nat) (ls : mL) (st : List Value) (h : List mE) (kc ks : Nat) : mO := match st with
  | .ref _ :: r => some ([], pc + 3, ls, r, h, kc, ks)
  | _ => none
/-- a switch -/
def mm_sw (pc : Nat) (ins : Instr) (ls : mL) (st : List Value) (h : List mE) (kc ks : Nat) : mO := match ins, st with
  | .tableswitch dflt lo hi offs, .int x :: r =>
    if x.toInt < lo ∨ hi < x.toInt then some ([(pc : Int) + dflt = (((pc : Int) + dflt).toNat : Int)], ((pc : Int) + dflt).toNat, ls, r, h, kc, ks)
    else (match offs[(x.toInt - lo).toNat]? with
      | some o => some ([(pc : Int) + o = (((pc : Int) + o).toNat : Int)], ((pc : Int) + o).toNat, ls, r, h, kc, ks)
      | none => none)
  | _, _ => none
/-- the plain instructions -/
def mm_op (sc : mS) (K : mK) (mc ms : Nat) (b : mB) (c : mC) : mO := match b, c with
  | (_, ins, _, _, kd, x, y, _, _), (pc, ls, st, h, kc, ks) => match kd with
    | 0 => mm_const pc ins x ls st h kc ks
    | 1 => mm_load pc ins ls st h kc ks
    | 2 => mm_store pc ins ls st h kc ks
    | 3 => mm_arith pc ins ls st h kc ks
    | 4 => mm_un pc ins ls st h kc ks
    | 5 => mm_stk pc ins ls st h kc ks
    | 6 => mm_getf pc x y ls st h kc ks
    | 7 => mm_putf K pc x y ls st h kc ks
    | 8 => mm_ald sc pc ins ls st h kc ks
    | 9 => mm_ast pc ins ls st h kc ks
    | 10 => mm_alen sc pc ls st h kc ks
    | 11 => mm_new K mc ms pc x ls st h kc ks
    | 12 => mm_newa mc ms pc ins ls st h kc ks
    | 13 => if ((st.map Value.category).sum).ble 12 then mm_math mc ms x pc ls st h kc ks else none
    | 14 => mm_lcmp pc ls st h kc ks
    | 15 => if ((st.map Value.category).sum).ble 8 then mm_obj pc ls st h kc ks else none
    | 16 => some ([], x, ls, st, h, kc, ks)
    | 17 => mm_sw pc ins ls st h kc ks
    | _ => none
def mm_cmp (q : ClassFile.Cond) (x y : Int32) : Prop := match q with
  | .eq => x = y
  | .ne => ¬ x = y
  | .lt => x < y
  | .ge => y ≤ x
  | .gt => y < x
  | .le => x ≤ y
/-- a branch -/
def mm_br (b : mB) (c : mC) : Option (Prop × mC × mC) := match b, c with
  | (_, ins, _, _, _, tgt, _, _, _), (pc, ls, st, h, kc, ks) => match ins, st with
    | .ifCond q _, .int x :: r => some (mm_cmp q x 0, (tgt, ls, r, h, kc, ks), (pc + 3, ls, r, h, kc, ks))
    | .if_icmp q _, .int y :: .int x :: r => some (mm_cmp q x y, (tgt, ls, r, h, kc, ks), (pc + 3, ls, r, h, kc, ks))
    | _, _ => none
/-- a call: the arguments (the first one first), the rest of the stack; an object of the class z stands first where the call asks for one -/
def mm_recv (kd z : Nat) (as : List Value) (h : List mE) : Bool := match kd with
  | 4 => true
  | 5 => true
  | 7 => true
  | _ => (match as with
    | .ref i :: _ => (match h[i]? with
      | some (.inr (cj, _)) => cj == z
      | _ => false)
    | _ => false)
def mm_cl (b : mB) (c : mC) : Option (List Value × List Value) := match b, c with
  | (_, _, _, _, kd, _, y, z, _), (_, _, st, h, _, _) =>
    if y ≤ st.length && ((st.take y).all mm_c1 && (mm_recv kd z (st.take y).reverse h && ((st.drop y).map Value.category).sum.ble 8)) then some ((st.take y).reverse, st.drop y) else none
def mm_en (n : Nat) (as : List Value) : mL := as.map some ++ List.replicate (n - as.length) none
def mm_ret (ins : Instr) (r : Option FieldType) (st : List Value) : Option (List Prop × Option Value) := match ins, r, st with
  | .ireturn, some .int, [.int v] => some ([], some (.int v))
  | .ireturn, some .boolean, [.int v] => some ([v = 0 ∨ v = 1], some (.int v))
  | .return_, none, [] => some ([], none)
  | _, _, _ => none
def mm_at (P : List mM) (M pc : Nat) : Option (mM × mB) := match P[M]? with
  | some q => (match q.2.2.1.find? (fun b => b.1 == pc) with
    | some b => some (q, b)
    | none => none)
  | none => none
/-- which handler takes the class E at pc -/
def mm_hd (pc E : Nat) : List (Nat × Nat × Nat × Nat) → List Nat → Option Nat
  | (s0, s1, hp, _) :: hs, k :: ksx => if s0 ≤ pc && (Nat.blt pc s1 && k == E) then some hp else mm_hd pc E hs ksx
  | _, _ => none
def mm_hs (b : mB) : Option (Nat × Nat) := match b with
  | (pc, .astore_n k, _) => some (pc + 1, k.val)
  | (pc, .astore i, _) => some (pc + 2, i)
  | _ => none
/-- what must hold at c in method M, with d calls to go, so that the method ends within n steps, and Q holds of its end -/
def mm_wp (sc : mS) (K : mK) (P : List mM) : Nat → Nat → Nat → mC → (mR → List mE → Prop) → Prop
  | 0, _, _, _, _ => False
  | n + 1, d, M, c, Q => match mm_at P M c.1 with
    | none => False
    | some (q, b) => match b.2.2.2.1 with
      | 0 => (match mm_op sc K q.1 q.2.1 b c with
        | some (ps, c') => mm_all ps ∧ mm_wp sc K P n d M c' Q
        | none => False)
      | 1 => (match mm_br b c with
        | some (p, c1, c2) => (p → mm_wp sc K P n d M c1 Q) ∧ (¬ p → mm_wp sc K P n d M c2 Q)
        | none => False)
      | 2 => (match d, mm_cl b c, P[b.2.2.2.2.2.1]? with
        | d' + 1, some (as, r), some q2 => (c.2.2.2.2.1 + q2.1 ≤ q.1 ∧ c.2.2.2.2.2 + q2.2.1 ≤ q.2.1 ∧ as.length ≤ q2.2.2.2.2.2.1) ∧
          mm_wp sc K P n d' b.2.2.2.2.2.1 (0, mm_en q2.2.2.2.2.2.1 as, [], c.2.2.2.1, 0, 0) (fun res h' => match res with
            | .inl v => mm_wp sc K P n d M (c.1 + 3, c.2.1, v.toList ++ r, h', c.2.2.2.2.1 + q2.1, c.2.2.2.2.2 + q2.2.1) Q
            | .inr E => b.2.2.2.2.1 = 6 ∧ (match mm_hd c.1 E q.2.2.2.2.2.2.2.1 q.2.2.2.2.2.2.2.2.1 with
              | some hp => (match (mm_at P M hp).bind (fun z => mm_hs z.2) with
                | some (pc', i) => mm_wp sc K P n d M (pc', c.2.1.set i none, [], h', c.2.2.2.2.1 + q2.1, c.2.2.2.2.2 + q2.2.1) Q
                | none => False)
              | none => q.2.2.2.2.2.2.2.1 = [] ∧ Q (.inr E) h'))
        | _, _, _ => False)
      | 3 => (match mm_ret b.2.1 q.2.2.2.2.2.2.1 c.2.2.1 with
        | some (ps, v) => (c.2.2.2.2.1 ≤ q.1 ∧ c.2.2.2.2.2 ≤ q.2.1) ∧ mm_all ps ∧ Q (.inl v) c.2.2.2.1
        | none => False)
      | 4 => (5 ≤ d ∧ c.2.2.2.2.1 + 1 ≤ q.1 ∧ c.2.2.2.2.2 + 6 ≤ q.2.1 ∧ q.2.2.2.2.2.2.2.1 = [] ∧ (c.2.2.1.map Value.category).sum ≤ 8) ∧ Q (.inr b.2.2.2.2.2.1) c.2.2.2.1
      | _ => False
end
section
/-! how a state of the small machine is told of a state of the machine; the plain instructions -/
def mm_v (b : Nat) (ws : va_W) (v w : Value) : Prop := match v with
  | .ref i => ∃ (q : Nat) (e : va_E), ws[i]? = some (q, e) ∧ w = .ref q
  | .float _ => w = .ref b
  | v => w = v
def mm_vs (b : Nat) (ws : va_W) : List Value → List Value → Prop
  | [], w => w = []
  | v :: r, w => ∃ (w0 : Value) (w1 : List Value), w = w0 :: w1 ∧ mm_v b ws v w0 ∧ mm_vs b ws r w1
def mm_l (b : Nat) (ws : va_W) (nL : Nat) (ls : mL) (la : Array Slot) : Prop :=
  ls.length = nL ∧ ∃ lv : List (Nat × Value), lv_has la nL lv ∧ ∀ (i : Nat) (v : Value), ls[i]? = some (some v) → mm_c1 v = true ∧ ∃ w, mm_v b ws v w ∧ (i, w) ∈ lv
def mm_c (b : Nat) (tys : List (ClassId × FieldType)) (ws : va_W) (x : mE) (e : va_E) : Prop := match x, e with
  | .inl (ty, a), .inl (cA, a2) => a2 = a ∧ (cA, ty) ∈ tys
  | .inr (ci, fs), .inr (cj, gs) => cj = ci ∧ mm_vs b ws fs gs
  | _, _ => False
/-- the same cells at the same places, perhaps more -/
def mm_ext (ws ws1 : va_W) : Prop := ∀ (i q : Nat) (e : va_E), ws[i]? = some (q, e) → ∃ e1, ws1[i]? = some (q, e1)
def mm_h (w0 : va_W) (b : Nat) (tys : List (ClassId × FieldType)) (h : List mE) (ws : va_W) : Prop :=
  ws.length = h.length ∧ mm_ext w0 ws ∧ ∀ (i : Nat) (x : mE), h[i]? = some x → ∃ (q : Nat) (e : va_E), ws[i]? = some (q, e) ∧ mm_c b tys ws x e
theorem mm_ext.rf {ws : va_W} : mm_ext ws ws := fun _ _ e h => ⟨e, h⟩
theorem mm_ext.tr {ws ws1 ws2 : va_W} (h : mm_ext ws ws1) (h1 : mm_ext ws1 ws2) : mm_ext ws ws2 := fun i q e he => by
  obtain ⟨e1, h2⟩ := h i q e he
  exact h1 i q e1 h2
theorem mm_ext.set {ws : va_W} {i q : Nat} {e e1 : va_E} (h : ws[i]? = some (q, e)) : mm_ext ws (ws.set i (q, e1)) := by
  intro j q2 e2 hj
  have hl := (List.getElem?_eq_some_iff.mp h).1
  by_cases hij : i = j
  · subst hij
    cases h.symm.trans hj
    exact ⟨e1, by rw [List.getElem?_set_self hl]⟩
  · exact ⟨e2, by rw [List.getElem?_set_ne hij]; exact hj⟩
theorem mm_ext.app {ws : va_W} {x : Nat × va_E} : mm_ext ws (ws ++ [x]) := by
  intro j q2 e2 hj
  have hl := (List.getElem?_eq_some_iff.mp hj).1
  exact ⟨e2, by rw [List.getElem?_append_left hl]; exact hj⟩
theorem mm_v.ext {b : Nat} {ws ws1 : va_W} {v w : Value} (x : mm_ext ws ws1) (h : mm_v b ws v w) : mm_v b ws1 v w := by
  cases v <;> first | exact h | (obtain ⟨q, e, h1, h2⟩ := h; obtain ⟨e1, h3⟩ := x _ q e h1; exact ⟨q, e1, h3, h2⟩)
theorem mm_vs.ext {b : Nat} {ws ws1 : va_W} (x : mm_ext ws ws1) : ∀ {v w : List Value}, mm_vs b ws v w → mm_vs b ws1 v w
  | [], _, h => h
  | _ :: _, _, h => by
    obtain ⟨w0, w1, rfl, h1, h2⟩ := h
    exact ⟨w0, w1, rfl, h1.ext x, mm_vs.ext x h2⟩
theorem mm_l.ext {b : Nat} {ws ws1 : va_W} {nL : Nat} {ls : mL} {la : Array Slot} (x : mm_ext ws ws1) (h : mm_l b ws nL ls la) : mm_l b ws1 nL ls la := by
  obtain ⟨h0, lv, h1, h2⟩ := h
  refine ⟨h0, lv, h1, fun i v hv => ?_⟩
  obtain ⟨h3, w, h4, h5⟩ := h2 i v hv
  exact ⟨h3, w, h4.ext x, h5⟩
theorem mm_c.ext {b : Nat} {tys : List (ClassId × FieldType)} {ws ws1 : va_W} {x : mE} {e : va_E} (hx : mm_ext ws ws1) (h : mm_c b tys ws x e) : mm_c b tys ws1 x e := by
  rcases x with ⟨ty, a⟩ | ⟨ci, fs⟩ <;> rcases e with ⟨cA, a2⟩ | ⟨cj, gs⟩ <;> first | exact h | exact ⟨h.1, h.2.ext hx⟩
theorem mm_h.re {w0 w1 : va_W} {b : Nat} {tys : List (ClassId × FieldType)} {h : List mE} {ws : va_W} (hh : mm_h w1 b tys h ws) (hx : mm_ext w0 ws) : mm_h w0 b tys h ws := ⟨hh.1, hx, hh.2.2⟩
theorem mm_h.set {w0 : va_W} {b : Nat} {tys : List (ClassId × FieldType)} {h : List mE} {ws : va_W} {i q : Nat} {e e1 : va_E} {x : mE} (hh : mm_h w0 b tys h ws) (he : ws[i]? = some (q, e)) (hc : mm_c b tys ws x e1) : mm_h w0 b tys (h.set i x) (ws.set i (q, e1)) := by
  obtain ⟨h0, hx0, h1⟩ := hh
  have hX : mm_ext ws (ws.set i (q, e1)) := mm_ext.set he
  have hl := (List.getElem?_eq_some_iff.mp he).1
  refine ⟨by simp [h0], hx0.tr hX, fun j y hj => ?_⟩
  by_cases hij : i = j
  · subst hij
    rw [List.getElem?_set_self (by omega)] at hj
    cases hj
    exact ⟨q, e1, by rw [List.getElem?_set_self hl], hc.ext hX⟩
  · rw [List.getElem?_set_ne hij] at hj
    obtain ⟨q2, e2, h2, h3⟩ := h1 j y hj
    exact ⟨q2, e2, by rw [List.getElem?_set_ne hij]; exact h2, h3.ext hX⟩
theorem mm_h.app {w0 : va_W} {b : Nat} {tys : List (ClassId × FieldType)} {h : List mE} {ws : va_W} {q : Nat} {e1 : va_E} {x : mE} (hh : mm_h w0 b tys h ws) (hc : mm_c b tys ws x e1) : mm_h w0 b tys (h ++ [x]) (ws ++ [(q, e1)]) := by
  obtain ⟨h0, hx0, h1⟩ := hh
  have hX : mm_ext ws (ws ++ [(q, e1)]) := mm_ext.app
  refine ⟨by simp [h0], hx0.tr hX, fun j y hj => ?_⟩
  by_cases hij : j < h.length
  · rw [List.getElem?_append_left hij] at hj
    obtain ⟨q2, e2, h2, h3⟩ := h1 j y hj
    exact ⟨q2, e2, by rw [List.getElem?_append_left (by omega)]; exact h2, h3.ext hX⟩
  · have hl := (List.getElem?_eq_some_iff.mp hj).1
    have hj2 : j = h.length := by simp at hl; omega
    subst hj2
    have hy : x = y := by simpa using hj
    subst hy
    exact ⟨q, e1, by rw [← h0]; simp, hc.ext hX⟩
theorem mm_ld_some {ls : mL} {i : Nat} {v : Value} (hv : mm_ld ls i = some v) : ls[i]? = some (some v) := by
  unfold mm_ld at hv
  split at hv
  · cases hv; assumption
  · cases hv
theorem mm_ld_ok {b : Nat} {ws : va_W} {nL : Nat} {ls : mL} {la : Array Slot} {i : Nat} {v : Value} (h : mm_l b ws nL ls la) (hv : mm_ld ls i = some v) : ∃ w, mm_v b ws v w ∧ la[i]? = some (.val w) := by
  obtain ⟨h0, lv, h1, h2⟩ := h
  have hv2 : ls[i]? = some (some v) := by
    unfold mm_ld at hv
    split at hv
    · cases hv; assumption
    · cases hv
  obtain ⟨h3, w, h4, h5⟩ := h2 i v hv2
  exact ⟨w, h4, h1.2.2 (i, w) h5⟩
theorem mm_cat {b : Nat} {ws : va_W} {v w : Value} (h : mm_v b ws v w) (hc : mm_c1 v = true) : w.category = 1 := by
  cases v <;> first | (cases hc; done) | (obtain ⟨q, e, h1, rfl⟩ := h; rfl) | (cases h; rfl)
/-- a value stored: what the other places hold stays -/
theorem mm_l.put {b : Nat} {ws : va_W} {nL : Nat} {ls : mL} {la2 : Array Slot} {i : Nat} {v w : Value} {lv : List (Nat × Value)} (h0 : ls.length = nL) (h2 : ∀ (i : Nat) (v : Value), ls[i]? = some (some v) → mm_c1 v = true ∧ ∃ w, mm_v b ws v w ∧ (i, w) ∈ lv)
    (hs : lv_has la2 nL ((i, w) :: lv.filter (fun q => !(q.1 == i) && !(q.1 + 1 == i && q.2.category == 2)))) (hw : mm_v b ws v w) (hc : mm_c1 v = true) : mm_l b ws nL (ls.set i (some v)) la2 := by
  refine ⟨by simp [h0], _, hs, fun j v2 hj => ?_⟩
  by_cases hij : i = j
  · subst hij
    have hl := (List.getElem?_eq_some_iff.mp hj).1
    rw [List.length_set] at hl
    rw [List.getElem?_set_self hl] at hj
    cases hj
    exact ⟨hc, w, hw, List.mem_cons_self⟩
  · rw [List.getElem?_set_ne hij] at hj
    obtain ⟨h3, w2, h4, h5⟩ := h2 j v2 hj
    refine ⟨h3, w2, h4, List.mem_cons_of_mem _ (List.mem_filter.mpr ⟨h5, ?_⟩)⟩
    have hk : w2.category = 1 := mm_cat h4 h3
    simp [hk, Ne.symm hij]
theorem mm_l.drop {b : Nat} {ws : va_W} {nL : Nat} {ls : mL} {la2 : Array Slot} {i : Nat} {w : Value} {lv : List (Nat × Value)} (h0 : ls.length = nL) (h2 : ∀ (i : Nat) (v : Value), ls[i]? = some (some v) → mm_c1 v = true ∧ ∃ w, mm_v b ws v w ∧ (i, w) ∈ lv)
    (hs : lv_has la2 nL ((i, w) :: lv.filter (fun q => !(q.1 == i) && !(q.1 + 1 == i && q.2.category == 2)))) : mm_l b ws nL (ls.set i none) la2 := by
  refine ⟨by simp [h0], _, hs, fun j v2 hj => ?_⟩
  by_cases hij : i = j
  · subst hij
    have hl := (List.getElem?_eq_some_iff.mp hj).1
    rw [List.length_set] at hl
    rw [List.getElem?_set_self hl] at hj
    cases hj
  · rw [List.getElem?_set_ne hij] at hj
    obtain ⟨h3, w2, h4, h5⟩ := h2 j v2 hj
    refine ⟨h3, w2, h4, List.mem_cons_of_mem _ (List.mem_filter.mpr ⟨h5, ?_⟩)⟩
    have hk : w2.category = 1 := mm_cat h4 h3
    simp [hk, Ne.symm hij]
theorem mm_vs_get {b : Nat} {ws : va_W} : ∀ {fs gs : List Value} {k : Nat} {v : Value}, mm_vs b ws fs gs → fs[k]? = some v → ∃ w, gs[k]? = some w ∧ mm_v b ws v w
  | [], _, k, v, _, h => by simp at h
  | f :: fs, gs, 0, v, hg, h => by
    obtain ⟨w0, w1, rfl, h1, h2⟩ := hg
    have : f = v := by simpa using h
    subst this
    exact ⟨w0, rfl, h1⟩
  | f :: fs, gs, k + 1, v, hg, h => by
    obtain ⟨w0, w1, rfl, h1, h2⟩ := hg
    have h3 : fs[k]? = some v := by simpa using h
    obtain ⟨w, h4, h5⟩ := mm_vs_get h2 h3
    exact ⟨w, by simpa using h4, h5⟩
theorem mm_vs_len {b : Nat} {ws : va_W} : ∀ {fs gs : List Value}, mm_vs b ws fs gs → gs.length = fs.length
  | [], _, h => by cases h; rfl
  | _ :: _, _, h => by
    obtain ⟨w0, w1, rfl, h1, h2⟩ := h
    simp [mm_vs_len h2]
theorem mm_vs_set {b : Nat} {ws : va_W} {v w : Value} (hv : mm_v b ws v w) : ∀ {fs gs : List Value} {k : Nat}, mm_vs b ws fs gs → mm_vs b ws (fs.set k v) (gs.set k w)
  | [], _, _, h => by cases h; rfl
  | _ :: _, _, 0, h => by
    obtain ⟨w0, w1, rfl, h1, h2⟩ := h
    exact ⟨w, w1, rfl, hv, h2⟩
  | _ :: _, _, k + 1, h => by
    obtain ⟨w0, w1, rfl, h1, h2⟩ := h
    exact ⟨w0, w1.set k w, rfl, h1, mm_vs_set hv h2⟩
theorem mm_fit_ok {b : Nat} {ws : va_W} {ty : FieldType} {v w : Value} (hv : mm_v b ws v w) (h : mm_fit ty v) : narrow ty w = w ∧ fits ty w = true := by
  cases ty <;> cases v <;> first
    | exact h.elim
    | (cases hv; exact ⟨rfl, rfl⟩)
    | (cases hv; rcases h with rfl | rfl <;> exact ⟨by decide, by decide⟩)
    | (obtain ⟨q, e, h1, rfl⟩ := hv; exact ⟨rfl, rfl⟩)
theorem mm_in_ok {i : Int32} {n : Nat} (h : mm_in i n) : vp_in i n := by
  intro h2
  rcases h2 with h2 | h2
  · exact Int32.lt_irrefl (Int32.lt_of_lt_of_le h2 h.1)
  · exact absurd h.2 (Nat.not_lt.mpr h2)
theorem mm_sum {b : Nat} {ws : va_W} : ∀ {v w : List Value}, mm_vs b ws v w → (w.map Value.category).sum = (v.map Value.category).sum
  | [], _, h => by cases h; rfl
  | v :: r, _, h => by
    obtain ⟨w0, w1, rfl, h1, h2⟩ := h
    have h3 := mm_sum h2
    have h4 : w0.category = v.category := by
      cases v <;> first | (obtain ⟨q, e, h5, rfl⟩ := h1; rfl) | (cases h1; rfl)
    simp only [List.map_cons, List.sum_cons, h3, h4]
theorem mm_size {b : Nat} {ws : va_W} {nL : Nat} {ls : mL} {la : Array Slot} (h : mm_l b ws nL ls la) : la.size = nL := by
  obtain ⟨-, lv, h1, -⟩ := h
  exact h1.1
section MMG
variable (p : Program) (l : Launch) (e : Env) (R : Room) (s : State) (m : MethodId) (args : Array Value) (below : List Frame) (meth : Method) (c : Code) (D : va_G) (cl : List vw_C) (tys : List (ClassId × FieldType)) (A : Nat → Prop) (w0 : va_W) (b : Nat) (Q : State → Prop)
/-- the machine, at any state that x tells of, comes to Q -/
def mm_G (x : mC) : Prop := ∀ (H : Heap) (locs : List Loc) (ws : va_W) (la : Array Slot) (sv : List Value), mm_h w0 b tys x.2.2.2.1 ws → va_P D cl ws H → va_D A ws → va_S A s.heap H locs → mm_l b ws c.maxLocals x.2.1 la → mm_vs b ws x.2.2.1 sv →
  W p l e R s m args below meth c H locs x.2.2.2.2.1 x.2.2.2.2.2 Q (F0 m x.1 la sv)
end MMG
section MMR
variable {p : Program} {l : Launch} {e : Env} {R : Room} {s : State} {m : MethodId} {args : Array Value} {below : List Frame} {meth : Method} {c : Code} {D : va_G} {cl : List vw_C} {tys : List (ClassId × FieldType)} {A : Nat → Prop} {w0 : va_W} {b : Nat} {Q : State → Prop}
variable {cc : ByteArray} {pc len : Nat} {ins : Instr} {ls : mL} {st : List Value} {h : List mE} {kc ks : Nat} {ps : List Prop} {y : mC}
theorem mm_const_ok (hx : p.tables.exec = Jvm.exec) (hb : c.code = cc) (hd : decode cc pc = .ok (ins, mm_len ins)) {own : String} {a : Nat} (hown : s.vm.findClass own = some m.cls) (hk : ∀ i, ins = .ldc i → (Cond.constant own i (Int32.ofNat a)).before args s = true) (ho : mm_const pc ins a ls st h kc ks = some (ps, y)) (g : mm_G p l e R s m args below meth c D cl tys A w0 b Q y) : mm_G p l e R s m args below meth c D cl tys A w0 b Q (pc, ls, st, h, kc, ks) := by
  intro H locs ws la sv h1 h2 h3 h4 h5 h6
  unfold mm_const at ho
  split at ho
  · cases ho; exact lv_iconst hx hb hd rfl (g H locs ws la _ h1 h2 h3 h4 h5 ⟨_, _, rfl, rfl, h6⟩)
  · cases ho; exact lv_bipush hx hb hd rfl (g H locs ws la _ h1 h2 h3 h4 h5 ⟨_, _, rfl, rfl, h6⟩)
  · cases ho; exact lv_sipush hx hb hd rfl (g H locs ws la _ h1 h2 h3 h4 h5 ⟨_, _, rfl, rfl, h6⟩)
  · cases ho; exact lv_ldc hx hb hown (hk _ rfl) hd (g H locs ws la _ h1 h2 h3 h4 h5 ⟨_, _, rfl, rfl, h6⟩)
  · cases ho; exact lv_lconst hx hb hd rfl (g H locs ws la _ h1 h2 h3 h4 h5 ⟨_, _, rfl, rfl, h6⟩)
  · cases ho
theorem mm_load_ok (hx : p.tables.exec = Jvm.exec) (hb : c.code = cc) (hd : decode cc pc = .ok (ins, mm_len ins)) (ho : mm_load pc ins ls st h kc ks = some (ps, y)) (g : mm_G p l e R s m args below meth c D cl tys A w0 b Q y) : mm_G p l e R s m args below meth c D cl tys A w0 b Q (pc, ls, st, h, kc, ks) := by
  intro H locs ws la sv h1 h2 h3 h4 h5 h6
  unfold mm_load at ho
  split at ho
  · unfold mm_iload at ho
    split at ho
    · rename_i x hl
      cases ho
      obtain ⟨w, hw, hl2⟩ := mm_ld_ok h5 hl
      cases hw
      exact lv_iload_n hx hb hd rfl hl2 (g H locs ws la _ h1 h2 h3 h4 h5 ⟨_, _, rfl, rfl, h6⟩)
    · cases ho
  · unfold mm_iload at ho
    split at ho
    · rename_i x hl
      cases ho
      obtain ⟨w, hw, hl2⟩ := mm_ld_ok h5 hl
      cases hw
      exact lv_iload hx hb hd hl2 (g H locs ws la _ h1 h2 h3 h4 h5 ⟨_, _, rfl, rfl, h6⟩)
    · cases ho
  · unfold mm_aload at ho
    split at ho
    · rename_i x hl
      cases ho
      obtain ⟨w, hw, hl2⟩ := mm_ld_ok h5 hl
      obtain ⟨q, e2, hq, rfl⟩ := id hw
      exact lv_aload_n hx hb hd rfl hl2 (g H locs ws la _ h1 h2 h3 h4 h5 ⟨_, _, rfl, hw, h6⟩)
    · rename_i x hl
      cases ho
      obtain ⟨w, hw, hl2⟩ := mm_ld_ok h5 hl
      cases hw
      exact lv_aload_n hx hb hd rfl hl2 (g H locs ws la _ h1 h2 h3 h4 h5 ⟨_, _, rfl, rfl, h6⟩)
    · cases ho
  · unfold mm_aload at ho
    split at ho
    · rename_i x hl
      cases ho
      obtain ⟨w, hw, hl2⟩ := mm_ld_ok h5 hl
      obtain ⟨q, e2, hq, rfl⟩ := id hw
      exact lv_aload hx hb hd hl2 (g H locs ws la _ h1 h2 h3 h4 h5 ⟨_, _, rfl, hw, h6⟩)
    · rename_i x hl
      cases ho
      obtain ⟨w, hw, hl2⟩ := mm_ld_ok h5 hl
      cases hw
      exact lv_aload hx hb hd hl2 (g H locs ws la _ h1 h2 h3 h4 h5 ⟨_, _, rfl, rfl, h6⟩)
    · cases ho
  · cases ho
theorem mm_store_ok (hx : p.tables.exec = Jvm.exec) (hb : c.code = cc) (hd : decode cc pc = .ok (ins, mm_len ins)) (ho : mm_store pc ins ls st h kc ks = some (ps, y)) (g : mm_G p l e R s m args below meth c D cl tys A w0 b Q y) : mm_G p l e R s m args below meth c D cl tys A w0 b Q (pc, ls, st, h, kc, ks) := by
  intro H locs ws la sv h1 h2 h3 h4 h5 h6
  unfold mm_store at ho
  split at ho
  · unfold mm_istore at ho
    split at ho
    · unfold mm_st at ho
      split at ho
      · rename_i hi
        cases ho
        obtain ⟨w0, w1, rfl, hw, h6⟩ := h6
        cases hw
        obtain ⟨h50, lv, h51, h52⟩ := h5
        have h50 : ls.length = c.maxLocals := h50
        exact lv_istore_n hx hb hd rfl h51 (by omega) rfl (fun la2 hl2 => g H locs ws la2 _ h1 h2 h3 h4 (mm_l.put h50 h52 hl2 rfl rfl) h6)
      · cases ho
    · cases ho
  · unfold mm_istore at ho
    split at ho
    · unfold mm_st at ho
      split at ho
      · rename_i hi
        cases ho
        obtain ⟨w0, w1, rfl, hw, h6⟩ := h6
        cases hw
        obtain ⟨h50, lv, h51, h52⟩ := h5
        have h50 : ls.length = c.maxLocals := h50
        exact lv_istore hx hb hd h51 (by omega) rfl (fun la2 hl2 => g H locs ws la2 _ h1 h2 h3 h4 (mm_l.put h50 h52 hl2 rfl rfl) h6)
      · cases ho
    · cases ho
  · unfold mm_astore at ho
    split at ho
    · unfold mm_st at ho
      split at ho
      · rename_i hi
        cases ho
        obtain ⟨w0, w1, rfl, hw, h6⟩ := h6
        obtain ⟨q, e2, hq, rfl⟩ := id hw
        obtain ⟨h50, lv, h51, h52⟩ := h5
        have h50 : ls.length = c.maxLocals := h50
        exact lv_astore_n hx hb hd rfl h51 (by omega) rfl (fun la2 hl2 => g H locs ws la2 _ h1 h2 h3 h4 (mm_l.put h50 h52 hl2 hw rfl) h6)
      · cases ho
    · cases ho
  · unfold mm_astore at ho
    split at ho
    · unfold mm_st at ho
      split at ho
      · rename_i hi
        cases ho
        obtain ⟨w0, w1, rfl, hw, h6⟩ := h6
        obtain ⟨q, e2, hq, rfl⟩ := id hw
        obtain ⟨h50, lv, h51, h52⟩ := h5
        have h50 : ls.length = c.maxLocals := h50
        exact lv_astore hx hb hd h51 (by omega) rfl (fun la2 hl2 => g H locs ws la2 _ h1 h2 h3 h4 (mm_l.put h50 h52 hl2 hw rfl) h6)
      · cases ho
    · cases ho
  · unfold mm_iinc at ho
    split at ho
    · rename_i x hl
      unfold mm_st at ho
      split at ho
      · rename_i hi
        cases ho
        obtain ⟨h50, lv, h51, h52⟩ := h5
        have h50 : ls.length = c.maxLocals := h50
        have hl3 := mm_ld_some hl
        obtain ⟨-, w, hw, hm⟩ := h52 _ _ hl3
        cases hw
        obtain ⟨k9, hk9⟩ := List.getElem?_of_mem hm
        exact lv_iinc hx hb hd h51 hk9 rfl (by omega) rfl (fun la2 hl2 => g H locs ws la2 _ h1 h2 h3 h4 (mm_l.put h50 h52 hl2 rfl rfl) h6)
      · cases ho
    · cases ho
  · cases ho
theorem mm_arith_ok (hx : p.tables.exec = Jvm.exec) (hb : c.code = cc) (hd : decode cc pc = .ok (ins, mm_len ins)) (ho : mm_arith pc ins ls st h kc ks = some (ps, y)) (hp : mm_all ps) (g : mm_G p l e R s m args below meth c D cl tys A w0 b Q y) : mm_G p l e R s m args below meth c D cl tys A w0 b Q (pc, ls, st, h, kc, ks) := by
  intro H locs ws la sv h1 h2 h3 h4 h5 h6
  unfold mm_arith at ho
  split at ho
  · obtain ⟨w0, w1, rfl, hw, w2, w3, rfl, hw2, h6⟩ := h6
    cases hw
    cases hw2
    unfold mm_bin at ho
    split at ho
    · cases ho; exact lv_iadd hx hb hd (g H locs ws la _ h1 h2 h3 h4 h5 ⟨_, _, rfl, rfl, h6⟩)
    · cases ho; exact lv_isub hx hb hd (g H locs ws la _ h1 h2 h3 h4 h5 ⟨_, _, rfl, rfl, h6⟩)
    · cases ho; exact lv_imul hx hb hd (g H locs ws la _ h1 h2 h3 h4 h5 ⟨_, _, rfl, rfl, h6⟩)
    · cases ho; exact lv_iand hx hb hd (g H locs ws la _ h1 h2 h3 h4 h5 ⟨_, _, rfl, rfl, h6⟩)
    · cases ho; exact lv_idiv hx hb hd hp.1 (g H locs ws la _ h1 h2 h3 h4 h5 ⟨_, _, rfl, rfl, h6⟩)
    · cases ho; exact lv_irem hx hb hd hp.1 (g H locs ws la _ h1 h2 h3 h4 h5 ⟨_, _, rfl, rfl, h6⟩)
    · cases ho
  · cases ho
theorem mm_un_ok (hx : p.tables.exec = Jvm.exec) (hb : c.code = cc) (hd : decode cc pc = .ok (ins, mm_len ins)) (ho : mm_un pc ins ls st h kc ks = some (ps, y)) (g : mm_G p l e R s m args below meth c D cl tys A w0 b Q y) : mm_G p l e R s m args below meth c D cl tys A w0 b Q (pc, ls, st, h, kc, ks) := by
  intro H locs ws la sv h1 h2 h3 h4 h5 h6
  unfold mm_un at ho
  split at ho
  · obtain ⟨w0, w1, rfl, hw, h6⟩ := h6
    cases hw
    split at ho
    · cases ho; exact lv_ineg hx hb hd (g H locs ws la _ h1 h2 h3 h4 h5 ⟨_, _, rfl, rfl, h6⟩)
    · cases ho; exact lv_i2l hx hb hd rfl (g H locs ws la _ h1 h2 h3 h4 h5 ⟨_, _, rfl, rfl, h6⟩)
    · cases ho
  · cases ho
theorem mm_stk_ok (hx : p.tables.exec = Jvm.exec) (hb : c.code = cc) (hd : decode cc pc = .ok (ins, mm_len ins)) (ho : mm_stk pc ins ls st h kc ks = some (ps, y)) (g : mm_G p l e R s m args below meth c D cl tys A w0 b Q y) : mm_G p l e R s m args below meth c D cl tys A w0 b Q (pc, ls, st, h, kc, ks) := by
  intro H locs ws la sv h1 h2 h3 h4 h5 h6
  unfold mm_stk at ho
  split at ho
  · split at ho
    · rename_i h9
      cases ho
      obtain ⟨w0, w1, rfl, hw, h6⟩ := h6
      exact lv_dup hx hb hd (mm_cat hw h9) (g H locs ws la _ h1 h2 h3 h4 h5 ⟨_, _, rfl, hw, _, _, rfl, hw, h6⟩)
    · cases ho
  · split at ho
    · rename_i h9
      cases ho
      obtain ⟨w0, w1, rfl, hw, h6⟩ := h6
      exact lv_pop hx hb hd (mm_cat hw h9) (g H locs ws la _ h1 h2 h3 h4 h5 h6)
    · cases ho
  · split at ho
    · rename_i h9
      cases ho
      rw [Bool.and_eq_true] at h9
      obtain ⟨w0, w1, rfl, hw, w2, w3, rfl, hw2, h6⟩ := h6
      exact lv_dup2_11 hx hb hd (mm_cat hw h9.1) (mm_cat hw2 h9.2) (g H locs ws la _ h1 h2 h3 h4 h5 ⟨_, _, rfl, hw, _, _, rfl, hw2, _, _, rfl, hw, _, _, rfl, hw2, h6⟩)
    · cases ho
  · split at ho
    · rename_i h9
      cases ho
      rw [Bool.and_eq_true] at h9
      obtain ⟨w0, w1, rfl, hw, w2, w3, rfl, hw2, h6⟩ := h6
      exact lv_dup_x1 hx hb hd (mm_cat hw h9.1) (mm_cat hw2 h9.2) (g H locs ws la _ h1 h2 h3 h4 h5 ⟨_, _, rfl, hw, _, _, rfl, hw2, _, _, rfl, hw, h6⟩)
    · cases ho
  · cases ho
theorem mm_goto_ok (hx : p.tables.exec = Jvm.exec) (hb : c.code = cc) (hd : decode cc pc = .ok (ins, mm_len ins)) {off : Int} {x : Nat} (hi : ins = .goto off) (ht : (pc : Int) + off = (x : Int)) (g : mm_G p l e R s m args below meth c D cl tys A w0 b Q (x, ls, st, h, kc, ks)) : mm_G p l e R s m args below meth c D cl tys A w0 b Q (pc, ls, st, h, kc, ks) := by
  intro H locs ws la sv h1 h2 h3 h4 h5 h6
  subst hi
  exact lv_goto hx hb hd ht (g H locs ws la _ h1 h2 h3 h4 h5 h6)
theorem mm_lcmp_ok (hx : p.tables.exec = Jvm.exec) (hb : c.code = cc) (hd : decode cc pc = .ok (ins, mm_len ins)) (hi : ins = .lcmp) (ho : mm_lcmp pc ls st h kc ks = some (ps, y)) (g : mm_G p l e R s m args below meth c D cl tys A w0 b Q y) : mm_G p l e R s m args below meth c D cl tys A w0 b Q (pc, ls, st, h, kc, ks) := by
  intro H locs ws la sv h1 h2 h3 h4 h5 h6
  subst hi
  unfold mm_lcmp at ho
  split at ho
  · cases ho
    obtain ⟨w0, w1, rfl, hw, w2, w3, rfl, hw2, h6⟩ := h6
    cases hw
    cases hw2
    exact W.lcmp hx hb hd (g H locs ws la _ h1 h2 h3 h4 h5 ⟨_, _, rfl, rfl, h6⟩)
  · cases ho
theorem mm_obj_ok (hx : p.tables.exec = Jvm.exec) (hb : c.code = cc) (hd : decode cc pc = .ok (ins, mm_len ins)) {own : String} {i : Nat} (hown : s.vm.findClass own = some m.cls) (hi : ins = .invokespecial i) (hk1 : (Cond.methodLink own i Lib.objectInit).before args s = true) (hk2 : (Cond.instanceMethod Lib.objectInit).before args s = true) (hk3 : (Cond.code Lib.objectInit ⟨#[0xb1]⟩ 1 none).before args s = true) (hR : 1 ≤ R.frames ∧ 64 ≤ R.locals) (hst : (st.map Value.category).sum ≤ 8)
    (ho : mm_obj pc ls st h kc ks = some (ps, y)) (g : mm_G p l e R s m args below meth c D cl tys A w0 b Q y) : mm_G p l e R s m args below meth c D cl tys A w0 b Q (pc, ls, st, h, kc, ks) := by
  intro H locs ws la sv h1 h2 h3 h4 h5 h6
  subst hi
  unfold mm_obj at ho
  split at ho
  · cases ho
    have hz := mm_sum h6
    obtain ⟨w0, w1, rfl, hw, h6⟩ := h6
    obtain ⟨q, e2, hq, rfl⟩ := id hw
    refine W.objInit hx hb hown hk1 hk2 hk3 (g := F0 m pc la (.ref q :: w1)) rfl (mm_size h5) rfl hd hR.1 ?_ (g H locs ws la _ h1 h2 h3 h4 h5 h6)
    have h9 : (F0 m pc la (.ref q :: w1)).monitorRoom = 0 := rfl
    simp only [List.map_cons, List.sum_cons] at hz hst
    have hz2 : (w1.map fun v => v.category).sum = (w1.map Value.category).sum := rfl
    have hz3 : (Value.ref q).category = 1 := rfl
    omega
  · cases ho
theorem mm_math_ok (hx : p.tables.exec = Jvm.exec) (hb : c.code = cc) (hd : decode cc pc = .ok (ins, mm_len ins)) {own : String} {i k : Nat} (hown : s.vm.findClass own = some m.cls) (hi : ins = .invokestatic i)
    (hk0 : k = 0 → (Cond.methodLink own i Lib.Math.max.name).before args s = true ∧ (Cond.static Lib.Math.max.name).before args s = true ∧ (Cond.initialized "java/lang/Math").before args s = true ∧ (Cond.code Lib.Math.max.name Lib.Math.max.code 2 (some .int)).before args s = true)
    (hk1 : k = 1 → (Cond.methodLink own i Lib.Math.min.name).before args s = true ∧ (Cond.static Lib.Math.min.name).before args s = true ∧ (Cond.initialized "java/lang/Math").before args s = true ∧ (Cond.code Lib.Math.min.name Lib.Math.min.code 2 (some .int)).before args s = true)
    (hR : 1 ≤ R.frames ∧ 64 ≤ R.locals) (hst : (st.map Value.category).sum ≤ 12) {mc ms : Nat} (hcc : mc ≤ R.cells ∧ ms ≤ R.slots)
    (ho : mm_math mc ms k pc ls st h kc ks = some (ps, y)) (hp : mm_all ps) (g : mm_G p l e R s m args below meth c D cl tys A w0 b Q y) : mm_G p l e R s m args below meth c D cl tys A w0 b Q (pc, ls, st, h, kc, ks) := by
  intro H locs ws la sv h1 h2 h3 h4 h5 h6
  subst hi
  unfold mm_math at ho
  split at ho
  · have hz := mm_sum h6
    obtain ⟨w0, w1, rfl, hw, w2, w3, rfl, hw2, h6⟩ := h6
    cases hw
    cases hw2
    simp only [List.map_cons, List.sum_cons] at hz hst
    have hz2 : (w3.map fun v => v.category).sum = (w3.map Value.category).sum := rfl
    split at ho
    · cases ho
      obtain ⟨q1, q2, q3, q4⟩ := hk0 rfl
      exact va_mmax hx hb (mm_size h5).symm hown q1 q2 q3 q4 hR.1 (by omega) (Nat.le_trans hp.1 hcc.1) (Nat.le_trans hp.2.1 hcc.2) hd (g H locs ws la _ h1 h2 h3 h4 h5 ⟨_, _, rfl, rfl, h6⟩)
    · cases ho
      obtain ⟨q1, q2, q3, q4⟩ := hk1 rfl
      exact va_mmin hx hb (mm_size h5).symm hown q1 q2 q3 q4 hR.1 (by omega) (Nat.le_trans hp.1 hcc.1) (Nat.le_trans hp.2.1 hcc.2) hd (g H locs ws la _ h1 h2 h3 h4 h5 ⟨_, _, rfl, rfl, h6⟩)
    · cases ho
  · cases ho
theorem mm_sw_ok (hx : p.tables.exec = Jvm.exec) (hb : c.code = cc) (hd : decode cc pc = .ok (ins, len)) (ho : mm_sw pc ins ls st h kc ks = some (ps, y)) (hp : mm_all ps) (g : mm_G p l e R s m args below meth c D cl tys A w0 b Q y) : mm_G p l e R s m args below meth c D cl tys A w0 b Q (pc, ls, st, h, kc, ks) := by
  intro H locs ws la sv h1 h2 h3 h4 h5 h6
  unfold mm_sw at ho
  split at ho
  · obtain ⟨w0, w1, rfl, hw, h6⟩ := h6
    cases hw
    split at ho
    · rename_i h9
      cases ho
      exact lv_tableOut hx hb hd h9 hp.1 (g H locs ws la _ h1 h2 h3 h4 h5 h6)
    · rename_i h9
      split at ho
      · rename_i o ho2
        cases ho
        exact lv_tableIn hx hb hd (fun z => h9 (Or.inl z)) (fun z => h9 (Or.inr z)) ho2 hp.1 (g H locs ws la _ h1 h2 h3 h4 h5 h6)
      · cases ho
  · cases ho
theorem mm_if_ok (hx : p.tables.exec = Jvm.exec) (hb : c.code = cc) (hd : decode cc pc = .ok (ins, mm_len ins)) {q : ClassFile.Cond} {off : Int} {x : Int32} {r : List Value} {tgt : Nat} (hi : ins = .ifCond q off) (hs : st = .int x :: r) (ht : (pc : Int) + off = (tgt : Int)) (g1 : mm_cmp q x 0 → mm_G p l e R s m args below meth c D cl tys A w0 b Q (tgt, ls, r, h, kc, ks)) (g2 : ¬ mm_cmp q x 0 → mm_G p l e R s m args below meth c D cl tys A w0 b Q (pc + 3, ls, r, h, kc, ks)) : mm_G p l e R s m args below meth c D cl tys A w0 b Q (pc, ls, st, h, kc, ks) := by
  intro H locs ws la sv h1 h2 h3 h4 h5 h6
  subst hi
  subst hs
  obtain ⟨w0, w1, rfl, hw, h6⟩ := h6
  cases hw
  cases q
  · exact lv_if_eq hx hb hd ht (fun z => g1 z H locs ws la _ h1 h2 h3 h4 h5 h6) (fun z => g2 z H locs ws la _ h1 h2 h3 h4 h5 h6)
  · exact lv_if_ne hx hb hd ht (fun z => g1 z H locs ws la _ h1 h2 h3 h4 h5 h6) (fun z => g2 (fun z2 => z2 z) H locs ws la _ h1 h2 h3 h4 h5 h6)
  · exact lv_if_lt hx hb hd ht (fun z => g1 z H locs ws la _ h1 h2 h3 h4 h5 h6) (fun z => g2 z H locs ws la _ h1 h2 h3 h4 h5 h6)
  · exact lv_if_ge hx hb hd ht (fun z => g1 z H locs ws la _ h1 h2 h3 h4 h5 h6) (fun z => g2 z H locs ws la _ h1 h2 h3 h4 h5 h6)
  · exact lv_if_gt hx hb hd ht (fun z => g1 z H locs ws la _ h1 h2 h3 h4 h5 h6) (fun z => g2 z H locs ws la _ h1 h2 h3 h4 h5 h6)
  · exact lv_if_le hx hb hd ht (fun z => g1 z H locs ws la _ h1 h2 h3 h4 h5 h6) (fun z => g2 z H locs ws la _ h1 h2 h3 h4 h5 h6)
theorem mm_icmp_ok (hx : p.tables.exec = Jvm.exec) (hb : c.code = cc) (hd : decode cc pc = .ok (ins, mm_len ins)) {q : ClassFile.Cond} {off : Int} {x x2 : Int32} {r : List Value} {tgt : Nat} (hi : ins = .if_icmp q off) (hs : st = .int x2 :: .int x :: r) (ht : (pc : Int) + off = (tgt : Int)) (g1 : mm_cmp q x x2 → mm_G p l e R s m args below meth c D cl tys A w0 b Q (tgt, ls, r, h, kc, ks)) (g2 : ¬ mm_cmp q x x2 → mm_G p l e R s m args below meth c D cl tys A w0 b Q (pc + 3, ls, r, h, kc, ks)) : mm_G p l e R s m args below meth c D cl tys A w0 b Q (pc, ls, st, h, kc, ks) := by
  intro H locs ws la sv h1 h2 h3 h4 h5 h6
  subst hi
  subst hs
  obtain ⟨w0, w1, rfl, hw, w2, w3, rfl, hw2, h6⟩ := h6
  cases hw
  cases hw2
  cases q
  · exact lv_icmp_eq hx hb hd ht (fun z => g1 z H locs ws la _ h1 h2 h3 h4 h5 h6) (fun z => g2 z H locs ws la _ h1 h2 h3 h4 h5 h6)
  · exact lv_icmp_ne hx hb hd ht (fun z => g1 z H locs ws la _ h1 h2 h3 h4 h5 h6) (fun z => g2 (fun z2 => z2 z) H locs ws la _ h1 h2 h3 h4 h5 h6)
  · exact lv_icmp_lt hx hb hd ht (fun z => g1 z H locs ws la _ h1 h2 h3 h4 h5 h6) (fun z => g2 z H locs ws la _ h1 h2 h3 h4 h5 h6)
  · exact lv_icmp_ge hx hb hd ht (fun z => g1 z H locs ws la _ h1 h2 h3 h4 h5 h6) (fun z => g2 z H locs ws la _ h1 h2 h3 h4 h5 h6)
  · exact lv_icmp_gt hx hb hd ht (fun z => g1 z H locs ws la _ h1 h2 h3 h4 h5 h6) (fun z => g2 z H locs ws la _ h1 h2 h3 h4 h5 h6)
  · exact lv_icmp_le hx hb hd ht (fun z => g1 z H locs ws la _ h1 h2 h3 h4 h5 h6) (fun z => g2 z H locs ws la _ h1 h2 h3 h4 h5 h6)
end MMR
end
section
/-! the small machine's cells: fields, arrays, what is made -/
theorem mm_c_arr {b : Nat} {tys : List (ClassId × FieldType)} {ws : va_W} {ty : FieldType} {cA : ClassId} {a : vp_A} (h : (cA, ty) ∈ tys) : mm_c b tys ws (.inl (ty, a)) (.inl (cA, a)) := ⟨rfl, h⟩
theorem mm_c_obj {b : Nat} {tys : List (ClassId × FieldType)} {ws : va_W} {ci : Nat} {fs gs : List Value} (h : mm_vs b ws fs gs) : mm_c b tys ws (.inr (ci, fs)) (.inr (ci, gs)) := ⟨rfl, h⟩
theorem mm_v_new {w0 : va_W} {b : Nat} {tys : List (ClassId × FieldType)} {h : List mE} {ws : va_W} {q : Nat} {e1 : va_E} (hh : mm_h w0 b tys h ws) : mm_v b (ws ++ [(q, e1)]) (.ref h.length) (.ref q) := ⟨q, e1, by rw [← hh.1]; simp, rfl⟩
theorem mm_cell {w0 : va_W} {b : Nat} {tys : List (ClassId × FieldType)} {h : List mE} {ws : va_W} {i q ci : Nat} {e : va_E} {fs : List Value} (hh : mm_h w0 b tys h ws) (hi : h[i]? = some (.inr (ci, fs))) (hq : ws[i]? = some (q, e)) : ∃ gs, e = .inr (ci, gs) ∧ mm_vs b ws fs gs := by
  obtain ⟨q3, e3, hq3, hc3⟩ := hh.2.2 i _ hi
  cases hq.symm.trans hq3
  rcases e with e | ⟨cj, gs⟩
  · exact hc3.elim
  · obtain ⟨rfl, hgs⟩ := hc3
    exact ⟨gs, rfl, hgs⟩
theorem mm_arr {w0 : va_W} {b : Nat} {tys : List (ClassId × FieldType)} {h : List mE} {ws : va_W} {i q : Nat} {e : va_E} {ty : FieldType} {a : vp_A} (hh : mm_h w0 b tys h ws) (hi : h[i]? = some (.inl (ty, a))) (hq : ws[i]? = some (q, e)) : ∃ (cA : ClassId) (t0 : Nat), e = .inl (cA, a) ∧ tys[t0]? = some (cA, ty) := by
  obtain ⟨q3, e3, hq3, hc3⟩ := hh.2.2 i _ hi
  cases hq.symm.trans hq3
  rcases e with ⟨cA, a2⟩ | e
  · obtain ⟨rfl, hm⟩ := hc3
    obtain ⟨t0, ht0⟩ := List.getElem?_of_mem hm
    exact ⟨cA, t0, rfl, ht0⟩
  · exact hc3.elim
theorem mm_defs {b : Nat} {ws : va_W} : ∀ {tl : List FieldType}, (∀ ty ∈ tl, ty ≠ .float) → mm_vs b ws (tl.map defaultValue) (tl.map defaultValue)
  | [], _ => rfl
  | t :: tl, h => by
    refine ⟨_, _, rfl, ?_, mm_defs (fun ty hy => h ty (List.mem_cons_of_mem _ hy))⟩
    have h1 := h t List.mem_cons_self
    cases t <;> first | rfl | exact absurd rfl h1
theorem mm_defV {tl : List FieldType} {j : Nat} (h : j < tl.length) : defaultValue (tl.getD j .int) = vp_V (tl.map defaultValue) j := by
  unfold vp_V
  rw [List.getD_eq_getElem?_getD, List.getD_eq_getElem?_getD, List.getElem?_map, List.getElem?_eq_getElem h]
  rfl
section MMH
variable {p : Program} {l : Launch} {e : Env} {R : Room} {s : State} {m : MethodId} {args : Array Value} {below : List Frame} {meth : Method} {c : Code} {D : va_G} {cl : List vw_C} {tys : List (ClassId × FieldType)} {A : Nat → Prop} {w0 : va_W} {b : Nat} {Q : State → Prop}
variable {cc : ByteArray} {pc len : Nat} {ins : Instr} {ls : mL} {st : List Value} {h : List mE} {kc ks : Nat} {ps : List Prop} {y : mC}
variable {own C : String} {T : u_T} {N ci k idx : Nat} {Ts : List Cond} {K : mK} {tl : List FieldType} {sc : mS}
theorem mm_getf_ok (hx : p.tables.exec = Jvm.exec) (hb : c.code = cc) (hd : decode cc pc = .ok (ins, mm_len ins)) (hts : ∀ w ∈ Ts, w.before args s = true) (hin : ∀ w ∈ u_ws C T N, w ∈ Ts) (hown : s.vm.findClass own = some m.cls) (hK : va_K D cl tys s) (hc : cl[ci]? = some (C, T, N)) (hk : k < N) (hlink : (Cond.fieldLink own idx (T k).1 (T k).2.1 (T k).2.2.1).before args s = true ∨ ∃ host, (Cond.fieldLinkNest own idx (T k).1 (T k).2.1 (T k).2.2.1 host).before args s = true) (hi : ins = .getfield idx) (ho : mm_getf pc ci k ls st h kc ks = some (ps, y)) (g : mm_G p l e R s m args below meth c D cl tys A w0 b Q y) : mm_G p l e R s m args below meth c D cl tys A w0 b Q (pc, ls, st, h, kc, ks) := by
  intro H locs ws la sv h1 h2 h3 h4 h5 h6
  subst hi
  unfold mm_getf at ho
  split at ho
  · split at ho
    · rename_i hh
      split at ho
      · rename_i hcj hf
        cases ho
        have hcj2 := eq_of_beq hcj
        subst hcj2
        obtain ⟨w0, w1, rfl, hw, h6⟩ := h6
        obtain ⟨q, e2, hq, rfl⟩ := hw
        obtain ⟨gs, rfl, hgs⟩ := mm_cell h1 hh hq
        obtain ⟨w, hw1, hw2⟩ := mm_vs_get hgs hf
        rcases hlink with hlink | ⟨host, hlink⟩
        · exact va_get hx hb hts hin hown hK h2 _ hq hc k hk hlink (fun _ z => z) hw1 hd (g H locs ws la _ h1 h2 h3 h4 h5 ⟨_, _, rfl, hw2, h6⟩)
        · exact va_getN hx hb hts hin hown hK h2 _ hq hc k hk hlink (fun _ z => z) hw1 hd (g H locs ws la _ h1 h2 h3 h4 h5 ⟨_, _, rfl, hw2, h6⟩)
      · cases ho
    · cases ho
  · cases ho
theorem mm_putf_ok (hx : p.tables.exec = Jvm.exec) (hb : c.code = cc) (hd : decode cc pc = .ok (ins, mm_len ins)) (hts : ∀ w ∈ Ts, w.before args s = true) (hin : ∀ w ∈ u_ws C T N, w ∈ Ts) (hown : s.vm.findClass own = some m.cls) (hK : va_K D cl tys s) (hc : cl[ci]? = some (C, T, N)) (hk : k < N) (hlink : (Cond.fieldLink own idx (T k).1 (T k).2.1 (T k).2.2.1).before args s = true ∨ ∃ host, (Cond.fieldLinkNest own idx (T k).1 (T k).2.1 (T k).2.2.1 host).before args s = true) (hKc : K[ci]? = some (C, T, N, tl)) (hty : ∀ k, k < N → parseFieldDescriptor (T k).2.2.1 = some (tl.getD k .int)) (hnm : ∀ a, a < N → ∀ b, b < N → a ≠ b → (T a).2.1 ≠ (T b).2.1)
    (hfin : (T k).2.2.2 = false ∨ ((T k).2.2.2 = true ∧ meth.name = "<init>" ∧ (T k).1 = own ∧ (Cond.fieldLink own idx (T k).1 (T k).2.1 (T k).2.2.1).before args s = true)) (hi : ins = .putfield idx) (ho : mm_putf K pc ci k ls st h kc ks = some (ps, y)) (hp : mm_all ps) (g : mm_G p l e R s m args below meth c D cl tys A w0 b Q y) : mm_G p l e R s m args below meth c D cl tys A w0 b Q (pc, ls, st, h, kc, ks) := by
  intro H locs ws la sv h1 h2 h3 h4 h5 h6
  subst hi
  unfold mm_putf at ho
  split at ho
  · split at ho
    · rename_i hh
      split at ho
      · rename_i hcj hKq
        split at ho
        · rename_i ty hf
          cases ho
          have hcj2 := eq_of_beq hcj
          subst hcj2
          cases hKc.symm.trans hKq
          obtain ⟨wv, w8, rfl, hwv, w0, w1, rfl, hw, h6⟩ := h6
          obtain ⟨q, e2, hq, rfl⟩ := hw
          obtain ⟨gs, rfl, hgs⟩ := mm_cell h1 hh hq
          obtain ⟨hp1, hp2, -⟩ := hp
          obtain ⟨hn, hfit⟩ := mm_fit_ok hwv hp1
          have hd9 : parseFieldDescriptor (T k).2.2.1 = some ty := by
            rw [hty k hk, List.getD_eq_getElem?_getD]
            have hf2 : tl[k]? = some ty := hf
            rw [hf2]
            rfl
          have hl9 : k < gs.length := by rw [mm_vs_len hgs]; exact hp2
          rcases hfin with hfin | ⟨hfin, hini, hdecl, hlink⟩
          · rcases hlink with hlink | ⟨host, hlink⟩
            · exact va_put hx hb hts hin (fun j => tl.getD j .int) hty hnm hown hK h2 h3 h4 _ hq hc k hk hlink (fun _ z => z) hfin hd9 hn hfit hl9 hd (fun H1 locs1 hP1 hD1 hS1 => g H1 locs1 _ la _ (mm_h.set h1 hq (mm_c_obj (mm_vs_set hwv hgs))) hP1 hD1 hS1 (h5.ext (mm_ext.set hq)) (h6.ext (mm_ext.set hq)))
            · exact va_putN hx hb hts hin (fun j => tl.getD j .int) hty hnm hown hK h2 h3 h4 _ hq hc k hk hlink (fun _ z => z) hfin hd9 hn hfit hl9 hd (fun H1 locs1 hP1 hD1 hS1 => g H1 locs1 _ la _ (mm_h.set h1 hq (mm_c_obj (mm_vs_set hwv hgs))) hP1 hD1 hS1 (h5.ext (mm_ext.set hq)) (h6.ext (mm_ext.set hq)))
          · exact va_putF hx hb hts hin (fun j => tl.getD j .int) hty hnm hown hK h2 h3 h4 _ hq hc k hk hlink (fun _ z => z) hfin hini hdecl hd9 hn hfit hl9 hd (fun H1 locs1 hP1 hD1 hS1 => g H1 locs1 _ la _ (mm_h.set h1 hq (mm_c_obj (mm_vs_set hwv hgs))) hP1 hD1 hS1 (h5.ext (mm_ext.set hq)) (h6.ext (mm_ext.set hq)))
        · cases ho
      · cases ho
    · cases ho
  · cases ho
theorem mm_ald_ok (hx : p.tables.exec = Jvm.exec) (hb : c.code = cc) (hd : decode cc pc = .ok (ins, mm_len ins)) (hK : va_K D cl tys s) (hX : va_X b sc.1 sc.2 s s.heap) (hbl : b < s.heap.size) (hbA : ¬ A b) (ho : mm_ald sc pc ins ls st h kc ks = some (ps, y)) (hp : mm_all ps) (g : mm_G p l e R s m args below meth c D cl tys A w0 b Q y) : mm_G p l e R s m args below meth c D cl tys A w0 b Q (pc, ls, st, h, kc, ks) := by
  intro H locs ws la sv h1 h2 h3 h4 h5 h6
  unfold mm_ald at ho
  split at ho
  · split at ho
    · rename_i hh
      cases ho
      obtain ⟨w0, w1, rfl, hw, w2, w3, rfl, hw2, h6⟩ := h6
      cases hw
      obtain ⟨q, e2, hq, rfl⟩ := hw2
      obtain ⟨cA, t0, rfl, ht0⟩ := mm_arr h1 hh hq
      exact va_iald hx hb hK h2 _ t0 hq ht0 (mm_in_ok hp.1) hd (g H locs ws la _ h1 h2 h3 h4 h5 ⟨_, _, rfl, rfl, h6⟩)
    · rename_i hh
      cases ho
      obtain ⟨w0, w1, rfl, hw, w2, w3, rfl, hw2, h6⟩ := h6
      cases hw
      obtain ⟨q, e2, hq, rfl⟩ := hw2
      obtain ⟨cA, t0, rfl, ht0⟩ := mm_arr h1 hh hq
      exact va_zald hx hb hK h2 _ t0 hq ht0 (mm_in_ok hp.1) hd (g H locs ws la _ h1 h2 h3 h4 h5 ⟨_, _, rfl, rfl, h6⟩)
    · rename_i hh
      cases ho
      obtain ⟨w0, w1, rfl, hw, w2, w3, rfl, hw2, h6⟩ := h6
      cases hw
      obtain ⟨q, e2, hq, rfl⟩ := hw2
      obtain ⟨cA, t0, rfl, ht0⟩ := mm_arr h1 hh hq
      exact va_lald hx hb hK h2 _ t0 hq ht0 (mm_in_ok hp.1) hd (g H locs ws la _ h1 h2 h3 h4 h5 ⟨_, _, rfl, rfl, h6⟩)
    · cases ho
  · split at ho
    · cases ho
      obtain ⟨w0, w1, rfl, hw, w2, w3, rfl, hw2, h6⟩ := h6
      cases hw
      cases hw2
      exact va_sld hx hb hX hbl hbA h4 (mm_in_ok hp.1) hd (g H locs ws la _ h1 h2 h3 h4 h5 ⟨_, _, rfl, rfl, h6⟩)
    · cases ho
  · cases ho
theorem mm_ast_ok (hx : p.tables.exec = Jvm.exec) (hb : c.code = cc) (hd : decode cc pc = .ok (ins, mm_len ins)) (hK : va_K D cl tys s) (ho : mm_ast pc ins ls st h kc ks = some (ps, y)) (hp : mm_all ps) (g : mm_G p l e R s m args below meth c D cl tys A w0 b Q y) : mm_G p l e R s m args below meth c D cl tys A w0 b Q (pc, ls, st, h, kc, ks) := by
  intro H locs ws la sv h1 h2 h3 h4 h5 h6
  unfold mm_ast at ho
  split at ho
  · split at ho
    · rename_i hh
      cases ho
      obtain ⟨w0, w1, rfl, hw, w2, w3, rfl, hw2, w4, w5, rfl, hw3, h6⟩ := h6
      cases hw
      cases hw2
      obtain ⟨q, e2, hq, rfl⟩ := hw3
      obtain ⟨cA, t0, rfl, ht0⟩ := mm_arr h1 hh hq
      exact va_iast hx hb hK h2 h3 h4 _ t0 hq ht0 (mm_in_ok hp.1) hd (fun H1 locs1 hP1 hD1 hS1 => g H1 locs1 _ la _ (mm_h.set h1 hq (mm_c_arr (List.mem_of_getElem? ht0))) hP1 hD1 hS1 (h5.ext (mm_ext.set hq)) (h6.ext (mm_ext.set hq)))
    · rename_i hh
      cases ho
      obtain ⟨w0, w1, rfl, hw, w2, w3, rfl, hw2, w4, w5, rfl, hw3, h6⟩ := h6
      cases hw
      cases hw2
      obtain ⟨q, e2, hq, rfl⟩ := hw3
      obtain ⟨cA, t0, rfl, ht0⟩ := mm_arr h1 hh hq
      exact va_zast hx hb hK h2 h3 h4 _ t0 hq ht0 (mm_in_ok hp.1) hd (fun H1 locs1 hP1 hD1 hS1 => g H1 locs1 _ la _ (mm_h.set h1 hq (mm_c_arr (List.mem_of_getElem? ht0))) hP1 hD1 hS1 (h5.ext (mm_ext.set hq)) (h6.ext (mm_ext.set hq)))
    · cases ho
  · split at ho
    · rename_i hh
      cases ho
      obtain ⟨w0, w1, rfl, hw, w2, w3, rfl, hw2, w4, w5, rfl, hw3, h6⟩ := h6
      cases hw
      cases hw2
      obtain ⟨q, e2, hq, rfl⟩ := hw3
      obtain ⟨cA, t0, rfl, ht0⟩ := mm_arr h1 hh hq
      exact va_last hx hb hK h2 h3 h4 _ t0 hq ht0 (mm_in_ok hp.1) hd (fun H1 locs1 hP1 hD1 hS1 => g H1 locs1 _ la _ (mm_h.set h1 hq (mm_c_arr (List.mem_of_getElem? ht0))) hP1 hD1 hS1 (h5.ext (mm_ext.set hq)) (h6.ext (mm_ext.set hq)))
    · cases ho
  · cases ho
theorem mm_alen_ok (hx : p.tables.exec = Jvm.exec) (hb : c.code = cc) (hd : decode cc pc = .ok (ins, mm_len ins)) (hi : ins = .arraylength) (hK : va_K D cl tys s) (hX : va_X b sc.1 sc.2 s s.heap) (hbl : b < s.heap.size) (hbA : ¬ A b) (ho : mm_alen sc pc ls st h kc ks = some (ps, y)) (g : mm_G p l e R s m args below meth c D cl tys A w0 b Q y) : mm_G p l e R s m args below meth c D cl tys A w0 b Q (pc, ls, st, h, kc, ks) := by
  intro H locs ws la sv h1 h2 h3 h4 h5 h6
  subst hi
  unfold mm_alen at ho
  split at ho
  · split at ho
    · rename_i hh
      cases ho
      obtain ⟨w0, w1, rfl, hw, h6⟩ := h6
      obtain ⟨q, e2, hq, rfl⟩ := hw
      obtain ⟨cA, t0, rfl, ht0⟩ := mm_arr h1 hh hq
      exact va_alen hx hb hK h2 _ t0 hq ht0 rfl hd (g H locs ws la _ h1 h2 h3 h4 h5 ⟨_, _, rfl, rfl, h6⟩)
    · cases ho
  · cases ho
    obtain ⟨w0, w1, rfl, hw, h6⟩ := h6
    cases hw
    exact va_slen hx hb hX hbl hbA h4 hd (g H locs ws la _ h1 h2 h3 h4 h5 ⟨_, _, rfl, rfl, h6⟩)
  · cases ho
theorem mm_new_ok (hx : p.tables.exec = Jvm.exec) (hb : c.code = cc) (hd : decode cc pc = .ok (ins, mm_len ins)) {mc ms : Nat} (hts : ∀ w ∈ Ts, w.before args s = true) (hin : ∀ w ∈ u_ws C T N, w ∈ Ts) (hown : s.vm.findClass own = some m.cls) (hK : va_K D cl tys s) (hc : cl[ci]? = some (C, T, N)) (hA : ∀ q, s.heap.size ≤ q → A q)
    (hKc : K[ci]? = some (C, T, N, tl)) (hty : ∀ k, k < N → parseFieldDescriptor (T k).2.2.1 = some (tl.getD k .int)) (htl : tl.length = N) (hfl : ∀ ty ∈ tl, ty ≠ .float)
    (hcl : (Cond.classLink own idx C).before args s = true) (hinst : (Cond.instantiable C N).before args s = true) (hini : (Cond.initialized C).before args s = true) (hR : mc ≤ R.cells ∧ ms ≤ R.slots) (hi : ins = .new idx) (ho : mm_new K mc ms pc ci ls st h kc ks = some (ps, y)) (hp : mm_all ps) (g : mm_G p l e R s m args below meth c D cl tys A w0 b Q y) : mm_G p l e R s m args below meth c D cl tys A w0 b Q (pc, ls, st, h, kc, ks) := by
  intro H locs ws la sv h1 h2 h3 h4 h5 h6
  subst hi
  unfold mm_new at ho
  split at ho
  · rename_i hKq
    cases hKc.symm.trans hKq
    cases ho
    obtain ⟨hp1, hp2, -⟩ := hp
    have hp2 : ks + N ≤ ms := hp2
    refine va_new hx hb hts hin (fun j => tl.getD j .int) hty hown hcl hinst hini hK h2 h3 h4 hA hc (fs := tl.map defaultValue) (fun j hj => mm_defV (by omega)) (Nat.le_trans hp1 hR.1) (Nat.le_trans hp2 hR.2) hd (fun q H1 hP1 hD1 hS1 => ?_)
    exact g H1 locs _ la _ (mm_h.app h1 (mm_c_obj (mm_defs hfl))) hP1 hD1 hS1 (h5.ext mm_ext.app) ⟨_, _, rfl, mm_v_new h1, h6.ext mm_ext.app⟩
  · cases ho
theorem mm_nneg {n : Int32} (h : 0 ≤ n) : ¬ n < 0 := fun h2 => Int32.lt_irrefl (Int32.lt_of_lt_of_le h2 h)
theorem mm_newa_ok (hx : p.tables.exec = Jvm.exec) (hb : c.code = cc) (hd : decode cc pc = .ok (ins, mm_len ins)) {mc ms : Nat} (hK : va_K D cl tys s) (hA : ∀ q, s.heap.size ≤ q → A q) (hty : ∀ ty ∈ ([.int, .boolean, .long] : List FieldType), ∃ cA, (cA, ty) ∈ tys) (harr : ∀ ty ∈ ([.int, .boolean, .long] : List FieldType), (Cond.arrayClass ty).before args s = true) (hR : mc ≤ R.cells ∧ ms ≤ R.slots) (ho : mm_newa mc ms pc ins ls st h kc ks = some (ps, y)) (hp : mm_all ps) (g : mm_G p l e R s m args below meth c D cl tys A w0 b Q y) : mm_G p l e R s m args below meth c D cl tys A w0 b Q (pc, ls, st, h, kc, ks) := by
  intro H locs ws la sv h1 h2 h3 h4 h5 h6
  unfold mm_newa at ho
  split at ho
  · split at ho
    · cases ho
      obtain ⟨w0, w1, rfl, hw, h6⟩ := h6
      cases hw
      obtain ⟨hp1, hp2, hp3, hp4, -⟩ := hp
      obtain ⟨cA0, hm0⟩ := hty .int (by simp)
      obtain ⟨t0, ht0⟩ := List.getElem?_of_mem hm0
      refine va_newa hx hb (atype := .int) (harr .int (by simp)) (ty := .int) rfl hK h2 h3 h4 hA (a0 := (_, .inl (fun _ => 0))) (fun _ => rfl) (mm_nneg hp1) rfl (Nat.le_trans (Nat.mul_le_mul_right (componentBytes .int) hp2) (by decide)) (Nat.le_trans hp3 hR.1) (Nat.le_trans hp4 hR.2) hd (fun q cA H1 hK1 hP1 hD1 hS1 => ?_)
      have e1 := (hK.2 t0 _ ht0).2
      have e2 := (hK1.2 tys.length (cA, .int) (by simp)).2
      have e3 : cA0 = cA := Option.some.inj (Eq.trans (Eq.symm e1) e2)
      subst e3
      exact g H1 locs _ la _ (mm_h.app h1 (mm_c_arr hm0)) hP1 hD1 hS1 (h5.ext mm_ext.app) ⟨_, _, rfl, mm_v_new h1, h6.ext mm_ext.app⟩
    · cases ho
      obtain ⟨w0, w1, rfl, hw, h6⟩ := h6
      cases hw
      obtain ⟨hp1, hp2, hp3, hp4, -⟩ := hp
      obtain ⟨cA0, hm0⟩ := hty .boolean (by simp)
      obtain ⟨t0, ht0⟩ := List.getElem?_of_mem hm0
      refine va_newa hx hb (atype := .boolean) (harr .boolean (by simp)) (ty := .boolean) rfl hK h2 h3 h4 hA (a0 := (_, .inl (fun _ => 0))) (fun _ => rfl) (mm_nneg hp1) rfl (Nat.le_trans (Nat.mul_le_mul_right (componentBytes .boolean) hp2) (by decide)) (Nat.le_trans hp3 hR.1) (Nat.le_trans hp4 hR.2) hd (fun q cA H1 hK1 hP1 hD1 hS1 => ?_)
      have e1 := (hK.2 t0 _ ht0).2
      have e2 := (hK1.2 tys.length (cA, .boolean) (by simp)).2
      have e3 : cA0 = cA := Option.some.inj (Eq.trans (Eq.symm e1) e2)
      subst e3
      exact g H1 locs _ la _ (mm_h.app h1 (mm_c_arr hm0)) hP1 hD1 hS1 (h5.ext mm_ext.app) ⟨_, _, rfl, mm_v_new h1, h6.ext mm_ext.app⟩
    · cases ho
      obtain ⟨w0, w1, rfl, hw, h6⟩ := h6
      cases hw
      obtain ⟨hp1, hp2, hp3, hp4, -⟩ := hp
      obtain ⟨cA0, hm0⟩ := hty .long (by simp)
      obtain ⟨t0, ht0⟩ := List.getElem?_of_mem hm0
      refine va_newa hx hb (atype := .long) (harr .long (by simp)) (ty := .long) rfl hK h2 h3 h4 hA (a0 := (_, .inr (.inl (fun _ => 0)))) (fun _ => rfl) (mm_nneg hp1) rfl (Nat.le_trans (Nat.mul_le_mul_right (componentBytes .long) hp2) (by decide)) (Nat.le_trans hp3 hR.1) (Nat.le_trans hp4 hR.2) hd (fun q cA H1 hK1 hP1 hD1 hS1 => ?_)
      have e1 := (hK.2 t0 _ ht0).2
      have e2 := (hK1.2 tys.length (cA, .long) (by simp)).2
      have e3 : cA0 = cA := Option.some.inj (Eq.trans (Eq.symm e1) e2)
      subst e3
      exact g H1 locs _ la _ (mm_h.app h1 (mm_c_arr hm0)) hP1 hD1 hS1 (h5.ext mm_ext.app) ⟨_, _, rfl, mm_v_new h1, h6.ext mm_ext.app⟩
    · cases ho
  · cases ho
end MMH
end
section
/-! what the table of the code owes, decided by program; the plain instructions out of it -/
def mm_hw (Tb : List Cond) (hs : List Nat) (j : Nat) (w : Cond) : Bool := match hs[j]? with
  | some i => decide (Tb[i]? = some w) && goodWord w
  | none => false
theorem mm_hw_ok {Tb : List Cond} {hs : List Nat} {j : Nat} {w : Cond} (h : mm_hw Tb hs j w = true) : w ∈ Tb.filter goodWord := by
  unfold mm_hw at h
  split at h
  · rw [Bool.and_eq_true] at h
    exact List.mem_filter.mpr ⟨List.mem_of_getElem? (of_decide_eq_true h.1), h.2⟩
  · cases h
/-- a word of nest mates -/
def mm_isN (w : Cond) : Bool := match w with
  | .fieldLinkNest _ _ _ _ _ _ => true
  | .methodLinkNest _ _ _ _ => true
  | _ => false
theorem mm_isN_on {w : Cond} (h : mm_isN w = true) : w.onTables = true := by
  cases w <;> first | rfl | (cases h; done)
def mm_hn (Tb : List Cond) (hs : List Nat) (j : Nat) (w : Cond) : Bool := match hs[j]? with
  | some i => decide (Tb[i]? = some w) && mm_isN w
  | none => false
theorem mm_hn_ok {Tb : List Cond} {hs : List Nat} {j : Nat} {w : Cond} (h : mm_hn Tb hs j w = true) : w ∈ Tb.filter mm_isN := by
  unfold mm_hn at h
  split at h
  · rw [Bool.and_eq_true] at h
    exact List.mem_filter.mpr ⟨List.mem_of_getElem? (of_decide_eq_true h.1), h.2⟩
  · cases h
def mm_ckF (Ts : List Cond) (K : mK) (y : MethodName) (host : String) (ins : Instr) (x k z : Nat) (hs : List Nat) : Bool := match ins, K[x]? with
  | .getfield i, some (_, T, N, _) => decide (k < N) && (match z with
    | 0 => mm_hw Ts hs 0 (.fieldLink y.cls i (T k).1 (T k).2.1 (T k).2.2.1)
    | _ => mm_hn Ts hs 0 (.fieldLinkNest y.cls i (T k).1 (T k).2.1 (T k).2.2.1 host))
  | .putfield i, some (_, T, N, _) => decide (k < N) && (match z with
    | 0 => mm_hw Ts hs 0 (.fieldLink y.cls i (T k).1 (T k).2.1 (T k).2.2.1) && (T k).2.2.2 == false
    | 1 => mm_hn Ts hs 0 (.fieldLinkNest y.cls i (T k).1 (T k).2.1 (T k).2.2.1 host) && (T k).2.2.2 == false
    | _ => mm_hw Ts hs 0 (.fieldLink y.cls i (T k).1 (T k).2.1 (T k).2.2.1) && ((T k).2.2.2 == true && (y.name == "<init>" && (T k).1 == y.cls)))
  | _, _ => false
def mm_ckP (Ts : List Cond) (K : mK) (y : MethodName) (host : String) (pc : Nat) (ins : Instr) (kd x k z : Nat) (hs : List Nat) : Bool := match kd with
  | 0 => (match ins with
    | .ldc i => mm_hw Ts hs 0 (.constant y.cls i (Int32.ofNat x))
    | _ => true)
  | 6 => mm_ckF Ts K y host ins x k z hs && (match ins with
    | .getfield _ => true
    | _ => false)
  | 7 => mm_ckF Ts K y host ins x k z hs && (match ins with
    | .putfield _ => true
    | _ => false)
  | 10 => decide (ins = .arraylength)
  | 11 => (match ins, K[x]? with
    | .new i, some (C, _, N, _) => mm_hw Ts hs 0 (.classLink y.cls i C) && (mm_hw Ts hs 1 (.instantiable C N) && mm_hw Ts hs 2 (.initialized C))
    | _, _ => false)
  | 13 => (match ins, x with
    | .invokestatic i, 0 => mm_hw Ts hs 0 (.methodLink y.cls i Lib.Math.max.name) && (mm_hw Ts hs 1 (.static Lib.Math.max.name) && (mm_hw Ts hs 2 (.initialized "java/lang/Math") && mm_hw Ts hs 3 (.code Lib.Math.max.name Lib.Math.max.code 2 (some .int))))
    | .invokestatic i, 1 => mm_hw Ts hs 0 (.methodLink y.cls i Lib.Math.min.name) && (mm_hw Ts hs 1 (.static Lib.Math.min.name) && (mm_hw Ts hs 2 (.initialized "java/lang/Math") && mm_hw Ts hs 3 (.code Lib.Math.min.name Lib.Math.min.code 2 (some .int))))
    | _, _ => false)
  | 14 => decide (ins = .lcmp)
  | 15 => (match ins with
    | .invokespecial i => mm_hw Ts hs 0 (.methodLink y.cls i Lib.objectInit) && (mm_hw Ts hs 1 (.instanceMethod Lib.objectInit) && mm_hw Ts hs 2 (.code Lib.objectInit ⟨#[0xb1]⟩ 1 none))
    | _ => false)
  | 16 => (match ins with
    | .goto off => decide ((pc : Int) + off = (x : Int))
    | _ => false)
  | _ => true
/-- what the table of the classes owes -/
def mm_ckK (Ts : List Cond) (r : String × u_T × Nat × List FieldType) : Bool :=
  (u_ws r.1 r.2.1 r.2.2.1).all (fun w => decide (w ∈ Ts)) && ((List.range r.2.2.1).all (fun k => decide (parseFieldDescriptor (r.2.1 k).2.2.1 = some (r.2.2.2.getD k .int))) &&
    ((r.2.2.2.length == r.2.2.1) && ((List.range r.2.2.1).all (fun a => (List.range r.2.2.1).all (fun b => decide (a = b ∨ (r.2.1 a).2.1 ≠ (r.2.1 b).2.1))) && r.2.2.2.all (fun ty => decide (ty ≠ .float)))))
def mm_cls (K : mK) : List vw_C := K.map (fun r => (r.1, r.2.1, r.2.2.1))
theorem mm_ckK_ok {Ts : List Cond} {K : mK} {ci N : Nat} {C : String} {T : u_T} {tl : List FieldType} (h : K.all (mm_ckK Ts) = true) (hc : K[ci]? = some (C, T, N, tl)) :
    (mm_cls K)[ci]? = some (C, T, N) ∧ (∀ w ∈ u_ws C T N, w ∈ Ts) ∧ (∀ k, k < N → parseFieldDescriptor (T k).2.2.1 = some (tl.getD k .int)) ∧ tl.length = N ∧ (∀ a, a < N → ∀ b, b < N → a ≠ b → (T a).2.1 ≠ (T b).2.1) ∧ ∀ ty ∈ tl, ty ≠ .float := by
  have h1 := List.all_eq_true.mp h _ (List.mem_of_getElem? hc)
  simp only [mm_ckK, Bool.and_eq_true, List.all_eq_true, decide_eq_true_eq, beq_iff_eq, List.mem_range] at h1
  obtain ⟨a1, a2, a3, a4, a5⟩ := h1
  refine ⟨by simp [mm_cls, hc], a1, a2, a3, fun a ha b hb hab => ?_, a5⟩
  rcases a4 a ha b hb with h | h
  · exact absurd h hab
  · exact h
section MMX
variable (D : va_G) (K : mK) (tys : List (ClassId × FieldType)) (b base : Nat) (sc : mS) (Ts Ns : List Cond) (Z : State → Prop)
/-- what every state of a run has: the classes, the script, the words of nest mates -/
def mm_En (U : State) : Prop := va_K D (mm_cls K) tys U ∧ va_X b sc.1 sc.2 U U.heap ∧ (∀ w ∈ Ns, va_Nw w U) ∧ base ≤ U.heap.size ∧ b < base ∧ (∀ ty ∈ ([.int, .boolean, .long] : List FieldType), ∃ cA, (cA, ty) ∈ tys) ∧ Z U
/-- a method of the table, begun at s -/
def mm_X (p : Program) (s : State) (m : MethodId) (args : Array Value) (meth : Method) (c : Code) (q : mM) : Prop :=
  p.tables.exec = Jvm.exec ∧ c.code = q.2.2.2.2.1 ∧ c.maxLocals = q.2.2.2.2.2.1 ∧ s.vm.findClass q.2.2.2.1.cls = some m.cls ∧ meth.locks = false ∧ meth.sig.returnType = q.2.2.2.2.2.2.1 ∧ meth.name = q.2.2.2.1.name ∧
  c.exceptionTable.toList.map (fun h => (h.startPc, h.endPc, h.handlerPc, h.catchType)) = q.2.2.2.2.2.2.2.1 ∧ (∀ w ∈ Ts, w.before args s = true) ∧ mm_En D K tys b base sc Ns Z s
end MMX
section MMP
variable {p : Program} {l : Launch} {e : Env} {R : Room} {s : State} {m : MethodId} {args : Array Value} {below : List Frame} {meth : Method} {c : Code} {D : va_G} {K : mK} {tys : List (ClassId × FieldType)} {b base : Nat} {w0 : va_W} {Q : State → Prop} {sc : mS} {Tb : List Cond} {q : mM}
set_option maxHeartbeats 4000000 in
theorem mm_op_ok {Z : State → Prop} (X : mm_X D K tys b base sc (Tb.filter goodWord) (Tb.filter mm_isN) Z p s m args meth c q) (hKK : K.all (mm_ckK (Tb.filter goodWord)) = true) (harr : ∀ ty ∈ ([.int, .boolean, .long] : List FieldType), Cond.arrayClass ty ∈ Tb.filter goodWord) (hR : q.1 ≤ R.cells ∧ q.2.1 ≤ R.slots ∧ 1 ≤ R.frames ∧ 64 ≤ R.locals)
    {pc len grp kd x k z : Nat} {ins : Instr} {hs : List Nat} {ls : mL} {st : List Value} {h : List mE} {kc ks : Nat} {ps : List Prop} {y : mC}
    (hd : decode q.2.2.2.2.1 pc = .ok (ins, len)) (hlen : kd = 17 ∨ len = mm_len ins) (hck : mm_ckP Tb K q.2.2.2.1 q.2.2.2.2.2.2.2.2.2 pc ins kd x k z hs = true)
    (ho : mm_op sc K q.1 q.2.1 (pc, ins, len, grp, kd, x, k, z, hs) (pc, ls, st, h, kc, ks) = some (ps, y)) (hp : mm_all ps)
    (g : mm_G p l e R s m args below meth c D (mm_cls K) tys (fun a => base ≤ a) w0 b Q y) : mm_G p l e R s m args below meth c D (mm_cls K) tys (fun a => base ≤ a) w0 b Q (pc, ls, st, h, kc, ks) := by
  obtain ⟨hx, hb, hml, hown, hlocks, hret, hname, hext, hts, hK, hX, hN, hbase, hbb, htys, hZ⟩ := X
  have hA : ∀ a, s.heap.size ≤ a → base ≤ a := fun a ha => Nat.le_trans hbase ha
  have hbA : ¬ base ≤ b := Nat.not_le.mpr hbb
  have hbl : b < s.heap.size := Nat.lt_of_lt_of_le hbb hbase
  have hNw : ∀ w ∈ Tb.filter mm_isN, w.before args s = true := fun w hw => va_Nw.use (mm_isN_on (List.mem_filter.mp hw).2) (hN w hw)
  by_cases h17 : kd = 17
  · subst h17
    exact mm_sw_ok hx hb hd ho hp g
  have hd : decode q.2.2.2.2.1 pc = .ok (ins, mm_len ins) := by
    rcases hlen with hlen | hlen
    · exact absurd hlen h17
    · rw [← hlen]; exact hd
  unfold mm_op at ho
  dsimp only at ho
  split at ho
  · refine mm_const_ok hx hb hd hown (a := x) (fun i hi => ?_) ho g
    subst hi
    exact hts _ (mm_hw_ok hck)
  · exact mm_load_ok hx hb hd ho g
  · exact mm_store_ok hx hb hd ho g
  · exact mm_arith_ok hx hb hd ho hp g
  · exact mm_un_ok hx hb hd ho g
  · exact mm_stk_ok hx hb hd ho g
  · simp only [mm_ckP, Bool.and_eq_true] at hck
    obtain ⟨hck, hck2⟩ := hck
    unfold mm_ckF at hck
    split at hck
    · have hKc := ‹K[x]? = some _›
      rw [Bool.and_eq_true, decide_eq_true_eq] at hck
      obtain ⟨c1, c2, c3, c4, c5, c6⟩ := mm_ckK_ok hKK hKc
      refine mm_getf_ok hx hb hd hts c2 hown hK c1 hck.1 ?_ rfl ho g
      have hck3 := hck.2
      split at hck3
      · exact Or.inl (hts _ (mm_hw_ok hck3))
      · exact Or.inr ⟨_, hNw _ (mm_hn_ok hck3)⟩
    · cases hck2
    · cases hck
  · simp only [mm_ckP, Bool.and_eq_true] at hck
    obtain ⟨hck, hck2⟩ := hck
    unfold mm_ckF at hck
    split at hck
    · cases hck2
    · have hKc := ‹K[x]? = some _›
      rw [Bool.and_eq_true, decide_eq_true_eq] at hck
      obtain ⟨c1, c2, c3, c4, c5, c6⟩ := mm_ckK_ok hKK hKc
      have hck3 := hck.2
      split at hck3
      · rw [Bool.and_eq_true] at hck3
        exact mm_putf_ok hx hb hd hts c2 hown hK c1 hck.1 (Or.inl (hts _ (mm_hw_ok hck3.1))) hKc c3 c5 (Or.inl (eq_of_beq hck3.2)) rfl ho hp g
      · rw [Bool.and_eq_true] at hck3
        exact mm_putf_ok hx hb hd hts c2 hown hK c1 hck.1 (Or.inr ⟨_, hNw _ (mm_hn_ok hck3.1)⟩) hKc c3 c5 (Or.inl (eq_of_beq hck3.2)) rfl ho hp g
      · simp only [Bool.and_eq_true] at hck3
        obtain ⟨e1, e2, e3, e4⟩ := hck3
        exact mm_putf_ok hx hb hd hts c2 hown hK c1 hck.1 (Or.inl (hts _ (mm_hw_ok e1))) hKc c3 c5 (Or.inr ⟨eq_of_beq e2, hname.trans (eq_of_beq e3), eq_of_beq e4, hts _ (mm_hw_ok e1)⟩) rfl ho hp g
    · cases hck
  · exact mm_ald_ok hx hb hd hK hX hbl hbA ho hp g
  · exact mm_ast_ok hx hb hd hK ho hp g
  · exact mm_alen_ok hx hb hd (of_decide_eq_true hck) hK hX hbl hbA ho g
  · simp only [mm_ckP] at hck
    split at hck
    · have hKc := ‹K[x]? = some _›
      simp only [Bool.and_eq_true] at hck
      obtain ⟨e1, e2, e3⟩ := hck
      obtain ⟨c1, c2, c3, c4, c5, c6⟩ := mm_ckK_ok hKK hKc
      exact mm_new_ok hx hb hd hts c2 hown hK c1 hA hKc c3 c4 c6 (hts _ (mm_hw_ok e1)) (hts _ (mm_hw_ok e2)) (hts _ (mm_hw_ok e3)) ⟨hR.1, hR.2.1⟩ rfl ho hp g
    · cases hck
  · exact mm_newa_ok hx hb hd hK hA htys (fun ty hy => hts _ (harr ty hy)) ⟨hR.1, hR.2.1⟩ ho hp g
  · simp only [mm_ckP] at hck
    split at ho
    · rename_i hsum
      have hsum := Nat.le_of_ble_eq_true hsum
      split at hck
      · simp only [Bool.and_eq_true] at hck
        obtain ⟨e1, e2, e3, e4⟩ := hck
        exact mm_math_ok hx hb hd hown rfl (fun _ => ⟨hts _ (mm_hw_ok e1), hts _ (mm_hw_ok e2), hts _ (mm_hw_ok e3), hts _ (mm_hw_ok e4)⟩) (fun hz => absurd hz (by decide)) ⟨hR.2.2.1, hR.2.2.2⟩ hsum ⟨hR.1, hR.2.1⟩ ho hp g
      · simp only [Bool.and_eq_true] at hck
        obtain ⟨e1, e2, e3, e4⟩ := hck
        exact mm_math_ok hx hb hd hown rfl (fun hz => absurd hz (by decide)) (fun _ => ⟨hts _ (mm_hw_ok e1), hts _ (mm_hw_ok e2), hts _ (mm_hw_ok e3), hts _ (mm_hw_ok e4)⟩) ⟨hR.2.2.1, hR.2.2.2⟩ hsum ⟨hR.1, hR.2.1⟩ ho hp g
      · cases hck
    · cases ho
  · exact mm_lcmp_ok hx hb hd (of_decide_eq_true hck) ho g
  · simp only [mm_ckP] at hck
    split at ho
    · rename_i hsum
      have hsum := Nat.le_of_ble_eq_true hsum
      split at hck
      · simp only [Bool.and_eq_true] at hck
        obtain ⟨e1, e2, e3⟩ := hck
        exact mm_obj_ok hx hb hd hown rfl (hts _ (mm_hw_ok e1)) (hts _ (mm_hw_ok e2)) (hts _ (mm_hw_ok e3)) ⟨hR.2.2.1, hR.2.2.2⟩ hsum ho g
      · cases hck
    · cases ho
  · simp only [mm_ckP] at hck
    split at hck
    · cases ho
      exact mm_goto_ok hx hb hd rfl (of_decide_eq_true hck) g
    · cases hck
  · exact absurd rfl h17
  · cases ho
end MMP
end
section
/-! walking the small machine: stretches at once, calls, ends -/
def mm_s1 (sc : mS) (K : mK) (P : List mM) (M : Nat) (t : Bool) (c : mC) : mO := match mm_at P M c.1 with
  | some (q, b) => (match b.2.2.2.1 with
    | 0 => mm_op sc K q.1 q.2.1 b c
    | 1 => (match mm_br b c with
      | some (p, c1, c2) => (match t with
        | true => some ([p], c1)
        | false => some ([¬ p], c2))
      | none => none)
    | _ => none)
  | none => none
def mm_sn (sc : mS) (K : mK) (P : List mM) (M : Nat) : List Bool → mC → mO
  | [], c => some ([], c)
  | t :: ts, c => match mm_s1 sc K P M t c with
    | some (ps, c1) => (match mm_sn sc K P M ts c1 with
      | some (qs, c2) => some (ps ++ qs, c2)
      | none => none)
    | none => none
theorem mm_all_app {ps qs : List Prop} (h : mm_all (ps ++ qs)) : mm_all ps ∧ mm_all qs := by
  induction ps with
  | nil => exact ⟨trivial, h⟩
  | cons p ps ih => exact ⟨⟨h.1, (ih h.2).1⟩, (ih h.2).2⟩
section MMW
variable {sc : mS} {K : mK} {P : List mM}
theorem mm_wp_mono : ∀ {n n2 d M : Nat} {c : mC} {Q Q2 : mR → List mE → Prop}, n ≤ n2 → (∀ r h, Q r h → Q2 r h) → mm_wp sc K P n d M c Q → mm_wp sc K P n2 d M c Q2 := by
  intro n
  induction n with
  | zero => intro n2 d M c Q Q2 _ _ h; exact h.elim
  | succ n ih =>
    intro n2 d M c Q Q2 hn hQ h
    cases n2 with
    | zero => omega
    | succ n2 =>
      have hn : n ≤ n2 := by omega
      unfold mm_wp at h ⊢
      split at h
      · exact h.elim
      · rename_i q b hat
        try rw [hat]
        try dsimp only
        split at h
        · rename_i hg
          try rw [hg]
          try dsimp only
          split at h
          · rename_i hop
            try rw [hop]
            exact ⟨h.1, ih hn hQ h.2⟩
          · exact h.elim
        · rename_i hg
          try rw [hg]
          try dsimp only
          split at h
          · rename_i hop
            try rw [hop]
            exact ⟨fun z => ih hn hQ (h.1 z), fun z => ih hn hQ (h.2 z)⟩
          · exact h.elim
        · rename_i hg
          try rw [hg]
          try dsimp only
          split at h
          · rename_i d2 as r q2 hcl hq2
            try rw [hcl, hq2]
            refine ⟨h.1, ih hn (fun res h2 hr => ?_) h.2⟩
            cases res with
            | inl v => exact ih hn hQ hr
            | inr E =>
              refine ⟨hr.1, ?_⟩
              have hr := hr.2
              try dsimp only at hr ⊢
              split at hr
              · rename_i hhd
                try rw [hhd]
                try dsimp only
                split at hr
                · rename_i hat2
                  try rw [hat2]
                  exact ih hn hQ hr
                · exact hr.elim
              · rename_i hhd
                try rw [hhd]
                exact ⟨hr.1, hQ _ _ hr.2⟩
          · exact h.elim
        · rename_i hg
          try rw [hg]
          try dsimp only
          split at h
          · rename_i hop
            try rw [hop]
            exact ⟨h.1, h.2.1, hQ _ _ h.2.2⟩
          · exact h.elim
        · rename_i hg
          try rw [hg]
          exact ⟨h.1, hQ _ _ h.2⟩
        · exact h.elim
theorem mm_go1 {n d M : Nat} {t : Bool} {c c1 : mC} {ps : List Prop} {Q : mR → List mE → Prop} (h : mm_s1 sc K P M t c = some (ps, c1)) (hp : mm_all ps) (k : mm_wp sc K P n d M c1 Q) : mm_wp sc K P (n + 1) d M c Q := by
  unfold mm_s1 at h
  unfold mm_wp
  split at h
  · rename_i q b hat
    try rw [hat]
    try dsimp only
    split at h
    · rename_i hg
      try rw [hg]
      try dsimp only
      try rw [h]
      exact ⟨hp, k⟩
    · rename_i hg
      try rw [hg]
      try dsimp only
      split at h
      · rename_i hbr
        try rw [hbr]
        split at h
        · cases h
          exact ⟨fun _ => k, fun z => absurd hp.1 z⟩
        · cases h
          exact ⟨fun z => absurd z hp.1, fun _ => k⟩
      · cases h
    · cases h
  · cases h
/-- it ends, and Q holds there -/
def mm_ev (sc : mS) (K : mK) (P : List mM) (d M : Nat) (c : mC) (Q : mR → List mE → Prop) : Prop := ∃ n, mm_wp sc K P n d M c Q
theorem mm_ev.go {d M : Nat} {Q : mR → List mE → Prop} : ∀ (ts : List Bool) {c c1 : mC} {ps : List Prop}, mm_sn sc K P M ts c = some (ps, c1) → mm_all ps → mm_ev sc K P d M c1 Q → mm_ev sc K P d M c Q
  | [], c, c1, ps, h, _, k => by
    cases h
    exact k
  | t :: ts, c, c1, ps, h, hp, k => by
    unfold mm_sn at h
    split at h
    · rename_i ps1 c2 h1
      split at h
      · rename_i qs c3 h2
        cases h
        obtain ⟨hp1, hp2⟩ := mm_all_app hp
        obtain ⟨n, hn⟩ := mm_ev.go ts h2 hp2 k
        exact ⟨n + 1, mm_go1 h1 hp1 hn⟩
      · cases h
    · cases h
theorem mm_ev.mono {d M : Nat} {c : mC} {Q Q2 : mR → List mE → Prop} (h : mm_ev sc K P d M c Q) (hQ : ∀ r x, Q r x → Q2 r x) : mm_ev sc K P d M c Q2 := by
  obtain ⟨n, hn⟩ := h
  exact ⟨n, mm_wp_mono (Nat.le_refl n) hQ hn⟩
/-- a method's end, told whole -/
abbrev mm_is (r : mR) (h : List mE) : mR → List mE → Prop := fun r1 h1 => r1 = r ∧ h1 = h
theorem mm_ev.ret {d M : Nat} {c : mC} {q : mM} {b : mB} {ps : List Prop} {v : Option Value} {Q : mR → List mE → Prop} (hat : mm_at P M c.1 = some (q, b)) (hg : b.2.2.2.1 = 3) (hr : mm_ret b.2.1 q.2.2.2.2.2.2.1 c.2.2.1 = some (ps, v)) (hk : c.2.2.2.2.1 ≤ q.1 ∧ c.2.2.2.2.2 ≤ q.2.1) (hp : mm_all ps) (hQ : Q (.inl v) c.2.2.2.1) : mm_ev sc K P d M c Q := by
  refine ⟨1, ?_⟩
  unfold mm_wp
  try rw [hat]
  try dsimp only
  try rw [hg]
  try dsimp only
  try rw [hr]
  exact ⟨hk, hp, hQ⟩
theorem mm_ev.thr {d M : Nat} {c : mC} {q : mM} {b : mB} {Q : mR → List mE → Prop} (hat : mm_at P M c.1 = some (q, b)) (hg : b.2.2.2.1 = 4) (hk : 5 ≤ d ∧ c.2.2.2.2.1 + 1 ≤ q.1 ∧ c.2.2.2.2.2 + 6 ≤ q.2.1 ∧ q.2.2.2.2.2.2.2.1 = [] ∧ (c.2.2.1.map Value.category).sum ≤ 8) (hQ : Q (.inr b.2.2.2.2.2.1) c.2.2.2.1) : mm_ev sc K P d M c Q := by
  refine ⟨1, ?_⟩
  unfold mm_wp
  try rw [hat]
  try dsimp only
  try rw [hg]
  exact ⟨hk, hQ⟩
theorem mm_ev.call {d M : Nat} {c : mC} {q q2 : mM} {b : mB} {as r : List Value} {v : Option Value} {h1 : List mE} {Q : mR → List mE → Prop} (hat : mm_at P M c.1 = some (q, b)) (hg : b.2.2.2.1 = 2) (hcl : mm_cl b c = some (as, r)) (hq : P[b.2.2.2.2.2.1]? = some q2)
    (hk : c.2.2.2.2.1 + q2.1 ≤ q.1 ∧ c.2.2.2.2.2 + q2.2.1 ≤ q.2.1 ∧ as.length ≤ q2.2.2.2.2.2.1) (he : mm_ev sc K P d b.2.2.2.2.2.1 (0, mm_en q2.2.2.2.2.2.1 as, [], c.2.2.2.1, 0, 0) (mm_is (.inl v) h1))
    (k : mm_ev sc K P (d + 1) M (c.1 + 3, c.2.1, v.toList ++ r, h1, c.2.2.2.2.1 + q2.1, c.2.2.2.2.2 + q2.2.1) Q) : mm_ev sc K P (d + 1) M c Q := by
  obtain ⟨n1, he⟩ := he
  obtain ⟨n2, k⟩ := k
  refine ⟨n1 + n2 + 1, ?_⟩
  unfold mm_wp
  try rw [hat]
  try dsimp only
  try rw [hg]
  try dsimp only
  try rw [hcl, hq]
  refine ⟨hk, mm_wp_mono (Nat.le_add_right _ _) (fun res h2 hr => ?_) he⟩
  obtain ⟨rfl, rfl⟩ := hr
  exact mm_wp_mono (Nat.le_add_left _ _) (fun _ _ z => z) k
theorem mm_ev.callX {d M : Nat} {c : mC} {q q2 : mM} {b : mB} {as r : List Value} {E hp i pc2 : Nat} {z : mM × mB} {h1 : List mE} {Q : mR → List mE → Prop} (hat : mm_at P M c.1 = some (q, b)) (hg : b.2.2.2.1 = 2) (hkd : b.2.2.2.2.1 = 6) (hcl : mm_cl b c = some (as, r)) (hq : P[b.2.2.2.2.2.1]? = some q2)
    (hk : c.2.2.2.2.1 + q2.1 ≤ q.1 ∧ c.2.2.2.2.2 + q2.2.1 ≤ q.2.1 ∧ as.length ≤ q2.2.2.2.2.2.1) (he : mm_ev sc K P d b.2.2.2.2.2.1 (0, mm_en q2.2.2.2.2.2.1 as, [], c.2.2.2.1, 0, 0) (mm_is (.inr E) h1))
    (hh : mm_hd c.1 E q.2.2.2.2.2.2.2.1 q.2.2.2.2.2.2.2.2.1 = some hp) (hz : mm_at P M hp = some z) (hs : mm_hs z.2 = some (pc2, i))
    (k : mm_ev sc K P (d + 1) M (pc2, c.2.1.set i none, [], h1, c.2.2.2.2.1 + q2.1, c.2.2.2.2.2 + q2.2.1) Q) : mm_ev sc K P (d + 1) M c Q := by
  obtain ⟨n1, he⟩ := he
  obtain ⟨n2, k⟩ := k
  refine ⟨n1 + n2 + 1, ?_⟩
  unfold mm_wp
  try rw [hat]
  try dsimp only
  try rw [hg]
  try dsimp only
  try rw [hcl, hq]
  refine ⟨hk, mm_wp_mono (Nat.le_add_right _ _) (fun res h2 hr => ?_) he⟩
  obtain ⟨rfl, rfl⟩ := hr
  refine ⟨hkd, ?_⟩
  try dsimp only
  try rw [hh]
  try dsimp only
  try rw [hz]
  try dsimp only [Option.bind]
  try rw [hs]
  exact mm_wp_mono (Nat.le_add_left _ _) (fun _ _ z => z) k
theorem mm_ev.callO {d M : Nat} {c : mC} {q q2 : mM} {b : mB} {as r : List Value} {E : Nat} {h1 : List mE} {Q : mR → List mE → Prop} (hat : mm_at P M c.1 = some (q, b)) (hg : b.2.2.2.1 = 2) (hkd : b.2.2.2.2.1 = 6) (hcl : mm_cl b c = some (as, r)) (hq : P[b.2.2.2.2.2.1]? = some q2)
    (hk : c.2.2.2.2.1 + q2.1 ≤ q.1 ∧ c.2.2.2.2.2 + q2.2.1 ≤ q.2.1 ∧ as.length ≤ q2.2.2.2.2.2.1) (he : mm_ev sc K P d b.2.2.2.2.2.1 (0, mm_en q2.2.2.2.2.2.1 as, [], c.2.2.2.1, 0, 0) (mm_is (.inr E) h1))
    (hh : mm_hd c.1 E q.2.2.2.2.2.2.2.1 q.2.2.2.2.2.2.2.2.1 = none) (hnh : q.2.2.2.2.2.2.2.1 = []) (k : Q (.inr E) h1) : mm_ev sc K P (d + 1) M c Q := by
  obtain ⟨n1, he⟩ := he
  refine ⟨n1 + 1, ?_⟩
  unfold mm_wp
  try rw [hat]
  try dsimp only
  try rw [hg]
  try dsimp only
  try rw [hcl, hq]
  refine ⟨hk, mm_wp_mono (Nat.le_refl _) (fun res h2 hr => ?_) he⟩
  obtain ⟨rfl, rfl⟩ := hr
  refine ⟨hkd, ?_⟩
  try dsimp only
  try rw [hh]
  exact ⟨hnh, k⟩
end MMW
end
section
/-! contracts of the small machine's methods; calls that return -/
section MMQ
variable (D : va_G) (K : mK) (tys : List (ClassId × FieldType)) (b base : Nat) (sc : mS) (Ns : List Cond) (Z : State → Prop)
def mm_Pc (ws : va_W) (av : List Value) : Array Value → State → Prop := va_Pc av (fun U => va_P D (mm_cls K) ws U.heap ∧ va_D (fun a => base ≤ a) ws ∧ mm_En D K tys b base sc Ns Z U)
def mm_Qc (ws : va_W) (Q : mR → List mE → Prop) : Array Value → State → Outcome → State → Prop := fun _ st o t =>
  ∃ (v w : Option Value) (h1 : List mE) (ws1 : va_W), o = .returned w ∧ Q (.inl v) h1 ∧ mm_vs b ws1 v.toList w.toList ∧ mm_h ws b tys h1 ws1 ∧ mm_ext ws ws1 ∧ va_P D (mm_cls K) ws1 t.heap ∧ va_D (fun a => base ≤ a) ws1 ∧ va_F (fun a => base ≤ a) st t
end MMQ
theorem mm_vs_app {b : Nat} {ws : va_W} : ∀ {a c d e : List Value}, mm_vs b ws a c → mm_vs b ws d e → mm_vs b ws (a ++ d) (c ++ e)
  | [], _, _, _, h, h2 => by cases h; exact h2
  | _ :: _, _, _, _, h, h2 => by
    obtain ⟨w0, w1, rfl, h3, h4⟩ := h
    exact ⟨w0, _, rfl, h3, mm_vs_app h4 h2⟩
theorem mm_vs_take {b : Nat} {ws : va_W} : ∀ (n : Nat) {a c : List Value}, mm_vs b ws a c → mm_vs b ws (a.take n) (c.take n) ∧ mm_vs b ws (a.drop n) (c.drop n)
  | 0, _, _, h => ⟨rfl, h⟩
  | _ + 1, [], _, h => by cases h; exact ⟨rfl, rfl⟩
  | n + 1, _ :: _, _, h => by
    obtain ⟨w0, w1, rfl, h3, h4⟩ := h
    obtain ⟨h5, h6⟩ := mm_vs_take n h4
    exact ⟨⟨w0, _, rfl, h3, h5⟩, h6⟩
theorem mm_vs_rev {b : Nat} {ws : va_W} : ∀ {a c : List Value}, mm_vs b ws a c → mm_vs b ws a.reverse c.reverse
  | [], _, h => by cases h; rfl
  | _ :: _, _, h => by
    obtain ⟨w0, w1, rfl, h3, h4⟩ := h
    rw [List.reverse_cons, List.reverse_cons]
    exact mm_vs_app (mm_vs_rev h4) ⟨w0, [], rfl, h3, rfl⟩
theorem mm_args1 : ∀ {vs : List Value} {i j : Nat} {w : Value}, (∀ v ∈ vs, v.category = 1) → vs[j]? = some w → (i + j, w) ∈ lv_args i vs
  | [], _, _, _, _, h => by simp at h
  | v :: vs, i, 0, w, _, h => by
    have : v = w := by simpa using h
    subst this
    exact List.mem_cons_self
  | v :: vs, i, j + 1, w, hc, h => by
    have h1 : v.category = 1 := hc v List.mem_cons_self
    have h2 : vs[j]? = some w := by simpa using h
    have h3 := mm_args1 (i := i + 1) (fun x hx => hc x (List.mem_cons_of_mem _ hx)) h2
    have h4 : i + (j + 1) = i + 1 + j := by omega
    rw [h4]
    unfold lv_args
    rw [h1]
    exact List.mem_cons_of_mem _ h3
theorem mm_sl1 : ∀ {vs : List Value}, (∀ v ∈ vs, v.category = 1) → (lg_sl vs).length = vs.length
  | [], _ => rfl
  | v :: vs, hc => by
    have h1 : v.category = 1 := hc v List.mem_cons_self
    have h2 := mm_sl1 (fun x hx => hc x (List.mem_cons_of_mem _ hx))
    unfold lg_sl at h2 ⊢
    rw [List.flatMap_cons, List.length_append, h2, h1]
    simp
    omega
theorem mm_vs_cat {b : Nat} {ws : va_W} : ∀ {a c : List Value}, mm_vs b ws a c → a.all mm_c1 = true → ∀ v ∈ c, v.category = 1
  | [], _, h, _ => by cases h; exact fun v hv => absurd hv List.not_mem_nil
  | _ :: _, _, h, hc => by
    obtain ⟨w0, w1, rfl, h3, h4⟩ := h
    rw [List.all_cons, Bool.and_eq_true] at hc
    intro v hv
    rcases List.mem_cons.mp hv with rfl | hv
    · exact mm_cat h3 hc.1
    · exact mm_vs_cat h4 hc.2 v hv
/-- the locals at a method's entry -/
theorem mm_entry {b : Nat} {ws : va_W} {as av : List Value} {n : Nat} (h : mm_vs b ws as av) (hc : as.all mm_c1 = true) (hn : as.length ≤ n) : mm_l b ws n (mm_en n as) ((lg_sl av ++ List.replicate (n - (lg_sl av).length) Slot.unset).toArray) := by
  have h1 := mm_vs_cat h hc
  have h2 := mm_sl1 h1
  have h3 := mm_vs_len h
  refine ⟨?_, _, lv_entry av (by omega), fun i v hv => ?_⟩
  · unfold mm_en
    simp
    omega
  · unfold mm_en at hv
    have hi : i < as.length := by
      rcases Nat.lt_or_ge i as.length with z | z
      · exact z
      · rw [List.getElem?_append_right (by simpa using z)] at hv
        have := List.mem_of_getElem? hv
        rw [List.mem_replicate] at this
        cases this.2
    rw [List.getElem?_append_left (by simpa using hi), List.getElem?_map] at hv
    have hv2 : as[i]? = some v := by
      cases hz : as[i]? with
      | none => rw [hz] at hv; cases hv
      | some v2 => rw [hz] at hv; cases hv; rfl
    obtain ⟨w, hw1, hw2⟩ := mm_vs_get h hv2
    have h4 := mm_args1 (i := 0) h1 hw1
    rw [Nat.zero_add] at h4
    exact ⟨List.all_eq_true.mp hc v (List.mem_of_getElem? hv2), w, hw2, h4⟩
section MMC
variable {p : Program} {l : Launch} {e : Env} {R : Room} {s : State} {m : MethodId} {args : Array Value} {below : List Frame} {meth : Method} {c : Code} {D : va_G} {K : mK} {tys : List (ClassId × FieldType)} {b base : Nat} {w0 : va_W} {Qs : State → Prop} {sc : mS} {Ts Ns : List Cond} {q : mM}
/-- what stays when nothing that was there before the run has changed -/
def mm_Zc (base : Nat) (Z : State → Prop) : Prop := ∀ u U : State, u.WarmedH U.vm → (∀ q, q < base → U.heap[q]? = u.heap[q]?) → Z u → Z U
theorem mm_blind {ws : va_W} {av : List Value} {Z : State → Prop} (hZ : mm_Zc base Z) (hN : Ns.all mm_isN = true) : FrameBlind (mm_Pc D K tys b base sc Ns Z ws av) := by
  intro a U g mk h
  obtain ⟨rfl, h1, h2, h3, h4, h5, h6, h7, h8, h9⟩ := h
  exact ⟨rfl, h1, h2, va_K.moved (u := U) (U := U.calling g mk av.toArray) (Vm.Alike.refl U.vm) h3, va_X.moved (u := U) (U := U.calling g mk av.toArray) (Vm.Alike.refl U.vm) h4, fun w hw => va_Nw.same (u := U) (mm_isN_on (List.all_eq_true.mp hN w hw)) rfl (h5 w hw), h6, h7, h8, hZ U _ (State.WarmedH.refl U) (fun _ _ => rfl) h9⟩
/-- the words of nest mates stay as the tables grow warm -/
theorem mm_Nwarm {U : State} {w : Cond} (hn : mm_isN w = true) (hW : s.WarmedH U.vm) (h : va_Nw w s) : va_Nw w U := by
  cases w <;> first | (cases hn; done) | exact va_Nw.warmF hW h | exact va_Nw.warmM hW h
/-- what holds at a call, whatever the tables have learned since the method began -/
theorem mm_pre {ws : va_W} {av : List Value} {H : Heap} {locs : List Loc} {Z : State → Prop} (hZ : mm_Zc base Z) (hN : Ns.all mm_isN = true) (E : mm_En D K tys b base sc Ns Z s) (h2 : va_P D (mm_cls K) ws H) (h3 : va_D (fun a => base ≤ a) ws) (h4 : va_S (fun a => base ≤ a) s.heap H locs) :
    ∀ U : State, U.heap = H → s.WarmedH U.vm → mm_Pc D K tys b base sc Ns Z ws av av.toArray U := by
  intro U hU hW
  obtain ⟨e1, e2, e3, e4, e5, e6, e7⟩ := E
  refine ⟨rfl, by rw [hU]; exact h2, h3, va_K.moved hW.alike e1, ?_, fun w hw => mm_Nwarm (List.all_eq_true.mp hN w hw) hW (e3 w hw), ?_, e5, e6, hZ s U hW (fun q hq => ?_) e7⟩
  · refine va_X.moved hW.alike (va_X.kept e2 ?_)
    rw [hU]
    exact h4.2.1 b (Nat.lt_of_lt_of_le e5 e4) (Nat.not_le.mpr e5)
  · rw [hU]
    exact Nat.le_trans e4 h4.1
  · rw [hU]
    exact h4.2.1 q (Nat.lt_of_lt_of_le hq e4) (Nat.not_le.mpr hq)
/-- behind a call that returned -/
theorem mm_back {H : Heap} {locs : List Loc} {ws : va_W} {la : Array Slot} {sv rest r : List Value} {pc kc ks mc ms : Nat} {ls : mL} {a : Array Value} {Q : mR → List mE → Prop}
    (hr : va_Run p l e R s m args below meth c H locs kc ks mc ms (F0 m pc la sv) rest (mm_Qc D K tys b base ws Q a) (fun a => base ≤ a)) (hS : va_S (fun a => base ≤ a) s.heap H locs) (h5 : mm_l b ws c.maxLocals ls la) (h6 : mm_vs b ws r rest) (hw0 : mm_ext w0 ws)
    (g : ∀ v h1, Q (.inl v) h1 → mm_G p l e R s m args below meth c D (mm_cls K) tys (fun a => base ≤ a) w0 b Qs (pc + 3, ls, v.toList ++ r, h1, kc + mc, ks + ms)) : W p l e R s m args below meth c H locs kc ks Qs (F0 m pc la sv) := by
  intro T hT X
  obtain ⟨w, st₀, t, T', L, h0, X', hL, e1, e2, ⟨v, w2, h1, ws1, hw, hq, hv, hh, hex, hP, hD, hF⟩, st⟩ := hr T hT X
  cases hw
  obtain ⟨f1, f2⟩ := hF
  rw [h0] at f1 f2
  have hS2 : va_S (fun a => base ≤ a) s.heap t.heap (locs ++ L) := ⟨Nat.le_trans hS.1 f1, fun q h1 h2 => by rw [f2 q (Nat.lt_of_lt_of_le h1 hS.1) h2]; exact hS.2.1 q h1 h2, fun q hq => by
    rcases List.mem_append.mp hq with h | h
    · exact hS.2.2 q h
    · exact hL q h⟩
  obtain ⟨t2, a1, b1⟩ := g v h1 hq t.heap (locs ++ L) ws1 la (w.toList ++ rest) (hh.re (hw0.tr hex)) hP hD hS2 (h5.ext hex) (mm_vs_app hv (h6.ext hex)) T' e1 X'
  exact ⟨t2, st t2 a1, b1⟩
end MMC
def mm_plain (y : MethodName) (n : Nat) : Bool := plainName y.cls && (y.cls != "java/lang/invoke/MethodHandle" && (y.cls != "java/lang/invoke/VarHandle" && decide ((parseMethodDescriptor y.desc).map (fun d => d.parameters.length) = some n)))
def mm_cw (q : mM) : Cond := match q.2.2.2.2.2.2.2.1 with
  | [] => .code q.2.2.2.1 q.2.2.2.2.1 q.2.2.2.2.2.1 q.2.2.2.2.2.2.1
  | hh => .codeWith q.2.2.2.1 q.2.2.2.2.1 q.2.2.2.2.2.1 q.2.2.2.2.2.2.1 hh
/-- a method's own words: its code, then all -/
def mm_ws (Ts : List Cond) (q : mM) : List Cond := mm_cw q :: Ts
def mm_rm (d : Nat) (q : mM) : Room := { frames := d + 1, cells := q.1, slots := q.2.1, locals := 31 * d + 72 }
def mm_ckC (Ts : List Cond) (K : mK) (own host : String) (q2 : mM) (ins : Instr) (kd y z : Nat) (hs : List Nat) : Bool :=
  (mm_hw Ts hs 0 (mm_cw q2) && Nat.ble q2.2.2.2.2.2.1 12) && (match kd, ins with
  | 0, .invokespecial i => mm_plain q2.2.2.2.1 (y - 1) && (mm_hw Ts hs 1 (.methodLink own i q2.2.2.2.1) && (mm_hw Ts hs 2 (.instanceMethod q2.2.2.2.1) && (mm_hw Ts hs 3 (.initialized q2.2.2.2.1.cls) && (q2.2.2.2.1.name == "<init>" && (q2.2.2.2.2.2.2.1 == none && (q2.2.2.2.2.2.2.2.1 == [] && Nat.ble 1 y))))))
  | 1, .invokespecial i => mm_plain q2.2.2.2.1 (y - 1) && (mm_hn Ts hs 1 (.methodLinkNest own i q2.2.2.2.1 host) && (mm_hw Ts hs 2 (.instanceMethod q2.2.2.2.1) && (mm_hw Ts hs 3 (.initialized q2.2.2.2.1.cls) && (q2.2.2.2.1.name == "<init>" && (q2.2.2.2.2.2.2.1 == none && (q2.2.2.2.2.2.2.2.1 == [] && Nat.ble 1 y))))))
  | 2, .invokevirtual i => mm_plain q2.2.2.2.1 (y - 1) && (mm_hw Ts hs 1 (.methodLink own i q2.2.2.2.1) && (mm_hw Ts hs 2 (.instanceMethod q2.2.2.2.1) && (mm_hw Ts hs 3 (.initialized q2.2.2.2.1.cls) && (mm_hw Ts hs 4 (.selects q2.2.2.2.1.cls q2.2.2.2.1 q2.2.2.2.1) && (((K[z]?).map (fun r => r.1)) == some q2.2.2.2.1.cls && (q2.2.2.2.2.2.2.2.1 == [] && Nat.ble 1 y))))))
  | 6, .invokevirtual i => mm_plain q2.2.2.2.1 (y - 1) && (mm_hw Ts hs 1 (.methodLink own i q2.2.2.2.1) && (mm_hw Ts hs 2 (.instanceMethod q2.2.2.2.1) && (mm_hw Ts hs 3 (.initialized q2.2.2.2.1.cls) && (mm_hw Ts hs 4 (.selects q2.2.2.2.1.cls q2.2.2.2.1 q2.2.2.2.1) && (((K[z]?).map (fun r => r.1)) == some q2.2.2.2.1.cls && (q2.2.2.2.2.2.2.2.1 == [] && Nat.ble 1 y))))))
  | 3, .invokevirtual i => mm_plain q2.2.2.2.1 (y - 1) && (mm_hn Ts hs 1 (.methodLinkNest own i q2.2.2.2.1 host) && (mm_hw Ts hs 2 (.instanceMethod q2.2.2.2.1) && (mm_hw Ts hs 3 (.initialized q2.2.2.2.1.cls) && (mm_hw Ts hs 4 (.selects q2.2.2.2.1.cls q2.2.2.2.1 q2.2.2.2.1) && (((K[z]?).map (fun r => r.1)) == some q2.2.2.2.1.cls && (q2.2.2.2.2.2.2.2.1 == [] && Nat.ble 1 y))))))
  | 4, .invokestatic i => mm_plain q2.2.2.2.1 y && (mm_hw Ts hs 1 (.methodLink own i q2.2.2.2.1) && (mm_hw Ts hs 2 (.static q2.2.2.2.1) && (mm_hw Ts hs 3 (.initialized q2.2.2.2.1.cls) && q2.2.2.2.2.2.2.2.1 == [])))
  | 7, .invokestatic i => mm_plain q2.2.2.2.1 y && (mm_hw Ts hs 1 (.methodLink own i q2.2.2.2.1) && (mm_hw Ts hs 2 (.static q2.2.2.2.1) && mm_hw Ts hs 3 (.initialized q2.2.2.2.1.cls)))
  | 5, .invokestatic i => mm_plain q2.2.2.2.1 y && (mm_hn Ts hs 1 (.methodLinkNest own i q2.2.2.2.1 host) && (mm_hw Ts hs 2 (.static q2.2.2.2.1) && (mm_hw Ts hs 3 (.initialized q2.2.2.2.1.cls) && q2.2.2.2.2.2.2.2.1 == [])))
  | _, _ => false)
theorem mm_plain_ok {y : MethodName} {n : Nat} (h : mm_plain y n = true) : plainName y.cls = true ∧ (y.cls ≠ "java/lang/invoke/MethodHandle" ∧ y.cls ≠ "java/lang/invoke/VarHandle" ∧ (parseMethodDescriptor y.desc).map (fun d => d.parameters.length) = some n) := by
  simp only [mm_plain, Bool.and_eq_true, bne_iff_ne, decide_eq_true_eq] at h
  exact h
theorem mm_good {Ts : List Cond} {q : mM} (hg : Ts.all goodWord = true) (h : mm_cw q ∈ Ts) : GoodIn Ts (mm_ws Ts q) := by
  have hg2 := List.all_eq_true.mp hg
  intro w hw
  rcases List.mem_cons.mp hw with rfl | hw
  · exact ⟨h, good_of_word (hg2 _ h)⟩
  · exact ⟨hw, good_of_word (hg2 _ hw)⟩
section MMC2
variable {p : Program} {l : Launch} {e : Env} {R : Room} {s : State} {m : MethodId} {args : Array Value} {below : List Frame} {meth : Method} {c : Code} {D : va_G} {K : mK} {tys : List (ClassId × FieldType)} {b base : Nat} {w0 : va_W} {Qs : State → Prop} {sc : mS} {Tb : List Cond} {q q2 : mM}
theorem mm_cl_ok {b0 : mB} {x : mC} {as r : List Value} (h : mm_cl b0 x = some (as, r)) : as = (x.2.2.1.take b0.2.2.2.2.2.2.1).reverse ∧ r = x.2.2.1.drop b0.2.2.2.2.2.2.1 ∧ b0.2.2.2.2.2.2.1 ≤ x.2.2.1.length ∧ as.all mm_c1 = true ∧ mm_recv b0.2.2.2.2.1 b0.2.2.2.2.2.2.2.1 as x.2.2.2.1 = true ∧ (r.map Value.category).sum ≤ 8 := by
  obtain ⟨pc, ins, len, grp, kd, x0, y0, z0, hs⟩ := b0
  obtain ⟨pc2, ls, st, h0, kc, ks⟩ := x
  unfold mm_cl at h
  dsimp only at h ⊢
  split at h
  · rename_i hc
    simp only [Bool.and_eq_true, decide_eq_true_eq] at hc
    obtain ⟨h1, h2, h3, h4⟩ := hc
    cases h
    refine ⟨rfl, rfl, h1, ?_, h3, Nat.le_of_ble_eq_true h4⟩
    rw [List.all_reverse]
    exact h2
  · cases h
/-- a call that returns -/
theorem mm_call_ok {Z : State → Prop} (hZ : mm_Zc base Z) (X : mm_X D K tys b base sc (Tb.filter goodWord) (Tb.filter mm_isN) Z p s m args meth c q) {d : Nat} (hR : R.cells = q.1 ∧ R.slots = q.2.1 ∧ d + 2 ≤ R.frames ∧ 31 * d + 103 ≤ R.locals)
    {pc len grp kd x k z : Nat} {ins : Instr} {hs : List Nat} {ls : mL} {st as r : List Value} {h : List mE} {kc ks : Nat} {Q : mR → List mE → Prop}
    (hd : decode q.2.2.2.2.1 pc = .ok (ins, 3)) (hck : mm_ckC Tb K q.2.2.2.1.cls q.2.2.2.2.2.2.2.2.2 q2 ins kd k z hs = true) (hkd : kd ≠ 6 ∧ kd ≠ 7)
    (hcl : mm_cl (pc, ins, len, grp, kd, x, k, z, hs) (pc, ls, st, h, kc, ks) = some (as, r)) (hk : kc + q2.1 ≤ q.1 ∧ ks + q2.2.1 ≤ q.2.1)
    (hM : ∀ (ws : va_W) (av : List Value), mm_h ws b tys h ws → mm_vs b ws as av → Met l q2.2.2.2.1 (mm_ws (Tb.filter goodWord) q2) (mm_rm d q2) (mm_Pc D K tys b base sc (Tb.filter mm_isN) Z ws av) (mm_Qc D K tys b base ws Q) q2.1 q2.2.1 (fun a => base ≤ a))
    (g : ∀ v h1, Q (.inl v) h1 → mm_G p l e R s m args below meth c D (mm_cls K) tys (fun a => base ≤ a) w0 b Qs (pc + 3, ls, v.toList ++ r, h1, kc + q2.1, ks + q2.2.1)) :
    mm_G p l e R s m args below meth c D (mm_cls K) tys (fun a => base ≤ a) w0 b Qs (pc, ls, st, h, kc, ks) := by
  intro H locs ws la sv h1 h2 h3 h4 h5 h6
  obtain ⟨hx, hb, hml, hown, hlocks, hret, hname, hext, hts, E⟩ := X
  have hN := E.2.2.1
  have hKs := E.1
  obtain ⟨ea, er, hlen, hc1, hrc, hsum⟩ := mm_cl_ok hcl
  dsimp only at ea er hlen hrc
  obtain ⟨h7, h8⟩ := mm_vs_take k h6
  have h9 := mm_vs_rev h7
  rw [← ea] at h9
  have h8r : mm_vs b ws r (sv.drop k) := by rw [er]; exact h8
  have hsv : sv = ((sv.take k).reverse).reverse ++ sv.drop k := by rw [List.reverse_reverse, List.take_append_drop]
  generalize hav : (sv.take k).reverse = av at h9 hsv
  generalize hre : sv.drop k = rest at h8r hsv
  have hsz : (F0 m pc la sv).locals.size = q.2.2.2.2.2.1 := (mm_size h5).trans hml
  have hrw : 2 * (F0 m pc la sv).monitorRoom + (rest.map fun v => v.category).sum ≤ 8 := lv_room (by rw [show (rest.map fun v => v.category).sum = (rest.map Value.category).sum from rfl, mm_sum h8r]; exact hsum)
  have hmet := hM ws av (h1.re mm_ext.rf) h9
  have hNs : (Tb.filter mm_isN).all mm_isN = true := List.all_eq_true.mpr (fun w hw => (List.mem_filter.mp hw).2)
  have hgd : (Tb.filter goodWord).all goodWord = true := List.all_eq_true.mpr (fun w hw => (List.mem_filter.mp hw).2)
  have hbl : FrameBlind (mm_Pc D K tys b base sc (Tb.filter mm_isN) Z ws av) := mm_blind hZ hNs
  have hpre := mm_pre (av := av) hZ hNs E h2 h3 h4
  have hlav : av.length = as.length := mm_vs_len h9
  have hlas : as.length = k := by rw [ea, List.length_reverse, List.length_take]; omega
  have hcf : CallFix p m c q.2.2.2.2.1 q.2.2.2.2.2.1 s args (Tb.filter goodWord) q.2.2.2.1.cls := ⟨hx, hb, hml, hown, hts⟩
  have hff : kc + q2.1 ≤ R.cells ∧ ks + q2.2.1 ≤ R.slots := ⟨by rw [hR.1]; exact hk.1, by rw [hR.2.1]; exact hk.2⟩
  unfold mm_ckC at hck
  rw [Bool.and_eq_true, Bool.and_eq_true] at hck
  obtain ⟨⟨hcw, hml2⟩, hck⟩ := hck
  have hml2 := Nat.le_of_ble_eq_true hml2
  have hcw := mm_hw_ok hcw
  have hgood : GoodIn (Tb.filter goodWord) (mm_ws (Tb.filter goodWord) q2) := mm_good hgd hcw
  have hroom : (mm_rm d q2).frames + 1 ≤ R.frames ∧ 8 + (q2.2.2.2.2.2.1 + 11) + (mm_rm d q2).locals ≤ R.locals := ⟨hR.2.2.1, by show 8 + (q2.2.2.2.2.2.1 + 11) + (31 * d + 72) ≤ R.locals; omega⟩
  have hrecv : kd ≠ 4 → kd ≠ 5 → kd ≠ 7 → ∃ (i : Nat) (fs : List Value) (as1 : List Value), as = .ref i :: as1 ∧ h[i]? = some (.inr (z, fs)) := by
    intro k4 k5 k7
    unfold mm_recv at hrc
    split at hrc
    · exact absurd rfl k4
    · exact absurd rfl k5
    · exact absurd rfl k7
    · split at hrc
      · split at hrc
        · rename_i hi
          have e9 := eq_of_beq hrc
          subst e9
          exact ⟨_, _, _, rfl, hi⟩
        · cases hrc
      · cases hrc
  split at hck
  · simp only [Bool.and_eq_true] at hck
    obtain ⟨e1, e2, e3, e4, e5, e6, e7, e8⟩ := hck
    obtain ⟨-, hpl⟩ := mm_plain_ok e1
    obtain ⟨i, fs, as1, rfl, hi⟩ := hrecv (by decide) (by decide) (by decide)
    obtain ⟨w0, av1, rfl, hw, h9⟩ := h9
    obtain ⟨a0, e0, ha0, rfl⟩ := hw
    have hcw2 : mm_ws (Tb.filter goodWord) q2 = Cond.code q2.2.2.2.1 q2.2.2.2.2.1 q2.2.2.2.2.2.1 none :: Tb.filter goodWord := by
      unfold mm_ws mm_cw
      rw [eq_of_beq e7, eq_of_beq e6]
    exact mm_back (va_runI (As := av1) (rest := rest) hcf hmet (cwI (k - 1) hts hgood hcw2 rfl rfl (hts _ (mm_hw_ok e4)) (hts _ (mm_hw_ok e2)) (hts _ (mm_hw_ok e3)) (eq_of_beq e5) hpl hroom) ⟨hbl, hpre⟩ rfl (by simp at hlav hlas; omega) hsz (by rw [List.reverse_cons, List.append_assoc] at hsv; exact hsv) hrw hd hff) h4 h5 h8r h1.2.1 g
  · simp only [Bool.and_eq_true] at hck
    obtain ⟨e1, e2, e3, e4, e5, e6, e7, e8⟩ := hck
    obtain ⟨-, hpl⟩ := mm_plain_ok e1
    obtain ⟨i, fs, as1, rfl, hi⟩ := hrecv (by decide) (by decide) (by decide)
    obtain ⟨w0, av1, rfl, hw, h9⟩ := h9
    obtain ⟨a0, e0, ha0, rfl⟩ := hw
    have hcw2 : mm_ws (Tb.filter goodWord) q2 = Cond.code q2.2.2.2.1 q2.2.2.2.2.1 q2.2.2.2.2.2.1 none :: Tb.filter goodWord := by
      unfold mm_ws mm_cw
      rw [eq_of_beq e7, eq_of_beq e6]
    exact mm_back (va_runIN (As := av1) (rest := rest) hcf hmet ⟨va_cnB (k - 1) hts hgood hcw2 rfl rfl (hN _ (mm_hn_ok e2)) (hts _ (mm_hw_ok e4)) hpl hroom, eq_of_beq e5, hts _ (mm_hw_ok e3)⟩ ⟨hbl, hpre⟩ rfl (by simp at hlav hlas; omega) hsz (by rw [List.reverse_cons, List.append_assoc] at hsv; exact hsv) hrw hd hff) h4 h5 h8r h1.2.1 g
  · simp only [Bool.and_eq_true] at hck
    obtain ⟨e1, e2, e3, e4, e5, e6, e7, e8⟩ := hck
    obtain ⟨-, hpl⟩ := mm_plain_ok e1
    obtain ⟨i, fs, as1, rfl, hi⟩ := hrecv (by decide) (by decide) (by decide)
    obtain ⟨w0, av1, rfl, hw, h9⟩ := h9
    obtain ⟨a0, e0, ha0, rfl⟩ := hw
    obtain ⟨gs, rfl, hgs⟩ := mm_cell h1 hi ha0
    have hcw2 : mm_ws (Tb.filter goodWord) q2 = Cond.code q2.2.2.2.1 q2.2.2.2.2.1 q2.2.2.2.2.2.1 q2.2.2.2.2.2.2.1 :: Tb.filter goodWord := by
      unfold mm_ws mm_cw
      rw [eq_of_beq e7]
    obtain ⟨r0, hr0, hr1⟩ : ∃ r0 : vw_C, (mm_cls K)[z]? = some r0 ∧ r0.1 = q2.2.2.2.1.cls := by
      have e9 := eq_of_beq e6
      cases hz : K[z]? with
      | none => rw [hz] at e9; cases e9
      | some r0 =>
        rw [hz] at e9
        exact ⟨(r0.1, r0.2.1, r0.2.2.1), by simp [mm_cls, hz], Option.some.inj e9⟩
    have hre := va_recv hKs h2 hr0 ha0
    rw [hr1] at hre
    exact mm_back (va_runV (As := av1) (rest := rest) (C := q2.2.2.2.1.cls) hcf hmet ⟨callB_of (k - 1) hts hgood hcw2 rfl rfl (hts _ (mm_hw_ok e4)) (hts _ (mm_hw_ok e2)) hpl hroom, hts _ (mm_hw_ok e3), hts _ (mm_hw_ok e5)⟩ ⟨hbl, hre, hpre⟩ rfl (by simp at hlav hlas; omega) hsz (by rw [List.reverse_cons, List.append_assoc] at hsv; exact hsv) hrw hd hff) h4 h5 h8r h1.2.1 g
  · exact absurd rfl hkd.1
  · simp only [Bool.and_eq_true] at hck
    obtain ⟨e1, e2, e3, e4, e5, e6, e7, e8⟩ := hck
    obtain ⟨-, hpl⟩ := mm_plain_ok e1
    obtain ⟨i, fs, as1, rfl, hi⟩ := hrecv (by decide) (by decide) (by decide)
    obtain ⟨w0, av1, rfl, hw, h9⟩ := h9
    obtain ⟨a0, e0, ha0, rfl⟩ := hw
    obtain ⟨gs, rfl, hgs⟩ := mm_cell h1 hi ha0
    have hcw2 : mm_ws (Tb.filter goodWord) q2 = Cond.code q2.2.2.2.1 q2.2.2.2.2.1 q2.2.2.2.2.2.1 q2.2.2.2.2.2.2.1 :: Tb.filter goodWord := by
      unfold mm_ws mm_cw
      rw [eq_of_beq e7]
    obtain ⟨r0, hr0, hr1⟩ : ∃ r0 : vw_C, (mm_cls K)[z]? = some r0 ∧ r0.1 = q2.2.2.2.1.cls := by
      have e9 := eq_of_beq e6
      cases hz : K[z]? with
      | none => rw [hz] at e9; cases e9
      | some r0 =>
        rw [hz] at e9
        exact ⟨(r0.1, r0.2.1, r0.2.2.1), by simp [mm_cls, hz], Option.some.inj e9⟩
    have hre := va_recv hKs h2 hr0 ha0
    rw [hr1] at hre
    exact mm_back (va_runVN (As := av1) (rest := rest) (C := q2.2.2.2.1.cls) hcf hmet ⟨va_cnB (k - 1) hts hgood hcw2 rfl rfl (hN _ (mm_hn_ok e2)) (hts _ (mm_hw_ok e4)) hpl hroom, hts _ (mm_hw_ok e3), hts _ (mm_hw_ok e5)⟩ ⟨hbl, hre, hpre⟩ rfl (by simp at hlav hlas; omega) hsz (by rw [List.reverse_cons, List.append_assoc] at hsv; exact hsv) hrw hd hff) h4 h5 h8r h1.2.1 g
  · simp only [Bool.and_eq_true] at hck
    obtain ⟨e1, e2, e3, e4, e7⟩ := hck
    obtain ⟨-, hpl⟩ := mm_plain_ok e1
    have hcw2 : mm_ws (Tb.filter goodWord) q2 = Cond.code q2.2.2.2.1 q2.2.2.2.2.1 q2.2.2.2.2.2.1 q2.2.2.2.2.2.2.1 :: Tb.filter goodWord := by
      unfold mm_ws mm_cw
      rw [eq_of_beq e7]
    exact mm_back (va_runS (As := av) (rest := rest) hcf hmet ⟨callB_of k hts hgood hcw2 rfl rfl (hts _ (mm_hw_ok e4)) (hts _ (mm_hw_ok e2)) hpl hroom, hts _ (mm_hw_ok e3)⟩ ⟨hbl, hpre⟩ rfl (by omega) hsz hsv hrw hd hff) h4 h5 h8r h1.2.1 g
  · exact absurd rfl hkd.2
  · simp only [Bool.and_eq_true] at hck
    obtain ⟨e1, e2, e3, e4, e7⟩ := hck
    obtain ⟨-, hpl⟩ := mm_plain_ok e1
    have hcw2 : mm_ws (Tb.filter goodWord) q2 = Cond.code q2.2.2.2.1 q2.2.2.2.2.1 q2.2.2.2.2.2.1 q2.2.2.2.2.2.2.1 :: Tb.filter goodWord := by
      unfold mm_ws mm_cw
      rw [eq_of_beq e7]
    exact mm_back (va_runSN (As := av) (rest := rest) hcf hmet ⟨va_cnB k hts hgood hcw2 rfl rfl (hN _ (mm_hn_ok e2)) (hts _ (mm_hw_ok e4)) hpl hroom, hts _ (mm_hw_ok e3), trivial⟩ ⟨hbl, hpre⟩ rfl (by omega) hsz hsv hrw hd hff) h4 h5 h8r h1.2.1 g
  · cases hck
end MMC2
end
section
/-! throws: a throw in a method's own text, its way out, its catching (launches without stack traces) -/
def mx_L (base : Nat) (n d : String) (U : State) : Prop := ∃ (c : ClassId) (k : Class) (i : Nat) (f : Field) (a : Nat) (cell : Cell), U.vm.findClass Bundle.tN = some c ∧ U.fieldFound? Bundle.tN n d = some (c, k, i, f) ∧ f.isStatic = true ∧ k.statics = some a ∧ U.heap[a]? = some cell ∧ cell.vm.isStatics = true ∧ cell.cls = c ∧ f.slot < cell.slots.size ∧ k.staticTypes[f.slot]? = some f.type ∧ a < base ∧ ∃ v, cell.slots[f.slot]? = some v ∧ v.isRef = true
theorem mx_L.moved {base : Nat} {n d : String} {u U : State} (hvm : u.vm.Alike U.vm) (hh : ∀ q, q < base → U.heap[q]? = u.heap[q]?) (h : mx_L base n d u) : mx_L base n d U := by
  obtain ⟨c, k, i, f, a, cell, h1, h2, h3, h4, h5, h6, h7, h8, h9, h10, h11⟩ := h
  obtain ⟨k2, hi, he⟩ := State.fieldFound?_setVm hvm h2
  exact ⟨c, k2, i, f, a, cell, by rw [hvm.findClass]; exact h1, hi, h3, by rw [he]; exact h4, by rw [hh a h10]; exact h5, h6, h7, h8, by rw [he]; exact h9, h10, h11⟩
theorem mx_L.lays {base : Nat} {n d : String} {U : State} {args : Array Value} (h : mx_L base n d U) : (Cond.laysStatic Bundle.tN n d).before args U = true := by
  obtain ⟨c, k, i, f, a, cell, h1, h2, h3, h4, h5, h6, h7, h8, h9, -⟩ := h
  show (Cond.laysStatic Bundle.tN n d).holds args U none U [] = true
  exact Cond.laysStatic_of h1 h2 h3 h4 h5 h6 h7 h8 h9
theorem mx_L.ref {base : Nat} {n d : String} {U : State} {args : Array Value} (h : mx_L base n d U) : (Cond.isRef (.static Bundle.tN n d)).before args U = true := by
  obtain ⟨c, k, i, f, a, cell, h1, h2, h3, h4, h5, h6, h7, h8, h9, h10, v, hv, hr⟩ := h
  have he : (Term.static Bundle.tN n d).eval args U none [] U = some v := by
    simp [Term.eval, State.fieldNamed?, h2, h3, h4, h5, h6, hv]
  simp only [Cond.before, Cond.holds, Cond.value, he]
  cases v <;> simp_all [Value.isRef]
theorem mx_L.of {base : Nat} {n d : String} {U : State} {args : Array Value} (hl : (Cond.laysStatic Bundle.tN n d).before args U = true) (hini : (Cond.initialized Bundle.tN).before args U = true) (h : (Cond.isRef (.static Bundle.tN n d)).before args U = true) (hb : U.heap.size ≤ base) : mx_L base n d U := by
  obtain ⟨c, k, i, f, a, cell, h1, h2, h3, h4, h5, h6, h7, h8, h9⟩ := Cond.laysStatic_spec hl
  refine ⟨c, k, i, f, a, cell, h1, h2, h3, h4, h5, h6, h7, h8, h9, Nat.lt_of_lt_of_le (Array.getElem?_eq_some_iff.mp h5).1 hb, ?_⟩
  have hz := va_Zqof (A := fun _ => False) hl hini h (fun _ _ z => z)
  rcases hz with ⟨cf, kf, fi, f2, a2, cell2, g1, g2, g3, g4, g5, g6, g7, -⟩ | ⟨t, cf, kf, fi, f2, a2, cell2, g1, g2, g3, g4, g5, g6, g7, -⟩
  · cases h2.symm.trans g1
    cases h4.symm.trans g4
    cases h5.symm.trans g5
    exact ⟨_, g7, rfl⟩
  · cases h2.symm.trans g1
    cases h4.symm.trans g4
    cases h5.symm.trans g5
    exact ⟨_, g7, rfl⟩
/-- words that the tables alone decide, and no reader of steady words carries -/
def mx_isC (w : Cond) : Bool := match w with
  | .castable _ _ => true
  | .declares _ => true
  | _ => false
theorem mx_isC_on {w : Cond} (h : mx_isC w = true) : w.onTables = true := by
  cases w <;> first | rfl | (cases h; done)
theorem mx_isC_moved {w : Cond} {u U : State} (hn : mx_isC w = true) (hvm : u.vm.Alike U.vm) (h : va_Nw w u) : va_Nw w U := by
  have tr : w.before #[] (u.setVm U.vm) = true → w.before #[] U = true := by
    intro h
    have e := Cond.onTables_vm (A := #[]) (A' := #[]) (U := u) (U' := U) U.vm w (mx_isC_on hn)
    have hU : U.setVm U.vm = U := rfl
    rw [hU] at e
    rw [← e]
    exact h
  cases w <;> first | (cases hn; done) | (refine tr ?_; rw [Cond.castable_setVm hvm]; exact h) | (refine tr ?_; rw [Cond.declares_setVm hvm]; exact h)
/-- what a run has beside the rest, for its throws: the exceptions' names are apart, the texts lie, the two statics -/
def mx_Z (base : Nat) (Cx : List Cond) (Ex : List String) (Sx : List (String × Nat × String)) (U : State) : Prop :=
  (∀ i j : Nat, i < Ex.length → j < Ex.length → i ≠ j → va_Nc (Ex.getD i "") (Ex.getD j "") U) ∧ (∀ t ∈ Sx, ∃ sa, vk_R t.1 t.2.1 t.2.2 sa U) ∧ mx_L base "UNASSIGNED_STACK" Bundle.steD U ∧ mx_L base "SUPPRESSED_SENTINEL" Bundle.listD U ∧ ∀ w ∈ Cx, va_Nw w U
theorem mx_Zc {base : Nat} {Cx : List Cond} (hCx : Cx.all mx_isC = true) {Ex : List String} {Sx : List (String × Nat × String)} : mm_Zc base (mx_Z base Cx Ex Sx) := by
  intro u U hW hh h
  obtain ⟨h1, h2, h3, h4, h5⟩ := h
  refine ⟨fun i j hi hj hij => va_Nc.moved hW.alike (h1 i j hi hj hij), fun t ht => ?_, h3.moved hW.alike hh, h4.moved hW.alike hh, fun w hw => mx_isC_moved (List.all_eq_true.mp hCx w hw) hW.alike (h5 w hw)⟩
  obtain ⟨sa, hs⟩ := h2 t ht
  exact ⟨sa, vk_R.warm hW hs⟩
/-- the four words of a throw that speak of the heap -/
def mx_four (w : Cond) : Bool := decide (w = .isRef (.static Bundle.tN "UNASSIGNED_STACK" Bundle.steD)) || (decide (w = .isRef (.static Bundle.tN "SUPPRESSED_SENTINEL" Bundle.listD)) || (decide (w = .laysStatic Bundle.tN "UNASSIGNED_STACK" Bundle.steD) || decide (w = .laysStatic Bundle.tN "SUPPRESSED_SENTINEL" Bundle.listD)))
theorem mx_atoms {base : Nat} {L Ts Cx : List Cond} {args : Array Value} {U : State} (h : L.all (fun w => mx_four w || (decide (w ∈ Ts) || decide (w ∈ Cx))) = true) (hC : ∀ w ∈ Cx, w.before args U = true) (ht : ∀ w ∈ Ts, w.before args U = true) (h3 : mx_L base "UNASSIGNED_STACK" Bundle.steD U) (h4 : mx_L base "SUPPRESSED_SENTINEL" Bundle.listD U) : ∀ w ∈ L, w.before args U = true := by
  intro w hw
  have h1 := List.all_eq_true.mp h w hw
  simp only [mx_four, Bool.or_eq_true, decide_eq_true_eq] at h1
  rcases h1 with (rfl | rfl | rfl | rfl) | h1 | h1
  · exact h3.ref
  · exact h4.ref
  · exact h3.lays
  · exact h4.lays
  · exact ht w h1
  · exact hC w h1
section MXB
variable {p : Program} {l : Launch} {e : Env} {R : Room} {s : State} {m : MethodId} {args : Array Value} {below : List Frame} {meth : Method} {c : Code} {T : State} {locs : List Loc} {cells slots : Nat}
/-- the method as if it were begun anew at this state -/
theorem mx_anew (X : Stand p l e R s m args below meth c T locs cells slots) {R2 : Room} (hf : R2.frames ≤ R.frames) (hl : R2.locals ≤ R.locals) (hc : cells + R2.cells ≤ R.cells) (hs : slots + R2.slots ≤ R.slots) :
    Stand p l e R2 ((T.setVm s.vm).setFrames (.invoking m args :: below)) m args below meth c T [] 0 0 := by
  have htop : (T.setVm s.vm).topJava?.isSome := X.here.top
  have hF : ((T.setVm s.vm).setFrames (.invoking m args :: below)).frames = .invoking m args :: below := State.frames_setFrames _ (State.cur_lt_of_top htop)
  obtain ⟨g₀, hg0⟩ := Option.isSome_iff_exists.mp htop
  obtain ⟨r, hr⟩ := State.topJava?_eq_some.mp hg0
  have hl9 : e.platform.stackLimits (T.setVm s.vm).me = e.platform.stackLimits s.me := X.limits
  have hb9 : (T.setVm s.vm).me.stackBytes = s.me.stackBytes := X.bytes
  have hroom : ((T.setVm s.vm).setFrames (.invoking m args :: below)).hasRoom e.platform R2 = true := by
    have h := X.room
    have hU : ((T.setVm s.vm).setFrames (.invoking m args :: below)).localsInUse = s.localsInUse := by
      rw [State.localsInUse_invoking hF (meth := meth) (c := c) X.method X.code, State.localsInUse_invoking X.frames X.method X.code]
    simp only [State.hasRoom, Bool.and_eq_true, decide_eq_true_eq] at h ⊢
    obtain ⟨⟨⟨⟨h1, h2, h3, h4, h5, h6⟩, h7⟩, h8⟩, h9⟩ := h
    rw [X.frames, List.length_cons] at h2 h3
    have q1 := X.heapSize
    have q2 := X.used
    simp only [hF, hU, List.length_cons, State.stackLimits_setFrames, State.stackBytes_setFrames, hl9, hb9]
    refine ⟨⟨⟨⟨by omega, by omega, by omega, by omega, by omega, h6⟩, ?_⟩, ?_⟩, X.book⟩
    · show T.heap.size + R2.cells ≤ e.platform.maxCells
      omega
    · show T.slotsUsed + R2.slots ≤ e.platform.maxSlots
      omega
  have hsame : ((T.setVm s.vm).setFrames (.invoking m args :: below)).sameButNew (T.setVm s.vm) [] 0 0 := by
    refine ⟨?_, Nat.le_refl _, Nat.le_refl _, ?_, ?_, fun a c9 h9 => ⟨c9, h9, rfl, rfl, fun _ _ => rfl⟩⟩
    · obtain ⟨t, ht, -⟩ := State.frames_cons hr
      show T.setVm s.vm = { ((T.setVm s.vm).setFrames (.invoking m args :: below)).setFrames (T.setVm s.vm).frames with heap := T.heap, slotsUsed := T.slotsUsed }
      rw [State.setFrames_setFrames, State.setFrames_self ht]
      rfl
    · show T.slotsUsed = T.slotsUsed + ((T.heap.toList.drop T.heap.size).map (·.slots.size)).sum
      rw [List.drop_eq_nil_of_le (Nat.le_of_eq Array.length_toList)]
      rfl
    · show ((T.heap.toList.drop T.heap.size).map (·.slots.size)).sum ≤ 0
      rw [List.drop_eq_nil_of_le (Nat.le_of_eq Array.length_toList)]
      exact Nat.le_refl _
  exact ⟨X.admits, X.cas, X.clock, hF, hroom, X.hears, X.method, X.code, X.here, X.tail, X.warmed, by rw [State.stackLimits_setFrames]; rfl, by rw [State.stackBytes_setFrames]; rfl, hsame⟩
/-- what was there and was not written is as it was -/
theorem mx_old {U : State} {L : List Loc} {k n : Nat} (h : s.sameButNew ({ U with vm := s.vm } : State) L k n) : s.heap.size ≤ U.heap.size ∧ ∀ q : Nat, q < s.heap.size → (∀ z ∈ L, z.base ≠ q) → U.heap[q]? = s.heap[q]? := by
  obtain ⟨-, h2, -, -, -, h6⟩ := h
  refine ⟨h2, fun q hq hz => ?_⟩
  obtain ⟨c9, e1, e2, e3, e4⟩ := h6 q _ (Array.getElem?_eq_getElem hq)
  have hs : c9.slots = (s.heap[q]).slots := Array.ext_getElem? fun i => e4 i fun hm => hz _ hm rfl
  have h9 : c9 = s.heap[q] := by
    rw [hs] at e2
    exact e2
  have e5 : U.heap[q]? = some c9 := e1
  rw [e5, h9, Array.getElem?_eq_getElem hq]
end MXB
end
section
/-! a throw in a method's own text: new, dup, ldc, invokespecial, athrow -/
def mx_names : List String := ["java/lang/RuntimeException", "java/lang/Exception"]
def mx_ckT (Tb : List Cond) (Ex : List String) (Sx : List (String × Nat × String)) (bytes : ByteArray) (own : String) (pc : Nat) (ins : Instr) (x y z : Nat) (hs : List Nat) : Bool := match ins, Ex[x]?, Sx[hs.getD 2 0]? with
  | .new ik, some X, some (o, i, _) => mm_hw Tb hs 0 (.classLink own ik X) && (mm_hw Tb hs 1 (.initialized X) && ((o == own && i == y) && ((decide (decode bytes pc = .ok (.new ik, 3)) && (decide (decode bytes (pc + 3) = .ok (.dup, 1)) && (decide (decode bytes (pc + 4) = .ok (.ldc y, 2)) && (decide (decode bytes (pc + 6) = .ok (.invokespecial z, 3)) && decide (decode bytes (pc + 9) = .ok (.athrow, 1))))))
      && ((Bundle.fit X && mx_names.all Bundle.fit) && (Bundle.ownAtoms own z X mx_names).all (fun w => mx_four w || (decide (w ∈ Tb.filter goodWord) || decide (w ∈ Tb.filter mx_isC)))))))
  | _, _, _ => false
section MXS
variable {p : Program} {l : Launch} {e : Env} {R : Room} {s : State} {m : MethodId} {args : Array Value} {below : List Frame} {meth : Method} {c : Code} {D : va_G} {K : mK} {tys : List (ClassId × FieldType)} {b base : Nat} {w0 : va_W} {Qs : State → Prop} {sc : mS} {Tb : List Cond} {q : mM} {Ex : List String} {Sx : List (String × Nat × String)}
theorem mx_site_ok (X : mm_X D K tys b base sc (Tb.filter goodWord) (Tb.filter mm_isN) (mx_Z base (Tb.filter mx_isC) Ex Sx) p s m args meth c q) (hl : l.stackTraces = false) (hR : q.1 ≤ R.cells ∧ q.2.1 ≤ R.slots ∧ 6 ≤ R.frames ∧ 96 ≤ R.locals)
    {pc x y z : Nat} {ins : Instr} {hs : List Nat} {ls : mL} {st : List Value} {h : List mE} {kc ks : Nat} (hck : mx_ckT Tb Ex Sx q.2.2.2.2.1 q.2.2.2.1.cls pc ins x y z hs = true) (hno : q.2.2.2.2.2.2.2.1 = []) (hk : kc + 1 ≤ q.1 ∧ ks + 6 ≤ q.2.1) (hst : (st.map Value.category).sum ≤ 8)
    (hend : ∀ (H : Heap) (locs : List Loc) (ws : va_W) (U : State) (a : Addr) (ce : Cell), mm_h w0 b tys h ws → va_P D (mm_cls K) ws H → va_D (fun a => base ≤ a) ws → va_S (fun a => base ≤ a) s.heap H locs → U.status = .running → Ended U below (.threw a) → s.WarmedH U.vm → s.sameButNew ({ U with vm := s.vm } : State) locs (kc + 1) (ks + 6) →
      H.size ≤ U.heap.size → (∀ q : Nat, q < H.size → U.heap[q]? = H[q]?) → U.heap[a]? = some ce → ce.vm = .none → s.vm.findClass (Ex.getD x "") = some ce.cls → Qs U) :
    mm_G p l e R s m args below meth c D (mm_cls K) tys (fun a => base ≤ a) w0 b Qs (pc, ls, st, h, kc, ks) := by
  intro H locs ws la sv h1 h2 h3 h4 h5 h6
  obtain ⟨hx, hb, hml, hown, hlocks, hret, hname, hext, hts, hK, hXs, hN, hbase, hbb, htys, hZ⟩ := X
  unfold mx_ckT at hck
  split at hck
  rotate_left
  · cases hck
  rename_i ik E0 o9 i9 tx hE hSx
  simp only [Bool.and_eq_true, decide_eq_true_eq] at hck
  obtain ⟨c1, c2, ⟨c3, c4⟩, ⟨d0, d3, d4, d6, d9⟩, ⟨c5, c6⟩, c7⟩ := hck
  have hEx : Ex.getD x "" = E0 := by rw [List.getD_eq_getElem?_getD, hE]; rfl
  have c3 := eq_of_beq c3
  have c4 := eq_of_beq c4
  subst c3
  subst c4
  have hout : ∀ x ∈ c.exceptionTable.toList, covers x (pc + 9) = false := by
    rw [hno] at hext
    have h9 : c.exceptionTable.toList = [] := List.map_eq_nil_iff.mp hext
    rw [h9]
    exact fun x hx => nomatch hx
  have hsv : (sv.map fun v => v.category).sum ≤ 8 := by
    rw [show (sv.map fun v => v.category).sum = (sv.map Value.category).sum from rfl, mm_sum h6]
    exact hst
  intro T hT X0
  have htr : e.platform.stackTraces = false := (show e.platform.stackTraces = l.stackTraces by rw [X0.admits.platform]).trans hl
  have hRc : kc + 1 ≤ R.cells := Nat.le_trans hk.1 hR.1
  have hRs : ks + 6 ≤ R.slots := Nat.le_trans hk.2 hR.2.1
  have Y := mx_anew X0 (R2 := { frames := R.frames, locals := R.locals, cells := 1, slots := 6 }) (Nat.le_refl _) (Nat.le_refl _) hRc hRs
  obtain ⟨s2, hA⟩ : ∃ z, z = (T.setVm s.vm).setFrames (.invoking m args :: below) := ⟨_, rfl⟩
  rw [← hA] at Y
  have hvm : s2.vm = s.vm := by rw [hA]; rfl
  have hhp : s2.heap = H := by rw [hA]; exact hT
  have hW0 : s.WarmedH s2.vm := by rw [hvm]; exact State.WarmedH.refl s
  have hts2 : ∀ w ∈ Tb.filter goodWord, w.before args s2 = true := fun w hw => word_at hW0 (good_of_word (List.mem_filter.mp hw).2) (hts w hw)
  have hCx : (Tb.filter mx_isC).all mx_isC = true := List.all_eq_true.mpr (fun w hw => (List.mem_filter.mp hw).2)
  have hZ2 := mx_Zc hCx s s2 hW0 (fun q hq => by rw [hhp]; exact h4.2.1 q (Nat.lt_of_lt_of_le hq hbase) (Nat.not_le.mpr hq)) hZ
  have hat := mx_atoms c7 (fun w hw => va_Nw.use (mx_isC_on (List.mem_filter.mp hw).2) (hZ2.2.2.2.2 w hw)) hts2 hZ2.2.2.1 hZ2.2.2.2.1
  obtain ⟨sa, hstr⟩ := hZ2.2.1 _ (List.mem_of_getElem? hSx)
  have hown2 : s2.vm.findClass q.2.2.2.1.cls = some m.cls := by rw [hvm]; exact hown
  have hins : (Cond.instantiable E0 6).before args s2 = true := hat _ (by simp [Bundle.ownAtoms])
  obtain ⟨vm₁, cX, kX, hfX, hkX, -, -, X₁, st1⟩ := Y.newCold hx (own := q.2.2.2.1.cls) (C := E0) (index := ik) (n := 6) hown2 (hts2 _ (mm_hw_ok c1)) hins (hts2 _ (mm_hw_ok c2))
    (g := F0 m pc la sv) rfl (by rw [hb]; exact d0) (Nat.le_refl _) (Nat.le_refl _)
  generalize hT1 : (T.setVm vm₁).pushCell { cls := cX, slots := kX.instanceTypes.map defaultValue, vm := .none } = T1 at X₁ st1
  have hcat : (Value.ref T.heap.size).category = 1 := rfl
  have hcellA : T1.heap[T.heap.size]? = some (freshCell cX kX) := by rw [← hT1]; exact State.heap_pushCell_size _ _
  have d3' : decode c.code (pc + 3) = .ok (.dup, 1) := by rw [hb]; exact d3
  have d4' : decode c.code (pc + 4) = .ok (.ldc i9, 2) := by rw [hb]; exact d4
  obtain ⟨U, hsteps, hrun, hended, hW, hsame, ce, hce, hO⟩ := X₁.ctorThrowS hx htr (own := q.2.2.2.1.cls) (cls := E0) (names := mx_names) (ic := z) hown2 c5 (List.all_eq_true.mp c6) hat (fun x hx => nomatch hx) hfX hkX hcellA (by rw [hhp, hT]; exact Nat.le_refl _) (msg := .ref sa) rfl
    (g := { method := m, pc := pc + 6, locals := la, stack := .ref sa :: .ref T.heap.size :: .ref T.heap.size :: sv, locked := none }) rfl (mm_size h5) rfl rfl (rest := sv) rfl
    (by rw [hb]; exact d6) (by rw [hb]; exact d9) hout (by show 2 + 3 < R.frames; omega) (by
      have h0 : ({ method := m, pc := pc + 6, locals := la, stack := .ref sa :: .ref T.heap.size :: .ref T.heap.size :: sv, locked := none } : JFrame).monitorRoom = 0 := rfl
      simp only [List.map_cons, List.sum_cons, hcat, h0]
      show _ + (13 * (2 + 1) + 42) ≤ R.locals
      omega) hlocks
  obtain ⟨f1, f2⟩ := mx_old hsame
  rw [hhp] at f1 f2
  have hWs : s.WarmedH U.vm := State.WarmedH.trans hW0 hW
  have hcl : s.vm.findClass (Ex.getD x "") = some ce.cls := by
    have h9 := hO.cls
    rw [hvm] at h9
    rw [hEx]
    exact h9
  have hall : s.sameButNew ({ U with vm := s.vm } : State) locs (kc + 1) (ks + 6) := by
    subst hA
    obtain ⟨e1, e2⟩ := hsame
    rw [State.setFrames_setFrames] at e1
    have h2 : (T.setVm s.vm).sameButNew ({ U with vm := s.vm } : State) [] (0 + 1) (0 + 6) := ⟨e1, e2⟩
    have h3 := X0.same.trans h2
    rw [List.append_nil] at h3
    exact h3
  refine ⟨U, ?_, hend H locs ws U T.heap.size ce h1 h2 h3 h4 hrun hended hWs hall f1 (fun q hq => f2 q hq (fun z hz => nomatch hz)) hce hO.vm hcl⟩
  refine st1 _ ?_
  show Steps p.tables e below (T1.setTop { method := m, pc := pc + 3, locals := la, stack := .ref T.heap.size :: sv, locked := none }) _
  jvm_step X₁.here [X₁.here.top, hx, d3', Value.category]
  exact X₁.ldcString hx (own := q.2.2.2.1.cls) (text := tx) (a := sa) hown2 hstr.1 hstr.2
    (g := { method := m, pc := pc + 4, locals := la, stack := .ref T.heap.size :: .ref T.heap.size :: sv, locked := none }) rfl d4' _ hsteps
end MXS
end
section
/-! contracts of methods that may throw; a call of one; its catching; calls of methods that catch -/
section MXH
variable {Qh : Handler → Pre} {Eh : CtlPost} {e : Env} {dd : Bool} {acts : List Action} {s : State} {f : JFrame} {a : Addr}
/-- a row of a method's table that covers the place, her class linked: she takes it, or she is passed -/
theorem mx_row {x : ExceptionTableEntry} {t : List ExceptionTableEntry} {k : ClassId} {cell : Cell} (hx : covers x f.pc = true) (h0 : x.catchType ≠ 0) (hl : s.vm.ClassLinks e.platform f.method.cls x.catchType k) (hcell : s.heap[a]? = some cell) (hobj : ∀ z, cell.vm ≠ .statics z)
    (hk : ∃ z, s.vm.classes[cell.cls]? = some z) (hc : ∃ z, s.vm.classes[k]? = some z) :
    wp (findHandler.go f a (x :: t)) Qh Eh e dd acts s ↔ if s.vm.assignable cell.cls k = true then Qh (.found x.handlerPc) dd acts (s.setVm (s.vm.noted f.method.cls x.catchType (.cls k))) else wp (findHandler.go f a t) Qh Eh e dd acts (s.setVm (s.vm.noted f.method.cls x.catchType (.cls k))) := by
  simp only [covers] at hx
  obtain ⟨ha, ht⟩ := (resolveClass_links e.toSetting hl).op (op := VmOp.resolveClass f.method.cls x.catchType) rfl
  have hal : s.vm.Alike (s.vm.noted f.method.cls x.catchType (.cls k)) := (Vm.Alike.refl s.vm).noted _ _ _
  obtain ⟨k1, hk1⟩ := hk
  obtain ⟨k2, hk2⟩ := hc
  obtain ⟨k3, hk3, -⟩ := hal.2.2 _ _ hk1
  obtain ⟨k4, hk4, -⟩ := hal.2.2 _ _ hk2
  have hfit : (s.vm.noted f.method.cls x.catchType (.cls k)).assignable cell.cls k = s.vm.assignable cell.cls k := hal.assignable _ _
  cases hz : s.vm.assignable cell.cls k <;> rw [hz] at hfit <;>
    simp [findHandler.go, hx, h0, ha, ht, hcell, hobj, hk3, hk4, hfit, VmOp.dirties, VmOp.acts]
/-- the table, row by row, leads to hp -/
def mx_Fi (e : Env) (s : State) (f : JFrame) (cls : ClassId) (hp : Nat) : List ExceptionTableEntry → Prop
  | [] => False
  | x :: t => (covers x f.pc = false ∧ mx_Fi e s f cls hp t) ∨ (covers x f.pc = true ∧ x.catchType ≠ 0 ∧ ∃ k, s.vm.ClassLinks e.platform f.method.cls x.catchType k ∧ ((s.vm.assignable cls k = true ∧ x.handlerPc = hp) ∨ (s.vm.assignable cls k = false ∧ mx_Fi e s f cls hp t)))
theorem mx_seek {s0 : State} {cell : Cell} {hp : Nat} (hobj : ∀ z, cell.vm ≠ .statics z) (hk0 : ∃ k, s0.vm.classes[cell.cls]? = some k) :
    ∀ (t : List ExceptionTableEntry) (S : State), s0.WarmedH S.vm → S.heap[a]? = some cell → mx_Fi e s0 f cell.cls hp t → ∃ vm2, s0.WarmedH vm2 ∧ ∀ (Q : Handler → Pre) (E : CtlPost) (d : Bool) (acts : List Action), wp (findHandler.go f a t) Q E e d acts S ↔ Q (.found hp) d acts (S.setVm vm2) := by
  obtain ⟨k0, hk0⟩ := hk0
  intro t
  induction t with
  | nil => intro S _ _ h; exact h.elim
  | cons x t ih =>
    intro S hW hcell h
    rcases h with ⟨hcov, h⟩ | ⟨hcov, h0, k, hl, h⟩
    · obtain ⟨vm2, hW2, hq⟩ := ih S hW hcell h
      exact ⟨vm2, hW2, fun Q E d acts => by rw [W.findHandler_go_skip hcov]; exact hq Q E d acts⟩
    · obtain ⟨k1, hk1, -⟩ := hW.alike.2.2 _ _ hk0
      obtain ⟨dk, _, _, kt, hd, _, _, _, _, hkt, _, hopen⟩ := hl.here
      obtain ⟨k2, hk2, -⟩ := hW.alike.2.2 _ _ hkt
      have hW3 : s0.WarmedH (S.vm.noted f.method.cls x.catchType (.cls k)) := hW.noted hd hopen (State.rightAt_cls hl)
      rcases h with ⟨hfit, rfl⟩ | ⟨hfit, h⟩
      · refine ⟨_, hW3, fun Q E d acts => ?_⟩
        rw [mx_row hcov h0 (hW.classLinks hl) hcell hobj ⟨k1, hk1⟩ ⟨k2, hk2⟩, if_pos (by rw [hW.alike.assignable]; exact hfit)]
      · obtain ⟨vm2, hW2, hq⟩ := ih (S.setVm (S.vm.noted f.method.cls x.catchType (.cls k))) hW3 hcell h
        refine ⟨vm2, hW2, fun Q E d acts => ?_⟩
        rw [mx_row hcov h0 (hW.classLinks hl) hcell hobj ⟨k1, hk1⟩ ⟨k2, hk2⟩, if_neg (by rw [hW.alike.assignable, hfit]; decide)]
        exact hq Q E d acts
theorem mx_fvf (u : State) (vm2 : Vm) (F G : List Frame) : ((u.setFrames F).setVm vm2).setFrames G = (u.setVm vm2).setFrames G := by
  have h1 : (u.setFrames F).setVm vm2 = (u.setVm vm2).setFrames F := rfl
  rw [h1, State.setFrames_setFrames]
end MXH
section MXC
variable {p : Program} {l : Launch} {e : Env} {R : Room} {s : State} {m : MethodId} {args : Array Value} {below : List Frame} {meth : Method} {c : Code} {T : State} {locs : List Loc} {cells slots : Nat}
/-- a thrown object is caught in the method itself -/
theorem mx_caught (X : Stand p l e R s m args below meth c T locs cells slots) {a : Addr} {g : JFrame} (hg : g.method = m) {cell : Cell} (hcell : T.heap[a]? = some cell) (hv : cell.vm = .none) (hk0 : ∃ k, s.vm.classes[cell.cls]? = some k) {hp : Nat} (h : mx_Fi e s g cell.cls hp c.exceptionTable.toList) :
    ∃ vm2, Stand p l e R s m args below meth c (T.setVm vm2) locs cells slots ∧ ∀ target, Steps p.tables e below ((T.setVm vm2).setTop { g with pc := hp, stack := [.ref a] }) target → Steps p.tables e below ((T.setTop g).pushFrame (.throwing a)) target := by
  subst hg
  obtain ⟨vm2, hW2, hq⟩ := mx_seek (e := e) (f := g) (a := a) (s0 := s) (cell := cell) (hp := hp) (fun z hz => by rw [hv] at hz; cases hz) hk0 c.exceptionTable.toList ((T.setTop g).pushFrame (.throwing a)) X.warmed hcell h
  refine ⟨vm2, X.noted hW2, fun target hrest => ?_⟩
  have hfind : ∀ (Q : Handler → Pre) (E : CtlPost) (d : Bool) (acts : List Action), wp (findHandler g a) Q E e d acts ((T.setTop g).pushFrame (.throwing a)) ↔ Q (.found hp) d acts (((T.setTop g).pushFrame (.throwing a)).setVm vm2) := fun Q E d acts => by
    rw [W.findHandler_eq (show ((T.setTop g).pushFrame (.throwing a)).vm.method? g.method = some meth from X.method') X.code]
    exact hq Q E d acts
  have hstep : ∀ r, (stepThrowing e ((T.setTop g).pushFrame (.throwing a)) a (.java g :: r)).Is ((((T.setTop g).pushFrame (.throwing a)).setVm vm2).setFrames (.java { g with pc := hp, stack := [.ref a] } :: r)) [] := by
    intro r
    simp only [stepThrowing, searchFrame, vmDo]
    generalize hr : Sem.go _ e false [] ((T.setTop g).pushFrame (.throwing a)) = res
    obtain ⟨as, rfl, ha⟩ := Sem.eq_ok_of hr (a := Handler.found hp) (s' := ((T.setTop g).pushFrame (.throwing a)).setVm vm2) (acts' := []) (by simp [hfind _ _ _ _])
    exact ⟨rfl, ha⟩
  obtain ⟨hgo, hw⟩ := X.here.throwing a
  refine Steps.head hgo hw ?_
  rw [stepThread_throwing (frames_entered X.here.top _), (hstep _).1]
  obtain ⟨g₀, hg⟩ := Option.isSome_iff_exists.mp X.here.top
  obtain ⟨r, hr⟩ := State.topJava?_eq_some.mp hg
  have hr2 : (T.setVm vm2).frames = .java g₀ :: r := hr
  rw [State.setTop_of_frames _ hr2] at hrest
  rw [hr, List.tail_cons, State.pushFrame, mx_fvf, State.setTop_of_frames _ hr, mx_fvf]
  exact hrest
end MXC
end
section
/-! a call that may throw, and what becomes of it; a call of a method that catches -/
section MXQ
variable (D : va_G) (K : mK) (tys : List (ClassId × FieldType)) (b base : Nat) (Ex : List String)
def mx_Qc (ws : va_W) (Q : mR → List mE → Prop) (mc ms : Nat) : Array Value → State → Outcome → State → Prop := fun a st o t =>
  (∃ L, st.WarmedH t.vm ∧ st.sameButNew ({ t with vm := st.vm } : State) L mc ms ∧ ∀ z ∈ L, base ≤ z.base) ∧
  (mm_Qc D K tys b base ws Q a st o t ∨ ∃ (x : Addr) (E : Nat) (h1 : List mE) (ws1 : va_W) (ce : Cell), o = .threw x ∧ E < Ex.length ∧ Q (.inr E) h1 ∧ mm_h ws b tys h1 ws1 ∧ mm_ext ws ws1 ∧ va_P D (mm_cls K) ws1 t.heap ∧ va_D (fun a => base ≤ a) ws1 ∧ va_F (fun a => base ≤ a) st t ∧ t.heap[x]? = some ce ∧ ce.vm = .none ∧ st.vm.findClass (Ex.getD E "") = some ce.cls)
variable (p : Program) (l : Launch) (e : Env) (R : Room) (s : State) (m : MethodId) (args : Array Value) (below : List Frame) (meth : Method) (c : Code) (w0 : va_W) (Qs : State → Prop)
/-- the machine, with an object of the class E thrown over the method's frame, comes to Qs -/
def mx_G (E : Nat) (x : mC) : Prop := ∀ (H : Heap) (locs : List Loc) (ws : va_W) (la : Array Slot) (sv : List Value) (a : Addr) (ce : Cell), mm_h w0 b tys x.2.2.2.1 ws → va_P D (mm_cls K) ws H → va_D (fun a => base ≤ a) ws → va_S (fun a => base ≤ a) s.heap H locs → mm_l b ws c.maxLocals x.2.1 la →
  H[a]? = some ce → ce.vm = .none → s.vm.findClass (Ex.getD E "") = some ce.cls → ∀ T : State, T.heap = H → Stand p l e R s m args below meth c T locs x.2.2.2.2.1 x.2.2.2.2.2 → ∃ t, Steps p.tables e below ((T.setTop (F0 m x.1 la sv)).pushFrame (.throwing a)) t ∧ Qs t
end MXQ
section MXD
variable {p : Program} {l : Launch} {e : Env} {R : Room} {s : State} {m : MethodId} {args : Array Value} {below : List Frame} {meth : Method} {c : Code} {D : va_G} {K : mK} {tys : List (ClassId × FieldType)} {b base : Nat} {w0 : va_W} {Qs : State → Prop} {sc : mS} {Tb : List Cond} {q q2 : mM} {Ex : List String}
/-- a call that returns or throws -/
theorem mx_call_ok {Z : State → Prop} (hZ : mm_Zc base Z) (X : mm_X D K tys b base sc (Tb.filter goodWord) (Tb.filter mm_isN) Z p s m args meth c q) {d : Nat} (hR : R.cells = q.1 ∧ R.slots = q.2.1 ∧ d + 2 ≤ R.frames ∧ 31 * d + 103 ≤ R.locals)
    {pc len grp x k z : Nat} {ins : Instr} {hs : List Nat} {ls : mL} {st as r : List Value} {h : List mE} {kc ks : Nat} {Q : mR → List mE → Prop}
    (hd : decode q.2.2.2.2.1 pc = .ok (ins, 3)) (hck : mm_ckC Tb K q.2.2.2.1.cls q.2.2.2.2.2.2.2.2.2 q2 ins 6 k z hs = true)
    (hcl : mm_cl (pc, ins, len, grp, 6, x, k, z, hs) (pc, ls, st, h, kc, ks) = some (as, r)) (hk : kc + q2.1 ≤ q.1 ∧ ks + q2.2.1 ≤ q.2.1)
    (hM : ∀ (ws : va_W) (av : List Value), mm_h ws b tys h ws → mm_vs b ws as av → MetFree l q2.2.2.2.1 (headSpec (mm_ws (Tb.filter goodWord) q2) (mm_rm d q2)) (mm_Pc D K tys b base sc (Tb.filter mm_isN) Z ws av) (fun _ _ _ _ _ => True) (mx_Qc D K tys b base Ex ws Q q2.1 q2.2.1))
    (g : ∀ v h1, Q (.inl v) h1 → mm_G p l e R s m args below meth c D (mm_cls K) tys (fun a => base ≤ a) w0 b Qs (pc + 3, ls, v.toList ++ r, h1, kc + q2.1, ks + q2.2.1))
    (gx : ∀ E h1, E < Ex.length → Q (.inr E) h1 → mx_G D K tys b base Ex p l e R s m args below meth c w0 Qs E (pc, ls, r, h1, kc + q2.1, ks + q2.2.1)) :
    mm_G p l e R s m args below meth c D (mm_cls K) tys (fun a => base ≤ a) w0 b Qs (pc, ls, st, h, kc, ks) := by
  intro H locs ws la sv h1 h2 h3 h4 h5 h6
  obtain ⟨hx, hb, hml, hown, hlocks, hret, hname, hext, hts, E⟩ := X
  have hKs := E.1
  obtain ⟨ea, er, hlen, hc1, hrc, hsum⟩ := mm_cl_ok hcl
  dsimp only at ea er hlen hrc
  obtain ⟨h7, h8⟩ := mm_vs_take k h6
  have h9 := mm_vs_rev h7
  rw [← ea] at h9
  have h8r : mm_vs b ws r (sv.drop k) := by rw [er]; exact h8
  have hsv : sv = ((sv.take k).reverse).reverse ++ sv.drop k := by rw [List.reverse_reverse, List.take_append_drop]
  generalize hav : (sv.take k).reverse = av at h9 hsv
  generalize hre : sv.drop k = rest at h8r hsv
  have hrw : 2 * (F0 m pc la rest).monitorRoom + ((F0 m pc la rest).stack.map fun v => v.category).sum ≤ 8 := lv_room (by rw [show (rest.map fun v => v.category).sum = (rest.map Value.category).sum from rfl, mm_sum h8r]; exact hsum)
  have hmet := hM ws av (h1.re mm_ext.rf) h9
  have hNs : (Tb.filter mm_isN).all mm_isN = true := List.all_eq_true.mpr (fun w hw => (List.mem_filter.mp hw).2)
  have hgd : (Tb.filter goodWord).all goodWord = true := List.all_eq_true.mpr (fun w hw => (List.mem_filter.mp hw).2)
  have hbl : FrameBlind (mm_Pc D K tys b base sc (Tb.filter mm_isN) Z ws av) := mm_blind hZ hNs
  have hpre := mm_pre (av := av) hZ hNs E h2 h3 h4
  have hlav : av.length = as.length := mm_vs_len h9
  have hlas : as.length = k := by rw [ea, List.length_reverse, List.length_take]; omega
  unfold mm_ckC at hck
  simp only [Bool.and_eq_true] at hck
  obtain ⟨⟨hcw, hml2⟩, hck⟩ := hck
  have hml2 := Nat.le_of_ble_eq_true hml2
  have hcw := mm_hw_ok hcw
  have hgood : GoodIn (Tb.filter goodWord) (mm_ws (Tb.filter goodWord) q2) := mm_good hgd hcw
  obtain ⟨i, fs, as1, rfl, hi⟩ : ∃ (i : Nat) (fs : List Value) (as1 : List Value), as = .ref i :: as1 ∧ h[i]? = some (.inr (z, fs)) := by
    unfold mm_recv at hrc
    split at hrc
    · exact absurd ‹(6 : Nat) = 4› (by decide)
    · exact absurd ‹(6 : Nat) = 5› (by decide)
    · exact absurd ‹(6 : Nat) = 7› (by decide)
    · split at hrc
      · split at hrc
        · rename_i hi
          have e9 := eq_of_beq hrc
          subst e9
          exact ⟨_, _, _, rfl, hi⟩
        · cases hrc
      · cases hrc
  split at hck
  all_goals first | (exact absurd ‹(6 : Nat) = 0› (by decide)) | (exact absurd ‹(6 : Nat) = 1› (by decide)) | (exact absurd ‹(6 : Nat) = 2› (by decide)) | (exact absurd ‹(6 : Nat) = 3› (by decide)) | (exact absurd ‹(6 : Nat) = 4› (by decide)) | (exact absurd ‹(6 : Nat) = 5› (by decide)) | (exact absurd ‹(6 : Nat) = 7› (by decide)) | (cases hck; done) | skip
  · rename_i i0 _
    simp only [Bool.and_eq_true] at hck
    obtain ⟨e1, e2, e3, e4, e5, e6, e7, e8⟩ := hck
    obtain ⟨-, hpl⟩ := mm_plain_ok e1
    obtain ⟨w0, av1, rfl, hw, h9⟩ := h9
    obtain ⟨a0, e0, ha0, rfl⟩ := hw
    obtain ⟨gs, rfl, hgs⟩ := mm_cell h1 hi ha0
    have hcwe : mm_cw q2 = Cond.code q2.2.2.2.1 q2.2.2.2.2.1 q2.2.2.2.2.2.1 q2.2.2.2.2.2.2.1 := by
      unfold mm_cw
      rw [eq_of_beq e7]
    rw [hcwe] at hcw
    obtain ⟨r0, hr0, hr1⟩ : ∃ r0 : vw_C, (mm_cls K)[z]? = some r0 ∧ r0.1 = q2.2.2.2.1.cls := by
      have e9 := eq_of_beq e6
      cases hz : K[z]? with
      | none => rw [hz] at e9; cases e9
      | some r0 =>
        rw [hz] at e9
        exact ⟨(r0.1, r0.2.1, r0.2.2.1), by simp [mm_cls, hz], Option.some.inj e9⟩
    obtain ⟨cellB, hcB, hoB, hclB⟩ := va_recv hKs h2 hr0 ha0
    rw [hr1] at hclB
    intro T hT X0
    have hcode := hts _ hcw
    have hinst := hts _ (mm_hw_ok e3)
    obtain ⟨mk, methM, hnamed, hmethM, hstM, habM⟩ := Cond.instanceMethod_spec hinst
    obtain ⟨methM2, cM, hmethM2, hcM, -, hlM, -, -, -, hsigM⟩ := Cond.code_spec hnamed hcode
    cases hmethM.symm.trans hmethM2
    obtain ⟨c2, r2, m2, q1, q2x, q3, q4, kP, hkP, hkPi⟩ := Cond.selects_spec (hts _ (mm_hw_ok e5))
    cases hclB.symm.trans q1
    cases (State.methodFound?_of_named hnamed ⟨hpl.1, hpl.2.1⟩).symm.trans q2x
    cases hnamed.symm.trans q3
    have hselP : selectMethod e.platform s.vm cellB.cls mk = .method mk := by rw [Launch.admits_selectMethod X0.admits]; exact q4
    have hlen9 : av1.length = methM.sig.parameters.length := by
      have h9 := hpl.2.2
      rw [hsigM] at h9
      have h8 : methM.sig.parameters.length = k - 1 := Option.some.inj h9
      simp at hlav hlas
      omega
    obtain ⟨vm₁, X₁, hstep₁⟩ := X0.invokevirtual hx hown (hts _ (mm_hw_ok e2)) hnamed hmethM hstM hkP hkPi ⟨hpl.1, hpl.2.1⟩ (a := a0) (cell := cellB) (by rw [hT]; exact hcB)
      (fun z h => by rw [h] at hoB; cases hoB) hselP hmethM habM hkP hkPi (g := F0 m pc la sv) rfl (argsL := av1) (rest := rest) hlen9 (by rw [List.reverse_cons, List.append_assoc] at hsv; exact hsv) (by rw [hb]; exact hd)
    have hd2 : decode c.code (F0 m pc la rest).pc = .ok (.invokevirtual i0, 3) := by rw [hb]; exact hd
    have hpre1 : ∀ w ∈ mm_ws (Tb.filter goodWord) q2, w.before (Value.ref a0 :: av1).toArray (T.setVm vm₁) = true := fun w hw => word_at X₁.warmed (hgood w hw).2 (hts w (hgood w hw).1)
    have hk9 : (T.setVm vm₁).methodNamed? q2.2.2.2.1 = some mk := X₁.named hnamed
    obtain ⟨methY, cY, hmY, hcY, -, hlY, -, -, -, -⟩ := Cond.code_spec hk9 (hpre1 _ (by unfold mm_ws; rw [hcwe]; exact List.mem_cons_self))
    obtain ⟨kY, hkY, -⟩ := className_of_methodNamed hk9
    have hiniY : kY.init = .initialized := Cond.initialized_spec (findClass_of_methodNamed hk9) hkY (word_at (a' := (Value.ref a0 :: av1).toArray) X₁.warmed (good_of_word (List.mem_filter.mp (mm_hw_ok e4)).2) (hts _ (mm_hw_ok e4)))
    have happ : (headSpec (mm_ws (Tb.filter goodWord) q2) (mm_rm d q2)).appliesLoose q2.2.2.2.1 e.platform ((T.setVm vm₁).calling (F0 m pc la rest) mk (Value.ref a0 :: av1).toArray) = true :=
      Spec.appliesLoose_calling (g := F0 m pc la rest) X₁.here hd2 hk9 hkY hiniY
        (X₁.room_calling (g := F0 m pc la rest) (R' := (headSpec (mm_ws (Tb.filter goodWord) q2) (mm_rm d q2)).room) (mm_size h5) hmY hcY hR.2.2.1 (by rw [hlY]; show _ + (q2.2.2.2.2.2.1 + 11) + (31 * d + 72) ≤ R.locals; omega) (by rw [hR.1]; exact hk.1) (by rw [hR.2.1]; exact hk.2)) (atoms_intro hpre1)
    obtain ⟨mid, hmid⟩ := X₁.here.above
    have hfr : ((T.setVm vm₁).setTop (F0 m pc la rest)).frames = (.java (F0 m pc la rest) :: mid) ++ below := by rw [State.frames_setTop' _ X₁.here.top, hmid]; rfl
    obtain ⟨o, s₂, hsteps, -, hend, hq⟩ := Steps.callFree hmet p X₁.admits X₁.cas X₁.clock (acts := []) hfr happ (hbl _ _ (F0 m pc la rest) mk (hpre (T.setVm vm₁) hT X₁.warmed)) trivial
    rw [State.frames_setTop' _ X₁.here.top, X₁.tail] at hend
    obtain ⟨⟨L, hWq, hsm, hL⟩, hq⟩ := hq
    have hst₀ : ((T.setVm vm₁).calling (F0 m pc la rest) mk (Value.ref a0 :: av1).toArray).heap = H := hT
    rcases hq with ⟨v, w, h10, ws1, rfl, hq, hv, hh, hex, hP, hD, hF⟩ | ⟨xa, Ee, h10, ws1, ce, rfl, hEl, hq, hh, hex, hP, hD, hF, hce, hcv, hcl9⟩
    · obtain ⟨T2, X2, hW2, hsm2, ht⟩ := X₁.outOf (g := F0 m pc la rest) rfl hd2 hend hWq hsm
      obtain ⟨f1, f2⟩ := hF
      rw [show (State.pushFrame ((T.setVm vm₁).setTop (F0 m pc la rest)) (.invoking mk (Value.ref a0 :: av1).toArray)).heap = H from hT] at f1 f2
      have hhe : T2.heap = s₂.heap := by rw [ht]; rfl
      have hS2 : va_S (fun a => base ≤ a) s.heap s₂.heap (locs ++ L) := ⟨Nat.le_trans h4.1 f1, fun q h1 h2 => by rw [f2 q (Nat.lt_of_lt_of_le h1 h4.1) h2]; exact h4.2.1 q h1 h2, fun q hq => by
        rcases List.mem_append.mp hq with h | h
        · exact h4.2.2 q h
        · exact hL q h⟩
      obtain ⟨t2, a1, b1⟩ := g v h10 hq s₂.heap (locs ++ L) ws1 la (w.toList ++ rest) (hh.re (h1.2.1.tr hex)) hP hD hS2 (h5.ext hex) (mm_vs_app hv (h8r.ext hex)) T2 hhe X2
      refine ⟨t2, hstep₁ _ fun acts => ?_, b1⟩
      rw [doInvoke_state]
      refine Steps.trans hsteps ?_
      rw [ht]
      exact a1
    · obtain ⟨T2, X2, hW2, hsm2, ht⟩ := X₁.outOfThrown (g := F0 m pc la rest) rfl hend hWq hsm
      obtain ⟨f1, f2⟩ := hF
      rw [show (State.pushFrame ((T.setVm vm₁).setTop (F0 m pc la rest)) (.invoking mk (Value.ref a0 :: av1).toArray)).heap = H from hT] at f1 f2
      have hhe : T2.heap = s₂.heap := by rw [ht]; rfl
      have hS2 : va_S (fun a => base ≤ a) s.heap s₂.heap (locs ++ L) := ⟨Nat.le_trans h4.1 f1, fun q h1 h2 => by rw [f2 q (Nat.lt_of_lt_of_le h1 h4.1) h2]; exact h4.2.1 q h1 h2, fun q hq => by
        rcases List.mem_append.mp hq with h | h
        · exact h4.2.2 q h
        · exact hL q h⟩
      have hcl8 : s.vm.findClass (Ex.getD Ee "") = some ce.cls := by
        have h1 : vm₁.findClass (Ex.getD Ee "") = some ce.cls := hcl9
        have h2 := X₁.warmed.alike.findClass (Ex.getD Ee "")
        rw [← h2]
        exact h1
      obtain ⟨t2, a1, b1⟩ := gx Ee h10 hEl hq s₂.heap (locs ++ L) ws1 la rest xa ce (hh.re (h1.2.1.tr hex)) hP hD hS2 (h5.ext hex) hce hcv hcl8 T2 hhe X2
      refine ⟨t2, hstep₁ _ fun acts => ?_, b1⟩
      rw [doInvoke_state]
      refine Steps.trans hsteps ?_
      rw [ht]
      exact a1
end MXD
end
section
/-! how a method ends; caught throws; a call of a method that catches; a method's contract out of its walk -/
theorem mm_cw_spec {q : mM} {m : MethodId} {args : Array Value} {s : State} (hn : s.methodNamed? q.2.2.2.1 = some m) (h : (mm_cw q).before args s = true) :
    ∃ meth c, s.vm.method? m = some meth ∧ meth.code = some c ∧ c.code = q.2.2.2.2.1 ∧ c.maxLocals = q.2.2.2.2.2.1 ∧ meth.sig.returnType = q.2.2.2.2.2.2.1 ∧ meth.locks = false ∧
      c.exceptionTable.toList.map (fun h => (h.startPc, h.endPc, h.handlerPc, h.catchType)) = q.2.2.2.2.2.2.2.1 ∧ parseMethodDescriptor q.2.2.2.1.desc = some meth.sig := by
  unfold mm_cw at h
  split at h
  · rename_i hh
    obtain ⟨meth, c, h1, h2, h3, h4, h5, h6, h7, h8⟩ := Cond.code_spec hn h
    refine ⟨meth, c, h1, h2, h3, h4, h5, h6, ?_, h8⟩
    rw [hh]
    have h9 : c.exceptionTable = #[] := Array.isEmpty_iff.mp h7
    rw [h9]
    rfl
  · obtain ⟨m9, meth, c, hn9, h1, h2, h3, h4, h5, h6, h7, h8⟩ := Cond.codeWith_spec h
    cases hn.symm.trans hn9
    exact ⟨meth, c, h1, h2, h3, h4, h6, h7, h5, h8⟩
/-- what the handlers of a method owe -/
def mx_ckH (Tb : List Cond) (Ex : List String) (q : mM) : Bool :=
  ((q.2.2.2.2.2.2.2.1.map (fun h => h.2.2.2)).zip q.2.2.2.2.2.2.2.2.1).all (fun z => decide (z.1 ≠ 0) && (decide (z.2 < Ex.length) && decide (Cond.classLink q.2.2.2.1.cls z.1 (Ex.getD z.2 "") ∈ Tb.filter goodWord)))
section MXE
variable {p : Program} {l : Launch} {e : Env} {R : Room} {s : State} {m : MethodId} {args : Array Value} {below : List Frame} {meth : Method} {c : Code} {D : va_G} {K : mK} {tys : List (ClassId × FieldType)} {b base : Nat} {w0 : va_W} {Qs : State → Prop} {sc : mS} {Tb : List Cond} {q q2 : mM} {Ex : List String} {Sx : List (String × Nat × String)}
theorem mx_fi {g : JFrame} {cls : ClassId} {hp E pc : Nat} (hpc : g.pc = pc) (hg : g.method = m) : ∀ (t : List ExceptionTableEntry) (ks : List Nat), mm_hd pc E (t.map (fun h => (h.startPc, h.endPc, h.handlerPc, h.catchType))) ks = some hp →
    (∀ z ∈ (t.map (fun h => h.catchType)).zip ks, z.1 ≠ 0 ∧ ∃ k, s.vm.ClassLinks e.platform m.cls z.1 k ∧ s.vm.assignable cls k = decide (z.2 = E)) → mx_Fi e s g cls hp t := by
  intro t
  induction t with
  | nil => intro ks h; cases ks <;> cases h
  | cons x t ih =>
    intro ks h hf
    cases ks with
    | nil => cases h
    | cons k ks =>
      obtain ⟨h0, kk, hl, ha⟩ := hf (x.catchType, k) (by simp)
      have ih2 := fun h => ih ks h (fun z hz => hf z (by
        rw [List.map_cons, List.zip_cons_cons]
        exact List.mem_cons_of_mem _ hz))
      rw [List.map_cons] at h
      unfold mm_hd at h
      by_cases hcov : covers x g.pc = true
      · refine Or.inr ⟨hcov, h0, kk, by rw [hg]; exact hl, ?_⟩
        simp only [covers, Bool.and_eq_true, decide_eq_true_eq, hpc] at hcov
        split at h
        · rename_i hc
          simp only [Bool.and_eq_true] at hc
          have hk : k = E := eq_of_beq hc.2.2
          cases h
          exact Or.inl ⟨by rw [ha]; exact decide_eq_true hk, rfl⟩
        · rename_i hc
          refine Or.inr ⟨?_, ih2 h⟩
          rw [ha]
          refine decide_eq_false (fun hk => hc ?_)
          have hk : k = E := hk
          subst hk
          simp only [Bool.and_eq_true, decide_eq_true_eq, beq_self_eq_true, and_true]
          exact ⟨hcov.1, by rw [Nat.blt_eq]; exact hcov.2⟩
      · refine Or.inl ⟨by simpa using hcov, ih2 ?_⟩
        split at h
        · rename_i hc
          exfalso
          apply hcov
          simp only [Bool.and_eq_true, decide_eq_true_eq] at hc
          simp only [covers, Bool.and_eq_true, decide_eq_true_eq, hpc]
          exact ⟨hc.1, by rw [← Nat.blt_eq]; exact hc.2.1⟩
        · exact h
/-- caught in the method itself -/
theorem mx_catch_ok (X : mm_X D K tys b base sc (Tb.filter goodWord) (Tb.filter mm_isN) (mx_Z base (Tb.filter mx_isC) Ex Sx) p s m args meth c q) (hH : mx_ckH Tb Ex q = true) (hcast : ∀ i, i < Ex.length → Cond.castable (Ex.getD i "") (Ex.getD i "") ∈ Tb.filter mx_isC)
    {pc E hp pc2 i : Nat} {ins : Instr} {ls : mL} {r : List Value} {h : List mE} {kc ks : Nat} (hE : E < Ex.length) (hhd : mm_hd pc E q.2.2.2.2.2.2.2.1 q.2.2.2.2.2.2.2.2.1 = some hp) (hd : decode q.2.2.2.2.1 hp = .ok (ins, mm_len ins)) (hi : i < q.2.2.2.2.2.1)
    (hins : (∃ k : Fin 4, ins = .astore_n k ∧ i = k.val ∧ pc2 = hp + 1) ∨ (ins = .astore i ∧ pc2 = hp + 2))
    (g : mm_G p l e R s m args below meth c D (mm_cls K) tys (fun a => base ≤ a) w0 b Qs (pc2, ls.set i none, [], h, kc, ks)) : mx_G D K tys b base Ex p l e R s m args below meth c w0 Qs E (pc, ls, r, h, kc, ks) := by
  intro H locs ws la sv a ce h1 h2 h3 h4 h5 hce hcv hcl T hT X0
  obtain ⟨hx, hb, hml, hown, hlocks, hret, hname, hext, hts, hK, hXs, hN, hbase, hbb, htys, hZ⟩ := X
  have hpl : e.platform.magicAccessors = ({} : Platform).magicAccessors := by rw [X0.admits.platform]
  have hfi : mx_Fi e s (F0 m pc la sv) ce.cls hp c.exceptionTable.toList := by
    refine mx_fi (E := E) (pc := pc) rfl rfl c.exceptionTable.toList q.2.2.2.2.2.2.2.2.1 (by rw [hext]; exact hhd) (fun z hz => ?_)
    have hz2 : z ∈ (q.2.2.2.2.2.2.2.1.map (fun h => h.2.2.2)).zip q.2.2.2.2.2.2.2.2.1 := by
      rw [← hext, List.map_map]
      exact hz
    have h9 := List.all_eq_true.mp hH z hz2
    simp only [Bool.and_eq_true, decide_eq_true_eq] at h9
    obtain ⟨h0, hlt, hw⟩ := h9
    obtain ⟨k, hk, hlk⟩ := Cond.classLink_spec hown (hts _ hw) e.platform hpl
    refine ⟨h0, k, hlk, ?_⟩
    by_cases hzE : z.2 = E
    · obtain ⟨c3, c4, hc3, hc4, hasg⟩ := Cond.castable_spec (va_Nw.use (A := args) rfl (hZ.2.2.2.2 _ (hcast E hE)))
      rw [decide_eq_true hzE]
      rw [hzE] at hk
      cases hc3.symm.trans hcl
      cases hc4.symm.trans hk
      exact hasg
    · obtain ⟨c3, c4, hc3, hc4, hasg⟩ := hZ.1 E z.2 hE hlt (fun z => hzE z.symm)
      rw [decide_eq_false hzE]
      cases hc3.symm.trans hcl
      cases hc4.symm.trans hk
      exact hasg
  obtain ⟨vm2, X2, st⟩ := mx_caught X0 (g := F0 m pc la sv) rfl (by rw [hT]; exact hce) hcv (by obtain ⟨k9, h9, -⟩ := Vm.findClass_spec hcl; exact ⟨k9, h9⟩) hfi
  have hW : W p l e R s m args below meth c H locs kc ks Qs (F0 m hp la [.ref a]) := by
    obtain ⟨h50, lv, h51, h52⟩ := h5
    rcases hins with ⟨k, rfl, rfl, rfl⟩ | ⟨rfl, rfl⟩
    · exact lv_astore_n hx hb hd rfl h51 (by omega) rfl (fun la2 hl2 => g H locs ws la2 [] h1 h2 h3 h4 (mm_l.drop h50 h52 hl2) rfl)
    · exact lv_astore hx hb hd h51 (by omega) rfl (fun la2 hl2 => g H locs ws la2 [] h1 h2 h3 h4 (mm_l.drop h50 h52 hl2) rfl)
  obtain ⟨t, a1, b1⟩ := hW (T.setVm vm2) hT X2
  exact ⟨t, st t a1, b1⟩
/-- not caught: it leaves the method -/
theorem mx_out_ok (X : mm_X D K tys b base sc (Tb.filter goodWord) (Tb.filter mm_isN) (mx_Z base (Tb.filter mx_isC) Ex Sx) p s m args meth c q) {pc E : Nat} {ls : mL} {r : List Value} {h : List mE} {kc ks : Nat} (hno : q.2.2.2.2.2.2.2.1 = [])
    (hend : ∀ (H : Heap) (locs : List Loc) (ws : va_W) (U : State) (a : Addr) (ce : Cell), mm_h w0 b tys h ws → va_P D (mm_cls K) ws H → va_D (fun a => base ≤ a) ws → va_S (fun a => base ≤ a) s.heap H locs → U.status = .running → Ended U below (.threw a) → s.WarmedH U.vm → s.sameButNew ({ U with vm := s.vm } : State) locs kc ks →
      H.size ≤ U.heap.size → (∀ q : Nat, q < H.size → U.heap[q]? = H[q]?) → U.heap[a]? = some ce → ce.vm = .none → s.vm.findClass (Ex.getD E "") = some ce.cls → Qs U) :
    mx_G D K tys b base Ex p l e R s m args below meth c w0 Qs E (pc, ls, r, h, kc, ks) := by
  intro H locs ws la sv a ce h1 h2 h3 h4 h5 hce hcv hcl T hT X0
  obtain ⟨hx, hb, hml, hown, hlocks, hret, hname, hext, hts, E2⟩ := X
  have hout : ∀ x ∈ c.exceptionTable.toList, covers x pc = false := by
    rw [hno] at hext
    have h9 : c.exceptionTable.toList = [] := List.map_eq_nil_iff.mp hext
    rw [h9]
    exact fun x hx => nomatch hx
  obtain ⟨st1, hrun, hended, hW, hsm⟩ := X0.leaveThrown a (g := F0 m pc la sv) rfl rfl rfl hout hlocks
  refine ⟨_, st1, hend H locs ws _ a ce h1 h2 h3 h4 hrun hended hW hsm (by show H.size ≤ T.heap.size; rw [hT]; exact Nat.le_refl _) (fun q _ => by show T.heap[q]? = H[q]?; rw [hT]) (by show T.heap[a]? = some ce; rw [hT]; exact hce) hcv hcl⟩
/-- a call of a method that catches -/
theorem mm_callW_ok {Z : State → Prop} (hZ : mm_Zc base Z) (X : mm_X D K tys b base sc (Tb.filter goodWord) (Tb.filter mm_isN) Z p s m args meth c q) {d : Nat} (hR : R.cells = q.1 ∧ R.slots = q.2.1 ∧ d + 2 ≤ R.frames ∧ 31 * d + 103 ≤ R.locals)
    {pc len grp x k z : Nat} {ins : Instr} {hs : List Nat} {ls : mL} {st as r : List Value} {h : List mE} {kc ks : Nat} {Q : mR → List mE → Prop}
    (hd : decode q.2.2.2.2.1 pc = .ok (ins, 3)) (hck : mm_ckC Tb K q.2.2.2.1.cls q.2.2.2.2.2.2.2.2.2 q2 ins 7 k z hs = true)
    (hcl : mm_cl (pc, ins, len, grp, 7, x, k, z, hs) (pc, ls, st, h, kc, ks) = some (as, r)) (hk : kc + q2.1 ≤ q.1 ∧ ks + q2.2.1 ≤ q.2.1)
    (hM : ∀ (ws : va_W) (av : List Value), mm_h ws b tys h ws → mm_vs b ws as av → Met l q2.2.2.2.1 (mm_ws (Tb.filter goodWord) q2) (mm_rm d q2) (mm_Pc D K tys b base sc (Tb.filter mm_isN) Z ws av) (mm_Qc D K tys b base ws Q) q2.1 q2.2.1 (fun a => base ≤ a))
    (g : ∀ v h1, Q (.inl v) h1 → mm_G p l e R s m args below meth c D (mm_cls K) tys (fun a => base ≤ a) w0 b Qs (pc + 3, ls, v.toList ++ r, h1, kc + q2.1, ks + q2.2.1)) :
    mm_G p l e R s m args below meth c D (mm_cls K) tys (fun a => base ≤ a) w0 b Qs (pc, ls, st, h, kc, ks) := by
  intro H locs ws la sv h1 h2 h3 h4 h5 h6
  obtain ⟨hx, hb, hml, hown, hlocks, hret, hname, hext, hts, E⟩ := X
  obtain ⟨ea, er, hlen, hc1, hrc, hsum⟩ := mm_cl_ok hcl
  dsimp only at ea er hlen hrc
  obtain ⟨h7, h8⟩ := mm_vs_take k h6
  have h9 := mm_vs_rev h7
  rw [← ea] at h9
  have h8r : mm_vs b ws r (sv.drop k) := by rw [er]; exact h8
  have hsv : sv = ((sv.take k).reverse).reverse ++ sv.drop k := by rw [List.reverse_reverse, List.take_append_drop]
  generalize hav : (sv.take k).reverse = av at h9 hsv
  generalize hre : sv.drop k = rest at h8r hsv
  have hrw : 2 * (F0 m pc la rest).monitorRoom + ((F0 m pc la rest).stack.map fun v => v.category).sum ≤ 8 := lv_room (by rw [show (rest.map fun v => v.category).sum = (rest.map Value.category).sum from rfl, mm_sum h8r]; exact hsum)
  have hmet := hM ws av (h1.re mm_ext.rf) h9
  have hNs : (Tb.filter mm_isN).all mm_isN = true := List.all_eq_true.mpr (fun w hw => (List.mem_filter.mp hw).2)
  have hgd : (Tb.filter goodWord).all goodWord = true := List.all_eq_true.mpr (fun w hw => (List.mem_filter.mp hw).2)
  have hbl : FrameBlind (mm_Pc D K tys b base sc (Tb.filter mm_isN) Z ws av) := mm_blind hZ hNs
  have hpre := mm_pre (av := av) hZ hNs E h2 h3 h4
  have hlav : av.length = as.length := mm_vs_len h9
  have hlas : as.length = k := by rw [ea, List.length_reverse, List.length_take]; omega
  unfold mm_ckC at hck
  simp only [Bool.and_eq_true] at hck
  obtain ⟨⟨hcw, hml2⟩, hck⟩ := hck
  have hml2 := Nat.le_of_ble_eq_true hml2
  have hcw := mm_hw_ok hcw
  have hgood : GoodIn (Tb.filter goodWord) (mm_ws (Tb.filter goodWord) q2) := mm_good hgd hcw
  split at hck
  all_goals first | (exact absurd ‹(7 : Nat) = 0› (by decide)) | (exact absurd ‹(7 : Nat) = 1› (by decide)) | (exact absurd ‹(7 : Nat) = 2› (by decide)) | (exact absurd ‹(7 : Nat) = 3› (by decide)) | (exact absurd ‹(7 : Nat) = 4› (by decide)) | (exact absurd ‹(7 : Nat) = 5› (by decide)) | (exact absurd ‹(7 : Nat) = 6› (by decide)) | (cases hck; done) | skip
  · rename_i i0 _
    simp only [Bool.and_eq_true] at hck
    obtain ⟨e1, e2, e3, e4⟩ := hck
    obtain ⟨-, hpl⟩ := mm_plain_ok e1
    have hini := hts _ (mm_hw_ok e4)
    have hstat := hts _ (mm_hw_ok e3)
    have hws : ∀ w ∈ mm_ws (Tb.filter goodWord) q2, ∀ (a' : Array Value) (U : State), s.WarmedH U.vm → w.before a' U = true := fun w hw a' U hW => word_at hW (hgood w hw).2 (hts w (hgood w hw).1)
    have hiniW : ∀ (a' : Array Value) (U : State), s.WarmedH U.vm → (Cond.initialized q2.2.2.2.1.cls).before a' U = true := fun a' U hW => word_at hW (good_of_word (List.mem_filter.mp (mm_hw_ok e4)).2) hini
    have hK : Back l R p e below s args q2.2.2.2.1 3 8 (PreOf R q2.1 q2.2.1 (mm_Pc D K tys b base sc (Tb.filter mm_isN) Z ws av)) (PostOf (mm_Qc D K tys b base ws Q) q2.1 q2.2.1 (fun a => base ≤ a)) := by
      cases hhh : q2.2.2.2.2.2.2.2.1 with
      | nil => exact back_of (bytes := q2.2.2.2.2.1) (maxL := q2.2.2.2.2.2.1) (ret := q2.2.2.2.2.2.2.1) hmet hbl rfl rfl hR.2.2.1 (by show 8 + (q2.2.2.2.2.2.1 + 11) + (31 * d + 72) ≤ R.locals; omega) hws (by unfold mm_ws mm_cw; rw [hhh]; exact List.mem_cons_self) hiniW
      | cons hh0 hh1 => exact va_backW (hh := hh0 :: hh1) (bytes := q2.2.2.2.2.1) (maxL := q2.2.2.2.2.2.1) (ret := q2.2.2.2.2.2.2.1) hmet hbl rfl rfl hR.2.2.1 (by show 8 + (q2.2.2.2.2.2.1 + 11) + (31 * d + 72) ≤ R.locals; omega) hws (by unfold mm_ws mm_cw; rw [hhh]; exact List.mem_cons_self) hiniW
    refine mm_back (mc := q2.1) (ms := q2.2.1) (rest := rest) (a := av.toArray) ?_ h4 h5 h8r h1.2.1 g
    intro T hT X0
    obtain ⟨mk, hnamed⟩ : ∃ mk, s.methodNamed? q2.2.2.2.1 = some mk := by
      have hc9 := hts _ hcw
      unfold mm_cw at hc9
      split at hc9
      · exact Cond.code_named hc9
      · obtain ⟨m9, -, -, hn9, -⟩ := Cond.codeWith_spec hc9
        exact ⟨m9, hn9⟩
    obtain ⟨methM, cM, hmethM, -, -, -, -, -, -, hsigM⟩ := mm_cw_spec hnamed (hts _ hcw)
    have hstatic : methM.isStatic = true := Cond.static_spec hnamed hmethM hstat
    obtain ⟨kP, hkP, -⟩ := className_of_methodNamed hnamed
    have hinitP : kP.init = .initialized := Cond.initialized_spec (findClass_of_methodNamed hnamed) hkP hini
    have hlen9 : av.length = methM.sig.parameters.length := by
      have h9 := hpl.2.2
      rw [hsigM] at h9
      have h8 : methM.sig.parameters.length = k := Option.some.inj h9
      omega
    obtain ⟨vm₁, X₁, hstep₁⟩ := X0.invokestatic hx hown (hts _ (mm_hw_ok e2)) hnamed hmethM hstatic hkP hinitP ⟨hpl.1, hpl.2.1⟩ (g := F0 m pc la sv) rfl (argsL := av) (rest := rest) hlen9 hsv (by rw [hb]; exact hd)
    obtain ⟨v, B, X', ⟨g', mk', t, L, e1, e2, hq, e3, hL, e4, e5⟩, hsteps⟩ := hK m meth c ⟨T.setVm vm₁, locs, kc, ks⟩ (F0 m pc la rest) (.invokestatic i0) mk av.toArray X₁ rfl (mm_size h5) (by rw [hb]; exact hd) hrw (X₁.named hnamed) ⟨by rw [hR.1]; exact hk.1, by rw [hR.2.1]; exact hk.2, hpre (T.setVm vm₁) hT X₁.warmed⟩
    obtain ⟨U2, l2, c2, s2⟩ := B
    dsimp only [Pt.U, Pt.locs, Pt.cells, Pt.slots] at X' e1 e2 hq e3 e4 e5 hsteps
    subst e3
    subst e4
    subst e5
    exact ⟨v, (T.setVm vm₁).calling g' mk' av.toArray, t, U2, L, hT, X', hL, e1, e2, hq, fun target ht => hstep₁ _ fun acts => by rw [doInvoke_state]; exact hsteps.trans ht⟩
end MXE
end
section
/-! the small machine told whole: what it proves of a method, the machine does -/
def mm_ckB (Tb : List Cond) (Ex : List String) (Sx : List (String × Nat × String)) (K : mK) (P : List mM) (q : mM) (b : mB) : Bool := match b with
  | (pc, ins, len, grp, kd, x, y, z, hs) => decide (decode q.2.2.2.2.1 pc = .ok (ins, len)) && (match grp with
    | 0 => (kd == 17 || len == mm_len ins) && mm_ckP Tb K q.2.2.2.1 q.2.2.2.2.2.2.2.2.2 pc ins kd x y z hs
    | 1 => (match ins with
      | .ifCond _ off => len == 3 && decide ((pc : Int) + off = (x : Int))
      | .if_icmp _ off => len == 3 && decide ((pc : Int) + off = (x : Int))
      | _ => false)
    | 2 => len == 3 && (match P[x]? with
      | some q2 => mm_ckC Tb K q.2.2.2.1.cls q.2.2.2.2.2.2.2.2.2 q2 ins kd y z hs
      | none => false)
    | 3 => len == 1
    | 4 => mx_ckT Tb Ex Sx q.2.2.2.2.1 q.2.2.2.1.cls pc ins x y z hs && decide (x < Ex.length)
    | _ => false)
def mm_ckM (Tb : List Cond) (Ex : List String) (Sx : List (String × Nat × String)) (K : mK) (P : List mM) (q : mM) : Bool :=
  q.2.2.1.all (mm_ckB Tb Ex Sx K P q) && (mx_ckH Tb Ex q && (plainName q.2.2.2.1.cls && q.2.2.2.2.2.2.2.1.all (fun h => match q.2.2.1.find? (fun b => b.1 == h.2.2.1) with
    | some b => b.2.2.2.1 == 0 && (b.2.2.2.2.1 == 2 && (match mm_hs b with
      | some (_, i) => decide (i < q.2.2.2.2.2.1)
      | none => false))
    | none => false)))
theorem mm_hd_mem {pc E hp : Nat} : ∀ {hs : List (Nat × Nat × Nat × Nat)} {ks : List Nat}, mm_hd pc E hs ks = some hp → ∃ h ∈ hs, h.2.2.1 = hp
  | [], _, h => by cases h
  | _ :: _, [], h => by cases h
  | x :: hs, k :: ks, h => by
    obtain ⟨s0, s1, h0, ct⟩ := x
    unfold mm_hd at h
    split at h
    · cases h
      exact ⟨_, List.mem_cons_self, rfl⟩
    · obtain ⟨z, hz, he⟩ := mm_hd_mem h
      exact ⟨z, List.mem_cons_of_mem _ hz, he⟩
theorem mm_W_mono {p : Program} {l : Launch} {e : Env} {R : Room} {s : State} {m : MethodId} {args : Array Value} {below : List Frame} {meth : Method} {c : Code} {H : Heap} {locs : List Loc} {cells slots : Nat} {Q Q2 : State → Prop} {g : JFrame} (h : ∀ t, Q t → Q2 t) (k : W p l e R s m args below meth c H locs cells slots Q g) : W p l e R s m args below meth c H locs cells slots Q2 g := by
  intro T hT X
  obtain ⟨t, a1, b1⟩ := k T hT X
  exact ⟨t, a1, h t b1⟩
section MMZ
variable (l : Launch) (D : va_G) (K : mK) (tys : List (ClassId × FieldType)) (b base : Nat) (sc : mS) (Tb : List Cond) (P : List mM) (Ex : List String) (Sx : List (String × Nat × String))
/-- n steps of the small machine are the machine's -/
def mm_Sd (n : Nat) : Prop := ∀ (d M : Nat) (c0 : mC) (Q : mR → List mE → Prop) (q : mM), P[M]? = some q → mm_wp sc K P n d M c0 Q →
  ∀ (p : Program) (e : Env) (R : Room) (s : State) (m : MethodId) (args : Array Value) (below : List Frame) (meth : Method) (c : Code) (w0 : va_W) (Qs : State → Prop),
  mm_X D K tys b base sc (Tb.filter goodWord) (Tb.filter mm_isN) (mx_Z base (Tb.filter mx_isC) Ex Sx) p s m args meth c q → (R.cells = q.1 ∧ R.slots = q.2.1 ∧ d + 1 ≤ R.frames ∧ 31 * d + 72 ≤ R.locals) →
  (∀ (pc : Nat) (ins : Instr) (ls : mL) (st : List Value) (h : List mE) (kc ks : Nat) (ps : List Prop) (v : Option Value), decode q.2.2.2.2.1 pc = .ok (ins, 1) → mm_ret ins q.2.2.2.2.2.2.1 st = some (ps, v) → mm_all ps → Q (.inl v) h → kc ≤ q.1 → ks ≤ q.2.1 →
    mm_G p l e R s m args below meth c D (mm_cls K) tys (fun a => base ≤ a) w0 b Qs (pc, ls, st, h, kc, ks)) →
  (∀ (E : Nat) (h : List mE) (kc ks : Nat), E < Ex.length → Q (.inr E) h → kc ≤ q.1 → ks ≤ q.2.1 → ∀ (H : Heap) (locs : List Loc) (ws : va_W) (U : State) (a : Addr) (ce : Cell), mm_h w0 b tys h ws → va_P D (mm_cls K) ws H → va_D (fun a => base ≤ a) ws → va_S (fun a => base ≤ a) s.heap H locs → U.status = .running → Ended U below (.threw a) → s.WarmedH U.vm → s.sameButNew ({ U with vm := s.vm } : State) locs kc ks →
      H.size ≤ U.heap.size → (∀ q : Nat, q < H.size → U.heap[q]? = H[q]?) → U.heap[a]? = some ce → ce.vm = .none → s.vm.findClass (Ex.getD E "") = some ce.cls → Qs U) →
  mm_G p l e R s m args below meth c D (mm_cls K) tys (fun a => base ≤ a) w0 b Qs c0
end MMZ
section MMY
variable {l : Launch} {D : va_G} {K : mK} {tys : List (ClassId × FieldType)} {b base : Nat} {sc : mS} {Tb : List Cond} {P : List mM} {Ex : List String} {Sx : List (String × Nat × String)}
/-- a method's contract -/
theorem mx_met {n d M : Nat} {q : mM} {as : List Value} {h : List mE} {Q : mR → List mE → Prop} (hS : mm_Sd l D K tys b base sc Tb P Ex Sx n) (hq : P[M]? = some q) (hck : mm_ckM Tb Ex Sx K P q = true) (hwp : mm_wp sc K P n d M (0, mm_en q.2.2.2.2.2.1 as, [], h, 0, 0) Q) (hc1 : as.all mm_c1 = true) (hlen : as.length ≤ q.2.2.2.2.2.1)
    (ws : va_W) (av : List Value) (h1 : mm_h ws b tys h ws) (h9 : mm_vs b ws as av) :
    MetFree l q.2.2.2.1 (headSpec (mm_ws (Tb.filter goodWord) q) (mm_rm d q)) (mm_Pc D K tys b base sc (Tb.filter mm_isN) (mx_Z base (Tb.filter mx_isC) Ex Sx) ws av) (fun _ _ _ _ _ => True) (mx_Qc D K tys b base Ex ws Q q.1 q.2.1) := by
  unfold mm_ckM at hck
  simp only [Bool.and_eq_true] at hck
  obtain ⟨-, -, hpn, -⟩ := hck
  refine MetFree.of_bodyS (code := q.2.2.2.2.1) (maxLocals := q.2.2.2.2.2.1) (ret := q.2.2.2.2.2.2.1) hpn ?_ ?_
  · intro args s m h hn
    obtain ⟨meth, c, g1, g2, g3, g4, g5, g6, -, -⟩ := mm_cw_spec hn (atoms_spec (ws := mm_ws (Tb.filter goodWord) q) h _ List.mem_cons_self)
    exact ⟨meth, c, g1, g2, g3, g4, g5, g6⟩
  · intro p e s m args below meth c s₁ B hml hP _
    obtain ⟨rfl, hPw, hDw, hEn⟩ := hP
    have hts0 : ∀ w ∈ mm_ws (Tb.filter goodWord) q, w.before av.toArray s = true := atoms_spec (ws := mm_ws (Tb.filter goodWord) q) B.pre
    have hts : ∀ w ∈ Tb.filter goodWord, w.before av.toArray s = true := fun w hw => hts0 w (List.mem_cons_of_mem _ hw)
    have hh0 : s₁.heap = s.heap := by rw [B.state]; rfl
    have hSt := Stand.of_body B
    obtain ⟨meth2, c2, g1, g2, g3, g4, g5, g6, g7, g8⟩ := mm_cw_spec B.named (hts0 _ List.mem_cons_self)
    cases B.method.symm.trans g1
    cases hSt.code.symm.trans g2
    have hX : mm_X D K tys b base sc (Tb.filter goodWord) (Tb.filter mm_isN) (mx_Z base (Tb.filter mx_isC) Ex Sx) p s m av.toArray meth c q := ⟨B.exec, B.bytes, hml, findClass_of_methodNamed B.named, B.notSynchronized, B.returns, (name_of_methodNamed B.named B.method).1, g7, hts, hEn⟩
    have hS0 : va_S (fun a => base ≤ a) s.heap s.heap [] := va_S.rf
    have hW := hS d M _ Q q hq hwp p e (headSpec (mm_ws (Tb.filter goodWord) q) (mm_rm d q)).room s m av.toArray below meth c ws (fun t => ∃ o, t.status = .running ∧ Ended t below o ∧ mx_Qc D K tys b base Ex ws Q q.1 q.2.1 av.toArray s o t) hX ⟨rfl, rfl, Nat.le_refl _, Nat.le_refl _⟩ ?_ ?_
      s.heap [] ws _ [] h1 hPw hDw hS0 (by rw [hml]; exact mm_entry h9 hc1 hlen) rfl
    · rw [lg_entry_eq]
      obtain ⟨t, a1, o, b1, b2, b3⟩ := hW s₁ hh0 hSt
      exact ⟨t, o, a1, b1, b2, b3⟩
    · intro pc ins ls st h0 kc ks ps v hd hret hps hQ hkc hks H locs ws1 la sv k1 k2 k3 k4 k5 k6
      have fin : ∀ (w : Option Value), mm_vs b ws1 v.toList w.toList → ∀ t : State, t.heap = H → s.WarmedH t.vm → mm_Qc D K tys b base ws Q av.toArray s (.returned w) t := fun w hw t ht hWm => ⟨v, w, h0, ws1, rfl, hQ, hw, k1, k1.2.1, by rw [ht]; exact k2, k3, ⟨by rw [ht]; exact k4.1, fun z hz1 hz2 => by rw [ht]; exact k4.2.1 z hz1 hz2⟩⟩
      have conv : ∀ t, MQ below (mm_Qc D K tys b base ws Q) av.toArray s q.1 q.2.1 (fun a => base ≤ a) t → ∃ o, t.status = .running ∧ Ended t below o ∧ mx_Qc D K tys b base Ex ws Q q.1 q.2.1 av.toArray s o t := by
        intro t ht
        obtain ⟨o, c1, c2, c3, L, ⟨-, c4, c5⟩, c6⟩ := ht
        exact ⟨o, c1, c2, ⟨L, c4, c5, c6⟩, Or.inl c3⟩
      refine W.widen hkc hks (mm_W_mono conv ?_)
      have hr := hX.2.2.2.2.2.1
      have hlk := hX.2.2.2.2.1
      unfold mm_ret at hret
      split at hret
      · rename_i hrt
        cases hret
        rw [hrt] at hr
        obtain ⟨w0, w1, rfl, hw, k6⟩ := k6
        cases hw
        cases k6
        exact W.iret B.exec B.bytes hr (fin _ ⟨_, _, rfl, rfl, rfl⟩) k4.2.2 hd hlk
      · rename_i hrt
        cases hret
        rw [hrt] at hr
        obtain ⟨w0, w1, rfl, hw, k6⟩ := k6
        cases hw
        cases k6
        refine W.zret B.exec B.bytes hr ?_ (fin _ ⟨_, _, rfl, rfl, rfl⟩) k4.2.2 hd hlk
        rcases hps.1 with rfl | rfl <;> decide
      · rename_i hrt
        cases hret
        rw [hrt] at hr
        cases k6
        exact W.vret B.exec B.bytes hr (fin none rfl) k4.2.2 hd hlk
      · cases hret
    · intro E h0 kc ks hEl hQ hkc hks H locs ws1 U a ce k1 k2 k3 k4 u1 u2 u3 u4 u5 u6 u7 u8 u9
      refine ⟨.threw a, u1, u2, ⟨locs, u3, u4.mono hkc hks, k4.2.2⟩, Or.inr ⟨a, E, h0, ws1, ce, rfl, hEl, hQ, k1, k1.2.1, ?_, k3, ?_, u7, u8, u9⟩⟩
      · exact va_P.kept k2 (fun i z hz => u6 z.1 (va_at.lt (k2 i z hz)))
      · exact ⟨Nat.le_trans k4.1 u5, fun z hz1 hz2 => by rw [u6 z (Nat.lt_of_lt_of_le hz1 k4.1)]; exact k4.2.1 z hz1 hz2⟩
end MMY
end
section
/-! every step of the small machine is the machine's -/
theorem mm_at_ok {P : List mM} {M pc : Nat} {q : mM} {b : mB} (h : mm_at P M pc = some (q, b)) : P[M]? = some q ∧ b ∈ q.2.2.1 ∧ b.1 = pc ∧ q.2.2.1.find? (fun b => b.1 == pc) = some b := by
  unfold mm_at at h
  split at h
  · rename_i q1 hq
    split at h
    · rename_i b1 hb
      cases h
      exact ⟨hq, List.mem_of_find?_eq_some hb, eq_of_beq (List.find?_some (p := fun b : mB => b.1 == pc) hb), hb⟩
    · cases h
  · cases h
section MMV
variable {l : Launch} {D : va_G} {K : mK} {tys : List (ClassId × FieldType)} {b base : Nat} {sc : mS} {Tb : List Cond} {P : List mM} {Ex : List String} {Sx : List (String × Nat × String)}
theorem mm_met {y : MethodName} {S : Spec} {Pc : Array Value → State → Prop} {ws : va_W} {Q : mR → List mE → Prop} {mc ms : Nat} (h : MetFree l y S Pc (fun _ _ _ _ _ => True) (mx_Qc D K tys b base Ex ws Q mc ms)) (hno : ∀ E h, ¬ Q (.inr E) h) :
    MetFree l y S Pc (fun _ _ _ _ _ => True) (fun a st o t => mm_Qc D K tys b base ws Q a st o t ∧ ∃ L, FrameEnd st o t L mc ms ∧ ∀ q ∈ L, base ≤ q.base) := by
  intro p e ha hc hk s m args below hf happ hP hK
  obtain ⟨n, o, h1, h2, h3, ⟨L, h4, h5, h6⟩, h7⟩ := h p e ha hc hk s m args below hf happ hP hK
  rcases h7 with h7 | ⟨x, E, h1, ws1, ce, -, -, hQ, -⟩
  · obtain ⟨v, w, h8, ws1, h9, h10⟩ := id h7
    exact ⟨n, o, h1, h2, h3, h7, L, ⟨⟨w, h9⟩, h4, h5⟩, h6⟩
  · exact absurd hQ (hno E _)
set_option maxHeartbeats 4000000 in
theorem mm_sound (hKK : K.all (mm_ckK (Tb.filter goodWord)) = true) (harr : ∀ ty ∈ ([.int, .boolean, .long] : List FieldType), Cond.arrayClass ty ∈ Tb.filter goodWord) (hP : ∀ q ∈ P, mm_ckM Tb Ex Sx K P q = true) (hcast : ∀ i, i < Ex.length → Cond.castable (Ex.getD i "") (Ex.getD i "") ∈ Tb.filter mx_isC) (hl : l.stackTraces = false) :
    ∀ n, mm_Sd l D K tys b base sc Tb P Ex Sx n := by
  intro n
  induction n with
  | zero => intro d M c0 Q q hq hwp; exact hwp.elim
  | succ n ih =>
    intro d M c0 Q q hq hwp p e R s m args below meth c w0 Qs X hR hret hthr
    have hCx : (Tb.filter mx_isC).all mx_isC = true := List.all_eq_true.mpr (fun w hw => (List.mem_filter.mp hw).2)
    unfold mm_wp at hwp
    split at hwp
    · exact hwp.elim
    · rename_i q1 b1 hat
      obtain ⟨hq1, hb1, hpc, -⟩ := mm_at_ok hat
      cases hq.symm.trans hq1
      have hckM := hP q (List.mem_of_getElem? hq)
      unfold mm_ckM at hckM
      simp only [Bool.and_eq_true] at hckM
      obtain ⟨hrows, hH, hpn, hHr⟩ := hckM
      have hck := List.all_eq_true.mp hrows b1 hb1
      obtain ⟨pc, ins, len, grp, kd, x, y, z, hs⟩ := b1
      obtain ⟨pc2, ls, st, h, kc, ks⟩ := c0
      dsimp only at hpc hwp
      subst hpc
      unfold mm_ckB at hck
      dsimp only at hck
      rw [Bool.and_eq_true, decide_eq_true_eq] at hck
      obtain ⟨hd, hck⟩ := hck
      have hR1 : q.1 ≤ R.cells ∧ q.2.1 ≤ R.slots ∧ 1 ≤ R.frames ∧ 64 ≤ R.locals := ⟨by omega, by omega, by omega, by omega⟩
      split at hwp
      · split at hwp
        · rename_i ps c1 hop
          simp only [Bool.and_eq_true, Bool.or_eq_true] at hck
          have hln : kd = 17 ∨ len = mm_len ins := by
            rcases hck.1 with h9 | h9
            · exact Or.inl (eq_of_beq h9)
            · exact Or.inr (eq_of_beq h9)
          exact mm_op_ok X hKK harr hR1 hd hln hck.2 hop hwp.1 (ih d M c1 Q q hq hwp.2 p e R s m args below meth c w0 Qs X hR hret hthr)
        · exact hwp.elim
      · split at hwp
        · rename_i pp c1 c2 hbr
          unfold mm_br at hbr
          dsimp only at hbr
          split at hbr
          · cases hbr
            simp only [Bool.and_eq_true, decide_eq_true_eq] at hck
            have hl3 := eq_of_beq hck.1
            subst hl3
            exact mm_if_ok X.1 X.2.1 hd rfl rfl hck.2 (fun z => ih d M _ Q q hq (hwp.1 z) p e R s m args below meth c w0 Qs X hR hret hthr) (fun z => ih d M _ Q q hq (hwp.2 z) p e R s m args below meth c w0 Qs X hR hret hthr)
          · cases hbr
            simp only [Bool.and_eq_true, decide_eq_true_eq] at hck
            have hl3 := eq_of_beq hck.1
            subst hl3
            exact mm_icmp_ok X.1 X.2.1 hd rfl rfl hck.2 (fun z => ih d M _ Q q hq (hwp.1 z) p e R s m args below meth c w0 Qs X hR hret hthr) (fun z => ih d M _ Q q hq (hwp.2 z) p e R s m args below meth c w0 Qs X hR hret hthr)
          · cases hbr
        · exact hwp.elim
      · split at hwp
        · rename_i d2 as r q2 hcl hq2
          simp only [Bool.and_eq_true] at hck
          have hl3 := eq_of_beq hck.1
          subst hl3
          have hck := hck.2
          rw [hq2] at hck
          dsimp only at hck
          obtain ⟨⟨hk1, hk2, hk3⟩, hwp⟩ := hwp
          obtain ⟨-, -, -, hc1, -, -⟩ := mm_cl_ok hcl
          have hmet := fun ws av h1 h9 => mx_met (M := x) (l := l) (D := D) (tys := tys) (b := b) (base := base) (Tb := Tb) (Ex := Ex) (Sx := Sx) ih hq2 (hP q2 (List.mem_of_getElem? hq2)) hwp hc1 hk3 ws av h1 h9
          have hR2 : R.cells = q.1 ∧ R.slots = q.2.1 ∧ d2 + 2 ≤ R.frames ∧ 31 * d2 + 103 ≤ R.locals := ⟨hR.1, hR.2.1, by omega, by omega⟩
          have hgo : ∀ (v : Option Value) (h1 : List mE), mm_wp sc K P n (d2 + 1) M (pc + 3, ls, v.toList ++ r, h1, kc + q2.1, ks + q2.2.1) Q → mm_G p l e R s m args below meth c D (mm_cls K) tys (fun a => base ≤ a) w0 b Qs (pc + 3, ls, v.toList ++ r, h1, kc + q2.1, ks + q2.2.1) := fun v h1 hw => ih (d2 + 1) M _ Q q hq hw p e R s m args below meth c w0 Qs X hR hret hthr
          by_cases h6 : kd = 6
          · subst h6
            refine mx_call_ok (mx_Zc hCx) X hR2 hd hck hcl ⟨hk1, hk2⟩ hmet (fun v h1 hw => hgo v h1 hw) (fun E h1 hE hw => ?_)
            obtain ⟨-, hw⟩ := hw
            split at hw
            · rename_i hp hhd
              split at hw
              · rename_i pc3 i hbd
                cases hz : mm_at P M hp with
                | none => rw [hz] at hbd; cases hbd
                | some zz =>
                  rw [hz] at hbd
                  obtain ⟨q3, b3⟩ := zz
                  obtain ⟨hq3, hb3, hpc3, hfd⟩ := mm_at_ok hz
                  cases hq.symm.trans hq3
                  have hhs : mm_hs b3 = some (pc3, i) := hbd
                  obtain ⟨hh, hhm, hhe⟩ := mm_hd_mem hhd
                  have h7 := List.all_eq_true.mp hHr hh hhm
                  rw [hhe, hfd] at h7
                  simp only [hhs] at h7
                  simp only [Bool.and_eq_true, decide_eq_true_eq] at h7
                  obtain ⟨g0, g2, hi⟩ := h7
                  have hck3 := List.all_eq_true.mp hrows b3 hb3
                  obtain ⟨pc4, ins4, len4, grp4, kd4, x4, y4, z4, hs4⟩ := b3
                  dsimp only at hpc3 g0 g2
                  have g0 := eq_of_beq g0
                  have g2 := eq_of_beq g2
                  subst hpc3
                  subst g0
                  subst g2
                  unfold mm_ckB at hck3
                  dsimp only at hck3
                  simp only [Bool.and_eq_true, decide_eq_true_eq, Bool.or_eq_true] at hck3
                  obtain ⟨hd4, hl4, -⟩ := hck3
                  have hl4 : len4 = mm_len ins4 := by
                    rcases hl4 with h9 | h9
                    · exact absurd (eq_of_beq h9) (by decide)
                    · exact eq_of_beq h9
                  rw [hl4] at hd4
                  refine mx_catch_ok X hH hcast hE hhd hd4 hi ?_ (ih (d2 + 1) M _ Q q hq hw p e R s m args below meth c w0 Qs X hR hret hthr)
                  unfold mm_hs at hhs
                  split at hhs
                  · rename_i pc5 k5 _ he
                    cases he
                    cases hhs
                    exact Or.inl ⟨_, rfl, rfl, rfl⟩
                  · rename_i pc5 i5 _ he
                    cases he
                    cases hhs
                    exact Or.inr ⟨rfl, rfl⟩
                  · cases hhs
              · exact hw.elim
            · exact mx_out_ok X hw.1 (hthr E h1 _ _ hE hw.2 hk1 hk2)
          · have hno : ∀ E h, ¬ (fun (res : mR) (h' : List mE) => match res with
              | .inl v => mm_wp sc K P n (d2 + 1) M (pc + 3, ls, v.toList ++ r, h', kc + q2.1, ks + q2.2.1) Q
              | .inr E => kd = 6 ∧ (match mm_hd pc E q.2.2.2.2.2.2.2.1 q.2.2.2.2.2.2.2.2.1 with
                | some hp => (match (mm_at P M hp).bind (fun z => mm_hs z.2) with
                  | some (pc', i) => mm_wp sc K P n (d2 + 1) M (pc', ls.set i none, [], h', kc + q2.1, ks + q2.2.1) Q
                  | none => False)
                | none => q.2.2.2.2.2.2.2.1 = [] ∧ Q (.inr E) h')) (.inr E) h := fun E h hz => h6 hz.1
            have hmet2 := fun ws av h1 h9 => mm_met (hmet ws av h1 h9) hno
            by_cases h7 : kd = 7
            · subst h7
              exact mm_callW_ok (mx_Zc hCx) X hR2 hd hck hcl ⟨hk1, hk2⟩ hmet2 (fun v h1 hw => hgo v h1 hw)
            · exact mm_call_ok (mx_Zc hCx) X hR2 hd hck ⟨h6, h7⟩ hcl ⟨hk1, hk2⟩ hmet2 (fun v h1 hw => hgo v h1 hw)
        · exact hwp.elim
      · split at hwp
        · rename_i ps v hr
          have hl1 := eq_of_beq hck
          subst hl1
          exact hret pc ins ls st h kc ks ps v hd hr hwp.2.1 hwp.2.2 hwp.1.1 hwp.1.2
        · exact hwp.elim
      · simp only [Bool.and_eq_true, decide_eq_true_eq] at hck
        obtain ⟨⟨hd5, hk1, hk2, hno, hst⟩, hQ⟩ := hwp
        exact mx_site_ok X hl ⟨by omega, by omega, by omega, by omega⟩ hck.1 hno ⟨hk1, hk2⟩ hst (hthr x h _ _ hck.2 hQ hk1 hk2)
      · exact hwp.elim
end MMV
end
