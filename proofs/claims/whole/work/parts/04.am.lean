/-! A small machine over the class's own addresses: memory of ints (am_I), memory of references (am_R), lengths, next address, slots made. Address 0: the script; 1: the text constant; 2: its bytes; from 3 on the cells in the order in which they are made. -/
abbrev am_I : Type := Nat → Nat → Int32
abbrev am_R : Type := Nat → Nat → Option Nat
abbrev am_K : Type := (Nat → Nat) × Nat × Nat
abbrev am_M : Type := am_I × am_R × am_K
abbrev am_L : Type := List (Option Value)
abbrev am_A : Type := (Option Value × am_M) ⊕ ((Nat × am_L × List Value × am_M) ⊕ (Nat × List Value × Nat × am_L × List Value × am_M))
def am_ui (I : am_I) (a i : Nat) (x : Int32) : am_I := fun b j => if b = a ∧ j = i then x else I b j
def am_ur (R : am_R) (a i : Nat) (x : Option Nat) : am_R := fun b j => if b = a ∧ j = i then x else R b j
def am_zi (I : am_I) (a : Nat) : am_I := fun b j => if b = a then 0 else I b j
def am_zr (R : am_R) (a : Nat) : am_R := fun b j => if b = a then none else R b j
def am_ul (f : Nat → Nat) (a n : Nat) : Nat → Nat := fun b => if b = a then n else f b
def am_cp (I : am_I) (a sp d dp n : Nat) : am_I := fun b j => if b = d ∧ dp ≤ j ∧ j < dp + n then I a (sp + (j - dp)) else I b j
def am_h (x : Int32) : Int32 := vp_nar .char x
def am_b (x : Int32) : Int32 := vp_nar .boolean x
def am_isI (ci j : Nat) : Bool := match am_ty ci j with
  | .object _ => false
  | .array _ => false
  | _ => true
def am_c1 : Value → Bool
  | .int _ => true
  | .ref _ => true
  | .null => true
  | .float _ => true
  | _ => false
def am_rf : Option Nat → Value
  | none => .null
  | some a => .ref a
def am_bytes : List Int32 := [108, 48, 122, 49, 51, 99, 49, 52, 115, 48, 106, 48, 48, 104, 108, 49, 112, 50, 115, 49, 108, 48, 100, 114]
/-- locals, constants, the stack, numbers -/
def am_g1 (pc : Nat) (ls : am_L) (st : List Value) : Instr → Nat → Option (Nat × am_L × List Value)
  | .iload_n k, 1 => match ls[k.val]? with
    | some (some (.int x)) => some (pc + 1, ls, .int x :: st)
    | _ => none
  | .iload k, 2 => match ls[k]? with
    | some (some (.int x)) => some (pc + 2, ls, .int x :: st)
    | _ => none
  | .aload_n k, 1 => match ls[k.val]? with
    | some (some (.ref x)) => some (pc + 1, ls, .ref x :: st)
    | some (some .null) => some (pc + 1, ls, .null :: st)
    | _ => none
  | .aload k, 2 => match ls[k]? with
    | some (some (.ref x)) => some (pc + 2, ls, .ref x :: st)
    | some (some .null) => some (pc + 2, ls, .null :: st)
    | _ => none
  | .istore_n k, 1 => match st with
    | .int x :: r => if k.val < ls.length then some (pc + 1, ls.set k.val (some (.int x)), r) else none
    | _ => none
  | .istore k, 2 => match st with
    | .int x :: r => if k < ls.length then some (pc + 2, ls.set k (some (.int x)), r) else none
    | _ => none
  | .astore_n k, 1 => match st with
    | .ref x :: r => if k.val < ls.length then some (pc + 1, ls.set k.val (some (.ref x)), r) else none
    | .null :: r => if k.val < ls.length then some (pc + 1, ls.set k.val (some .null), r) else none
    | _ => none
  | .astore k, 2 => match st with
    | .ref x :: r => if k < ls.length then some (pc + 2, ls.set k (some (.ref x)), r) else none
    | .null :: r => if k < ls.length then some (pc + 2, ls.set k (some .null), r) else none
    | _ => none
  | .iinc k n, 3 => match ls[k]? with
    | some (some (.int x)) => some (pc + 3, ls.set k (some (.int (x + Int32.ofInt n))), st)
    | _ => none
  | .iconst n, 1 => some (pc + 1, ls, .int (Int32.ofInt n) :: st)
  | .bipush n, 2 => some (pc + 2, ls, .int (Int8.ofInt n).toInt32 :: st)
  | .sipush n, 3 => some (pc + 3, ls, .int (Int16.ofInt n).toInt32 :: st)
  | .aconst_null, 1 => some (pc + 1, ls, .null :: st)
  | .iadd, 1 => match st with
    | .int y :: .int x :: r => some (pc + 1, ls, .int (x + y) :: r)
    | _ => none
  | .isub, 1 => match st with
    | .int y :: .int x :: r => some (pc + 1, ls, .int (x - y) :: r)
    | _ => none
  | .imul, 1 => match st with
    | .int y :: .int x :: r => some (pc + 1, ls, .int (x * y) :: r)
    | _ => none
  | .iand, 1 => match st with
    | .int y :: .int x :: r => some (pc + 1, ls, .int (x &&& y) :: r)
    | _ => none
  | .ixor, 1 => match st with
    | .int y :: .int x :: r => some (pc + 1, ls, .int (x ^^^ y) :: r)
    | _ => none
  | .ishr, 1 => match st with
    | .int y :: .int x :: r => some (pc + 1, ls, .int (x >>> (y &&& 31)) :: r)
    | _ => none
  | .idiv, 1 => match st with
    | .int y :: .int x :: r => if y = 0 then none else some (pc + 1, ls, .int (x / y) :: r)
    | _ => none
  | .irem, 1 => match st with
    | .int y :: .int x :: r => if y = 0 then none else some (pc + 1, ls, .int (x - x / y * y) :: r)
    | _ => none
  | .i2c, 1 => match st with
    | .int x :: r => some (pc + 1, ls, .int (x.toUInt32 % 65536).toInt32 :: r)
    | _ => none
  | .dup, 1 => match st with
    | v :: r => if am_c1 v then some (pc + 1, ls, v :: v :: r) else none
    | _ => none
  | .dup2, 1 => match st with
    | v :: w :: r => if am_c1 v && am_c1 w then some (pc + 1, ls, v :: w :: v :: w :: r) else none
    | _ => none
  | .pop, 1 => match st with
    | v :: r => if am_c1 v then some (pc + 1, ls, r) else none
    | _ => none
  | _, _ => none
/-- a target -/
def am_tg (pc : Nat) (o : Int) (st : List Value) : Option (Nat × List Value) := if 0 ≤ (pc : Int) + o then some (((pc : Int) + o).toNat, st) else none
/-- a branch: the target must be one, taken or not -/
def am_br (b : Bool) (pc : Nat) (o : Int) (r : List Value) : Option (Nat × List Value) := match am_tg pc o r with
  | none => none
  | some t => some (if b then t else (pc + 3, r))
/-- branches -/
def am_g2 (pc : Nat) (st : List Value) : Instr → Nat → Option (Nat × List Value)
  | .goto o, 3 => am_tg pc o st
  | .ifCond .eq o, 3 => match st with
    | .int x :: r => am_br (decide (x = 0)) pc o r
    | _ => none
  | .if_icmp .eq o, 3 => match st with
    | .int y :: .int x :: r => am_br (decide (x = y)) pc o r
    | _ => none
  | .ifCond .ne o, 3 => match st with
    | .int x :: r => am_br (!decide (x = 0)) pc o r
    | _ => none
  | .if_icmp .ne o, 3 => match st with
    | .int y :: .int x :: r => am_br (!decide (x = y)) pc o r
    | _ => none
  | .ifCond .lt o, 3 => match st with
    | .int x :: r => am_br (decide (x < 0)) pc o r
    | _ => none
  | .if_icmp .lt o, 3 => match st with
    | .int y :: .int x :: r => am_br (decide (x < y)) pc o r
    | _ => none
  | .ifCond .ge o, 3 => match st with
    | .int x :: r => am_br (decide (0 ≤ x)) pc o r
    | _ => none
  | .if_icmp .ge o, 3 => match st with
    | .int y :: .int x :: r => am_br (decide (y ≤ x)) pc o r
    | _ => none
  | .ifCond .gt o, 3 => match st with
    | .int x :: r => am_br (decide (0 < x)) pc o r
    | _ => none
  | .if_icmp .gt o, 3 => match st with
    | .int y :: .int x :: r => am_br (decide (y < x)) pc o r
    | _ => none
  | .ifCond .le o, 3 => match st with
    | .int x :: r => am_br (decide (x ≤ 0)) pc o r
    | _ => none
  | .if_icmp .le o, 3 => match st with
    | .int y :: .int x :: r => am_br (decide (x ≤ y)) pc o r
    | _ => none
  | .ifnull o, 3 => match st with
    | .ref _ :: r => some (pc + 3, r)
    | .null :: r => am_tg pc o r
    | _ => none
  | .ifnonnull o, 3 => match st with
    | .ref _ :: r => am_tg pc o r
    | .null :: r => some (pc + 3, r)
    | _ => none
  | .tableswitch d lo hi offs, _ => match st with
    | .int x :: r => if x.toInt < lo ∨ hi < x.toInt then am_tg pc d r else match offs[(x.toInt - lo).toNat]? with
      | some o => am_tg pc o r
      | none => none
    | _ => none
  | .lookupswitch d ps, _ => match st with
    | .int x :: r => if (ps.toList.zip (ps.toList.drop 1)).all (fun (a, next) => a.1 < next.1) = true then am_tg pc (Op.lookupswitch.offset ps.toList d x.toInt) r else none
    | _ => none
  | _, _ => none
/-- an index within -/
def am_ix (i : Int32) (n : Nat) : Bool := !(decide (i < 0) || decide (n ≤ i.toNatClampNeg))
/-- a cell that was made, of a kind -/
def am_isK (K : am_K) (a t : Nat) : Bool := decide (3 ≤ a) && decide (a < K.2.1) && (am_tag a == t)
def am_is (M : am_M) (a t : Nat) : Bool := am_isK M.2.2 a t
/-- the default cell at the next address -/
def am_mk (M : am_M) (len slots : Nat) : am_M := (am_zi M.1 M.2.2.2.1, am_zr M.2.1 M.2.2.2.1, am_ul M.2.2.1 M.2.2.2.1 len, M.2.2.2.1 + 1, M.2.2.2.2 + slots)
/-- fields and arrays -/
def am_g3 (o lv : Nat) (ini : Bool) (pc : Nat) (st : List Value) (M : am_M) : Instr → Nat → Option (Nat × List Value × am_I × am_R)
  | .getfield ix, 3 => match st with
    | .ref a :: r => if a = 1 then (if o = 13 ∧ ix = 15 then some (pc + 3, .int 0 :: r, M.1, M.2.1) else if o = 13 ∧ ix = 9 then some (pc + 3, .ref 2 :: r, M.1, M.2.1) else none) else
      match am_fld o ix with
      | some (ci, j) => if am_is M a ci then some (pc + 3, (if am_isI ci j then .int (M.1 a j) else am_rf (M.2.1 a j)) :: r, M.1, M.2.1) else none
      | none => none
    | _ => none
  | .putfield ix, 3 => match am_fld o ix with
    | some (ci, j) => match st with
      | .int x :: .ref a :: r => if am_is M a ci && am_isI ci j && (!(am_fT ci j).2.2.2 || (ini && ci == o)) && decide (narrow (am_ty ci j) (.int x) = .int x) && fits (am_ty ci j) (.int x) then some (pc + 3, r, am_ui M.1 a j x, M.2.1) else none
      | .ref b :: .ref a :: r => if am_is M a ci && !am_isI ci j && (!(am_fT ci j).2.2.2 || (ini && ci == o)) then some (pc + 3, r, M.1, am_ur M.2.1 a j (some b)) else none
      | .null :: .ref a :: r => if am_is M a ci && !am_isI ci j && (!(am_fT ci j).2.2.2 || (ini && ci == o)) then some (pc + 3, r, M.1, am_ur M.2.1 a j none) else none
      | _ => none
    | none => none
  | .iaload, 1 => match st with
    | .int i :: .ref a :: r => if (a == 0 || am_is M a 20) && am_ix i (M.2.2.1 a) then some (pc + 1, .int (M.1 a i.toNatClampNeg) :: r, M.1, M.2.1) else none
    | _ => none
  | .baload, 1 => match st with
    | .int i :: .ref a :: r => if a = 2 then (if am_ix i 24 then some (pc + 1, .int (am_bytes.getD i.toNatClampNeg 0) :: r, M.1, M.2.1) else none) else if am_is M a 21 && am_ix i (M.2.2.1 a) then some (pc + 1, .int (am_b (M.1 a i.toNatClampNeg)) :: r, M.1, M.2.1) else none
    | _ => none
  | .caload, 1 => match st with
    | .int i :: .ref a :: r => if am_is M a 22 && am_ix i (M.2.2.1 a) then some (pc + 1, .int (am_h (M.1 a i.toNatClampNeg)) :: r, M.1, M.2.1) else none
    | _ => none
  | .aaload, 1 => match st with
    | .int i :: .ref a :: r => if (am_is M a 23 || am_is M a 24) && am_ix i (M.2.2.1 a) then some (pc + 1, am_rf (M.2.1 a i.toNatClampNeg) :: r, M.1, M.2.1) else none
    | _ => none
  | .iastore, 1 => match st with
    | .int x :: .int i :: .ref a :: r => if am_is M a 20 && am_ix i (M.2.2.1 a) then some (pc + 1, r, am_ui M.1 a i.toNatClampNeg x, M.2.1) else none
    | _ => none
  | .bastore, 1 => match st with
    | .int x :: .int i :: .ref a :: r => if am_is M a 21 && am_ix i (M.2.2.1 a) then some (pc + 1, r, am_ui M.1 a i.toNatClampNeg x, M.2.1) else none
    | _ => none
  | .castore, 1 => match st with
    | .int x :: .int i :: .ref a :: r => if am_is M a 22 && am_ix i (M.2.2.1 a) then some (pc + 1, r, am_ui M.1 a i.toNatClampNeg x, M.2.1) else none
    | _ => none
  | .aastore, 1 => match st with
    | .ref b :: .int i :: .ref a :: r => if ((am_is M a 23 && am_is M b 3) || (am_is M a 24 && am_is M b 7)) && am_ix i (M.2.2.1 a) then some (pc + 1, r, M.1, am_ur M.2.1 a i.toNatClampNeg (some b)) else none
    | _ => none
  | .arraylength, 1 => match st with
    | .ref a :: r => if a = 2 then some (pc + 1, .int 24 :: r, M.1, M.2.1) else if a == 0 || am_is M a 20 || am_is M a 21 || am_is M a 22 || am_is M a 23 then some (pc + 1, .int (Int32.ofNat (M.2.2.1 a)) :: r, M.1, M.2.1) else none
    | _ => none
  | .ldc ix, 2 => if o = 9 ∧ ix = 63 then some (pc + 2, .ref 1 :: st, M.1, M.2.1) else none
  | .getstatic ix, 3 => if o = 13 ∧ ix = 38 then some (pc + 3, .int 1 :: st, M.1, M.2.1) else if o = 13 ∧ ix = 1053 then some (pc + 3, .float 0 :: st, M.1, M.2.1) else none
  | .invokespecial ix, 3 => match am_call o ix with
    | some (3, _) => match st with
      | .ref _ :: r => if decide (0 < lv) && decide (r.length ≤ 8) && r.all am_c1 then some (pc + 3, r, M.1, M.2.1) else none
      | _ => none
    | _ => none
  | .invokestatic ix, 3 => match am_call o ix with
    | some (4, _) => match st with
      | .int n :: .int dp :: .ref d :: .int sp :: .ref a :: r => if decide (0 < lv) && decide (r.length ≤ 8) && r.all am_c1 && am_is M a 20 && am_is M d 20 && !(decide (sp < 0)) && !(decide (dp < 0)) && !(decide (n < 0)) && decide (sp.toNatClampNeg + n.toNatClampNeg ≤ M.2.2.1 a) && decide (dp.toNatClampNeg + n.toNatClampNeg ≤ M.2.2.1 d) then some (pc + 3, r, am_cp M.1 a sp.toNatClampNeg d dp.toNatClampNeg n.toNatClampNeg, M.2.1) else none
      | _ => none
    | _ => none
  | _, _ => none
/-- new cells -/
def am_g6 (o : Nat) (pc : Nat) (st : List Value) (M : am_M) : Instr → Nat → Option (Nat × List Value × am_M)
  | .new ix, 3 => match am_new o ix with
    | some ci => if am_tag M.2.2.2.1 = ci then some (pc + 3, .ref M.2.2.2.1 :: st, am_mk M 0 (am_cN ci)) else none
    | none => none
  | .newarray .int, 2 => match st with
    | .int k :: r => if !(decide (k < 0)) && decide (k.toNatClampNeg ≤ 10000) && (am_tag M.2.2.2.1 == 20) then some (pc + 2, .ref M.2.2.2.1 :: r, am_mk M k.toNatClampNeg k.toNatClampNeg) else none
    | _ => none
  | .newarray .boolean, 2 => match st with
    | .int k :: r => if !(decide (k < 0)) && decide (k.toNatClampNeg ≤ 10000) && (am_tag M.2.2.2.1 == 21) then some (pc + 2, .ref M.2.2.2.1 :: r, am_mk M k.toNatClampNeg k.toNatClampNeg) else none
    | _ => none
  | .newarray .char, 2 => match st with
    | .int k :: r => if !(decide (k < 0)) && decide (k.toNatClampNeg ≤ 10000) && (am_tag M.2.2.2.1 == 22) then some (pc + 2, .ref M.2.2.2.1 :: r, am_mk M k.toNatClampNeg k.toNatClampNeg) else none
    | _ => none
  | .anewarray ix, 3 => match st with
    | .int k :: r => if !(decide (k < 0)) && decide (k.toNatClampNeg ≤ 10000) && ((am_anew o ix == some 3 && am_tag M.2.2.2.1 == 23) || (am_anew o ix == some 7 && am_tag M.2.2.2.1 == 24)) then some (pc + 3, .ref M.2.2.2.1 :: r, am_mk M k.toNatClampNeg k.toNatClampNeg) else none
    | _ => none
  | _, _ => none
/-- a call: method, arguments, what is left of the stack -/
def am_g4 (o lv : Nat) (st : List Value) (M : am_M) : Instr → Nat → Option (Nat × List Value × List Value)
  | .invokevirtual ix, 3 => match am_call o ix with
    | some (0, j) => match (st.take (am_np j + 1)).reverse with
      | .ref b :: as => if decide (as.length = am_np j) && (st.drop (am_np j + 1)).all am_c1 && as.all am_c1 && decide ((st.drop (am_np j + 1)).length ≤ 8) && decide (am_lev j < lv) && decide (am_np j + 1 ≤ am_nl j) && (am_is M b (am_own j) || (b == 1 && am_own j == 13)) then some (j, .ref b :: as, st.drop (am_np j + 1)) else none
      | _ => none
    | _ => none
  | .invokespecial ix, 3 => match am_call o ix with
    | some (2, j) => match (st.take (am_np j + 1)).reverse with
      | .ref b :: as => if decide (as.length = am_np j) && (st.drop (am_np j + 1)).all am_c1 && as.all am_c1 && decide ((st.drop (am_np j + 1)).length ≤ 8) && decide (am_lev j < lv) && decide (am_np j + 1 ≤ am_nl j) then some (j, .ref b :: as, st.drop (am_np j + 1)) else none
      | _ => none
    | _ => none
  | .invokestatic ix, 3 => match am_call o ix with
    | some (1, j) => if decide ((st.take (am_np j)).length = am_np j) && (st.drop (am_np j)).all am_c1 && (st.take (am_np j)).all am_c1 && decide ((st.drop (am_np j)).length ≤ 8) && decide (am_lev j < lv) && decide (am_np j ≤ am_nl j) then some (j, (st.take (am_np j)).reverse, st.drop (am_np j)) else none
    | _ => none
  | _, _ => none
/-- the end of a method -/
def am_g5 (rt : Option FieldType) (st : List Value) : Instr → Nat → Option (Option Value)
  | .ireturn, 1 => match rt, st with
    | some t, [.int v] => if narrow t (.int v) = .int v then some (some (.int v)) else none
    | _, _ => none
  | .areturn, 1 => match rt, st with
    | some (.object _), [.ref a] => some (some (.ref a))
    | some (.object _), [.null] => some (some .null)
    | _, _ => none
  | .return_, 1 => match rt, st with
    | none, [] => some none
    | _, _ => none
  | _, _ => none
def am_ini (m : Nat) : Bool := (am_y m).name == "<init>"
def am_do (m pc : Nat) (ls : am_L) (st : List Value) (M : am_M) (i : Instr) (n : Nat) : Option am_A :=
  match am_g1 pc ls st i n with
  | some (pc', ls', st') => some (.inr (.inl (pc', ls', st', M)))
  | none => match am_g2 pc st i n with
    | some (pc', st') => some (.inr (.inl (pc', ls, st', M)))
    | none => match am_g3 (am_own m) (am_lev m) (am_ini m) pc st M i n with
      | some (pc', st', I', R') => some (.inr (.inl (pc', ls, st', (I', R', M.2.2))))
      | none => match am_g6 (am_own m) pc st M i n with
       | some (pc', st', M') => some (.inr (.inl (pc', ls, st', M')))
       | none => match am_g4 (am_own m) (am_lev m) st M i n with
        | some (j, as, r) => some (.inr (.inr (j, as, pc + 3, ls, r, M)))
        | none => match am_g5 (am_rt m) st i n with
          | some v => some (.inl (v, M))
          | none => none
def am_act (m pc : Nat) (ls : am_L) (st : List Value) (M : am_M) : Option am_A := match decode (am_c m) pc with
  | .ok (i, n) => am_do m pc ls st M i n
  | .error _ => none
def am_ent (j : Nat) (as : List Value) : am_L := as.map some ++ List.replicate (am_nl j - as.length) none
def am_run : Nat → Nat → Nat → am_L → List Value → am_M → Option (Option Value × am_M)
  | 0, _, _, _, _, _ => none
  | n + 1, m, pc, ls, st, M => match am_act m pc ls st M with
    | none => none
    | some (.inl r) => some r
    | some (.inr (.inl (pc', ls', st', M'))) => am_run n m pc' ls' st' M'
    | some (.inr (.inr (j, as, pc', ls', st', M'))) => match am_run n j 0 (am_ent j as) [] M' with
      | none => none
      | some (v, M2) => am_run n m pc' ls' (v.toList ++ st') M2
theorem am_run_up : ∀ (n m pc : Nat) (ls : am_L) (st : List Value) (M : am_M) (r : Option Value × am_M), am_run n m pc ls st M = some r → am_run (n + 1) m pc ls st M = some r := by
  intro n
  induction n with
  | zero => intro m pc ls st M r h; cases h
  | succ n ih =>
    intro m pc ls st M r h
    rw [am_run] at h ⊢
    cases ha : am_act m pc ls st M with
    | none => rw [ha] at h; cases h
    | some a =>
      rw [ha] at h
      rcases a with a | ⟨pc', ls', st', M'⟩ | ⟨j, as, pc', ls', st', M'⟩
      · exact h
      · exact ih _ _ _ _ _ _ h
      · dsimp only at h ⊢
        cases hc : am_run n j 0 (am_ent j as) [] M' with
        | none => rw [hc] at h; cases h
        | some q =>
          rw [hc] at h
          rw [ih _ _ _ _ _ _ hc]
          exact ih _ _ _ _ _ _ h
theorem am_run_le {n k m pc : Nat} {ls : am_L} {st : List Value} {M : am_M} {r : Option Value × am_M} (hk : n ≤ k) (h : am_run n m pc ls st M = some r) : am_run k m pc ls st M = some r := by
  induction hk with
  | refl => exact h
  | step _ ih => exact am_run_up _ _ _ _ _ _ _ ih
/-- what comes of it in the end -/
noncomputable def ev (m pc : Nat) (ls : am_L) (st : List Value) (M : am_M) : Option (Option Value × am_M) :=
  @dite _ (∃ n, (am_run n m pc ls st M).isSome = true) (Classical.propDecidable _) (fun h => am_run (Classical.choose h) m pc ls st M) (fun _ => none)
theorem ev_some {m pc : Nat} {ls : am_L} {st : List Value} {M : am_M} {r : Option Value × am_M} : ev m pc ls st M = some r ↔ ∃ n, am_run n m pc ls st M = some r := by
  unfold ev
  by_cases h : ∃ n, (am_run n m pc ls st M).isSome = true
  · rw [dif_pos h]
    have hc := Classical.choose_spec h
    constructor
    · intro e; exact ⟨_, e⟩
    · rintro ⟨n, hn⟩
      cases hr : am_run (Classical.choose h) m pc ls st M with
      | none => rw [hr] at hc; cases hc
      | some q =>
        rcases Nat.le_total n (Classical.choose h) with hl | hl
        · rw [am_run_le hl hn] at hr; exact hr.symm
        · rw [am_run_le hl hr] at hn; exact hn
  · rw [dif_neg h]
    constructor
    · intro e; cases e
    · rintro ⟨n, hn⟩
      exact absurd ⟨n, by rw [hn]; rfl⟩ h
theorem ev_eq {m pc m' pc' : Nat} {ls ls' : am_L} {st st' : List Value} {M M' : am_M} (h : ∀ r, (∃ n, am_run n m pc ls st M = some r) ↔ ∃ n, am_run n m' pc' ls' st' M' = some r) : ev m pc ls st M = ev m' pc' ls' st' M' := by
  apply Option.ext
  intro r
  rw [ev_some, ev_some]
  exact h r
theorem ev_next {m pc pc' : Nat} {ls ls' : am_L} {st st' : List Value} {M M' : am_M} (h : am_act m pc ls st M = some (.inr (.inl (pc', ls', st', M')))) : ev m pc ls st M = ev m pc' ls' st' M' := by
  refine ev_eq fun r => ⟨?_, ?_⟩
  · rintro ⟨n, hn⟩
    cases n with
    | zero => cases hn
    | succ n => rw [am_run, h] at hn; exact ⟨n, hn⟩
  · rintro ⟨n, hn⟩
    exact ⟨n + 1, by rw [am_run, h]; exact hn⟩
theorem ev_ret {m pc : Nat} {ls : am_L} {st : List Value} {M : am_M} {r : Option Value × am_M} (h : am_act m pc ls st M = some (.inl r)) : ev m pc ls st M = some r := ev_some.mpr ⟨1, by rw [am_run, h]⟩
theorem ev_call {m pc j pc' : Nat} {ls ls' : am_L} {st st' as : List Value} {M M' : am_M} (h : am_act m pc ls st M = some (.inr (.inr (j, as, pc', ls', st', M')))) : ev m pc ls st M = (ev j 0 (am_ent j as) [] M').bind (fun q => ev m pc' ls' (q.1.toList ++ st') q.2) := by
  apply Option.ext
  intro r
  rw [ev_some, Option.bind_eq_some_iff]
  constructor
  · rintro ⟨n, hn⟩
    cases n with
    | zero => cases hn
    | succ n =>
      rw [am_run, h] at hn
      dsimp only at hn
      cases hc : am_run n j 0 (am_ent j as) [] M' with
      | none => rw [hc] at hn; cases hn
      | some q =>
        rw [hc] at hn
        exact ⟨q, ev_some.mpr ⟨n, hc⟩, ev_some.mpr ⟨n, hn⟩⟩
  · rintro ⟨q, h1, h2⟩
    obtain ⟨n1, h1⟩ := ev_some.mp h1
    obtain ⟨n2, h2⟩ := ev_some.mp h2
    refine ⟨max n1 n2 + 1, ?_⟩
    rw [am_run, h]
    dsimp only
    rw [am_run_le (Nat.le_max_left n1 n2) h1]
    exact am_run_le (Nat.le_max_right n1 n2) h2
