/-! THE SMALL MACHINE: the class's, the reference's and the law's bytecode over a memory of fixed shape; None where it is not sure. -/
abbrev mm : Type := (Nat → Nat → Int32) × Int64
abbrev mS : Type := Nat × List (Option Value) × List Value × mm
abbrev mR : Type := mS ⊕ ((Nat × List Value × Nat × List (Option Value) × List Value × mm) ⊕ (Option Value × mm))
def my (y : Nat) : MethodName := mys.getD y ⟨"", "", ""⟩
def mb (y : Nat) : ByteArray := mbs.getD y ByteArray.empty
def mL (y : Nat) : Nat := mLs.getD y 0
def mr (y : Nat) : Option FieldType := mrs.getD y none
def mo (y : Nat) : Nat := mos.getD y 99
def mf (y : Nat) : Nat := mfs.getD y 0
def mlo (y : Nat) : Nat := mls.getD y 0
def na (y : Nat) : Nat := nas.getD y 0
def fld (c i : Nat) : Option (Nat × Nat) := (flds.find? (fun e => e.1 == c && e.2.1 == i)).map (fun e => e.2.2)
def lnk (c i : Nat) : Option (Nat × Nat) := (lnks.find? (fun e => e.1 == c && e.2.1 == i)).map (fun e => e.2.2)
def cst (c i : Nat) : Option Value := (csts.find? (fun e => e.1 == c && e.2.1 == i)).map (fun e => e.2.2)
/-- one int of the memory is set -/
def mup (μ : mm) (k j : Nat) (x : Int32) : mm := (fun a => if a = k then upd (μ.1 k) j x else μ.1 a, μ.2)
/-- the length of an instruction, where it is fixed -/
def ilen : Instr → Nat → Nat
  | .tableswitch _ _ _ _, n => n
  | .lookupswitch _ _, n => n
  | .bipush _, _ => 2
  | .iload _, _ => 2
  | .istore _, _ => 2
  | .ldc _, _ => 2
  | .sipush _, _ => 3
  | .iinc _ _, _ => 3
  | .ifCond _ _, _ => 3
  | .if_icmp _ _, _ => 3
  | .goto _, _ => 3
  | .getfield _, _ => 3
  | .putfield _, _ => 3
  | .getstatic _, _ => 3
  | .invokevirtual _, _ => 3
  | .invokestatic _, _ => 3
  | .ldc_w _, _ => 3
  | .ldc2_w _, _ => 3
  | _, _ => 1
def ins (y pc : Nat) : Option Instr := match decode (mb y) pc with
  | .ok (i, n) => if n = ilen i n then some i else none
  | _ => none
/-- locals: place i holds v -/
def sl : Nat → Option Value → List (Option Value) → List (Option Value)
  | 0, v, t => v :: t.tail
  | n + 1, v, [] => none :: sl n v []
  | n + 1, v, x :: t => x :: sl n v t
/-- no long stands just ahead of place i -/
def nolong (i : Nat) (lv : List (Option Value)) : Bool := match i with
  | 0 => true
  | k + 1 => match lv[k]? with
    | some (some (.long _)) => false
    | some (some (.double _)) => false
    | _ => true
/-- locals at a method's entry -/
def ent : List Value → List (Option Value)
  | [] => []
  | v :: t => if v.category = 2 then some v :: none :: ent t else some v :: ent t
def nx (pc : Nat) (lv : List (Option Value)) (st : List Value) (μ : mm) : Option mR := some (.inl (pc, lv, st, μ))
def jck (pc : Nat) (off : Int) (f : Nat → Option mR) : Option mR := if (((pc : Int) + off).toNat : Int) = (pc : Int) + off then f ((pc : Int) + off).toNat else none
def jmp (pc : Nat) (off : Int) (lv : List (Option Value)) (st : List Value) (μ : mm) : Option mR := jck pc off (fun tgt => nx tgt lv st μ)
def lod (i n pc : Nat) (lv : List (Option Value)) (st : List Value) (μ : mm) (ok : Value → Bool) : Option mR := match lv[i]? with
  | some (some v) => if ok v then nx (pc + n) lv (v :: st) μ else none
  | _ => none
def isI : Value → Bool
  | .int _ => true
  | _ => false
def isL : Value → Bool
  | .long _ => true
  | _ => false
def isR : Value → Bool
  | .ref k => decide (k ≠ 1200)
  | _ => false
def sto (y i n pc : Nat) (lv : List (Option Value)) (st : List Value) (μ : mm) : Option mR := match st with
  | .int x :: r => if i < mL y ∧ nolong i lv = true then nx (pc + n) (sl i (some (.int x)) lv) r μ else none
  | _ => none
/-- may z be called from y, with rest left on the stack -/
def okc (y z : Nat) (as rest : List Value) : Bool := decide (mf z + 1 ≤ mf y) && (decide (8 + (mL z + 11) + mlo z ≤ mlo y) && (decide ((rest.map fun v => v.category).sum ≤ 8) && decide ((as.map fun v => v.category).sum ≤ mL z)))
def okr (sh : List (Nat × Nat × List Nat)) (z b : Nat) : Bool := if b < 1000 then decide (mo z < 11) && ((sh[b]?).map (fun c => c.1) == some (mo z)) else decide (b < 1007) && decide (mo z = 20)
def cV (sh : List (Nat × Nat × List Nat)) (y idx pc : Nat) (lv : List (Option Value)) (st : List Value) (μ : mm) : Option mR := match lnk (mo y) idx with
  | some (0, z) => match st.drop (na z) with
    | .ref b :: rest => if okr sh z b && okc y z (.ref b :: (st.take (na z)).reverse) rest then some (.inr (.inl (z, .ref b :: (st.take (na z)).reverse, pc + 3, lv, rest, μ))) else none
    | _ => none
  | _ => none
def cS (y idx pc : Nat) (lv : List (Option Value)) (st : List Value) (μ : mm) : Option mR := match lnk (mo y) idx with
  | some (1, z) => if decide (na z ≤ st.length) && okc y z (st.take (na z)).reverse (st.drop (na z)) then some (.inr (.inl (z, (st.take (na z)).reverse, pc + 3, lv, st.drop (na z), μ))) else none
  | _ => none
/-- a field of a cell -/
def gfd (sh : List (Nat × Nat × List Nat)) (y idx k : Nat) (μ : mm) : Option Value := match fld (mo y) idx with
  | some (ci, j) => match sh[k]? with
    | some (c, _, s) => if c = ci ∧ ci < 11 then (match s[j]? with
      | some 0 => some (.int (μ.1 k j))
      | some 1 => some (.long μ.2)
      | some (r + 2) => some (.ref r)
      | none => none) else none
    | none => none
  | none => none
/-- a field of a String constant -/
def gst (y idx k : Nat) : Option Value := if mo y = 20 ∧ k < 1007 then (if idx = 9 then some (.ref (k + 100)) else if idx = 15 then some (.int 0) else none) else none
def jsl : List Nat := [6, 6, 3, 4, 4, 4, 4]
def jsb : List (List Int32) := [[115, 116, 114, 101, 101, 116], [98, 101, 104, 105, 110, 100], [119, 97, 121], [119, 97, 108, 108], [100, 101, 101, 100], [115, 104, 111, 112], [116, 105, 100, 121]]
def ex (sh : List (Nat × Nat × List Nat)) (y pc : Nat) (lv : List (Option Value)) (st : List Value) (μ : mm) : Instr → Option mR
  | .iconst n => nx (pc + 1) lv (.int (Int32.ofInt n) :: st) μ
  | .bipush n => nx (pc + 2) lv (.int (Int8.ofInt n).toInt32 :: st) μ
  | .sipush n => nx (pc + 3) lv (.int (Int16.ofInt n).toInt32 :: st) μ
  | .lconst n => nx (pc + 1) lv (.long (Int64.ofNat (n : Nat)) :: st) μ
  | .ldc i => match cst (mo y) i with
    | some (.int v) => nx (pc + 2) lv (.int v :: st) μ
    | some (.ref k) => nx (pc + 2) lv (.ref k :: st) μ
    | _ => none
  | .ldc_w i => match cst (mo y) i with
    | some (.int v) => nx (pc + 3) lv (.int v :: st) μ
    | _ => none
  | .ldc2_w i => match cst (mo y) i with
    | some (.long v) => nx (pc + 3) lv (.long v :: st) μ
    | _ => none
  | .iload_n k => lod k 1 pc lv st μ isI
  | .iload k => lod k 2 pc lv st μ isI
  | .lload_n k => lod k 1 pc lv st μ isL
  | .aload_n k => lod k 1 pc lv st μ isR
  | .istore_n k => sto y k 1 pc lv st μ
  | .istore k => sto y k 2 pc lv st μ
  | .iinc i n => match lv[i]? with
    | some (some (.int x)) => if i < mL y ∧ nolong i lv = true then nx (pc + 3) (sl i (some (.int (x + Int32.ofInt n))) lv) st μ else none
    | _ => none
  | .iadd => match st with
    | .int b :: .int a :: r => nx (pc + 1) lv (.int (a + b) :: r) μ
    | _ => none
  | .isub => match st with
    | .int b :: .int a :: r => nx (pc + 1) lv (.int (a - b) :: r) μ
    | _ => none
  | .imul => match st with
    | .int b :: .int a :: r => nx (pc + 1) lv (.int (a * b) :: r) μ
    | _ => none
  | .idiv => match st with
    | .int b :: .int a :: r => if b = 0 then none else nx (pc + 1) lv (.int (a / b) :: r) μ
    | _ => none
  | .irem => match st with
    | .int b :: .int a :: r => if b = 0 then none else nx (pc + 1) lv (.int (a - a / b * b) :: r) μ
    | _ => none
  | .ineg => match st with
    | .int a :: r => nx (pc + 1) lv (.int (-a) :: r) μ
    | _ => none
  | .iand => match st with
    | .int b :: .int a :: r => nx (pc + 1) lv (.int (a &&& b) :: r) μ
    | _ => none
  | .ior => match st with
    | .int b :: .int a :: r => nx (pc + 1) lv (.int (a ||| b) :: r) μ
    | _ => none
  | .ixor => match st with
    | .int b :: .int a :: r => nx (pc + 1) lv (.int (a ^^^ b) :: r) μ
    | _ => none
  | .ishl => match st with
    | .int b :: .int a :: r => nx (pc + 1) lv (.int (a <<< (b &&& 31)) :: r) μ
    | _ => none
  | .ishr => match st with
    | .int b :: .int a :: r => nx (pc + 1) lv (.int (a >>> (b &&& 31)) :: r) μ
    | _ => none
  | .iushr => match st with
    | .int b :: .int a :: r => nx (pc + 1) lv (.int (a.toUInt32 >>> (b.toUInt32 &&& Int32.toUInt32 31)).toInt32 :: r) μ
    | _ => none
  | .i2l => match st with
    | .int a :: r => nx (pc + 1) lv (.long a.toInt64 :: r) μ
    | _ => none
  | .i2c => match st with
    | .int a :: r => nx (pc + 1) lv (.int (a.toUInt32 % 65536).toInt32 :: r) μ
    | _ => none
  | .l2i => match st with
    | .long a :: r => nx (pc + 1) lv (.int a.toInt32 :: r) μ
    | _ => none
  | .ladd => match st with
    | .long b :: .long a :: r => nx (pc + 1) lv (.long (a + b) :: r) μ
    | _ => none
  | .lsub => match st with
    | .long b :: .long a :: r => nx (pc + 1) lv (.long (a - b) :: r) μ
    | _ => none
  | .lmul => match st with
    | .long b :: .long a :: r => nx (pc + 1) lv (.long (a * b) :: r) μ
    | _ => none
  | .land => match st with
    | .long b :: .long a :: r => nx (pc + 1) lv (.long (a &&& b) :: r) μ
    | _ => none
  | .lor => match st with
    | .long b :: .long a :: r => nx (pc + 1) lv (.long (a ||| b) :: r) μ
    | _ => none
  | .lshl => match st with
    | .int b :: .long a :: r => nx (pc + 1) lv (.long (a <<< (b.toInt64 &&& 63)) :: r) μ
    | _ => none
  | .lshr => match st with
    | .int b :: .long a :: r => nx (pc + 1) lv (.long (a >>> (b.toInt64 &&& 63)) :: r) μ
    | _ => none
  | .lcmp => match st with
    | .long b :: .long a :: r => nx (pc + 1) lv (.int (lg_cmp a b) :: r) μ
    | _ => none
  | .dup => match st with
    | .int a :: r => nx (pc + 1) lv (.int a :: .int a :: r) μ
    | .ref a :: r => nx (pc + 1) lv (.ref a :: .ref a :: r) μ
    | _ => none
  | .pop => match st with
    | .int _ :: r => nx (pc + 1) lv r μ
    | _ => none
  | .goto off => jmp pc off lv st μ
  | .ifCond .eq off => match st with
    | .int x :: r => jck pc off (fun tgt => if x = 0 then nx tgt lv r μ else nx (pc + 3) lv r μ)
    | _ => none
  | .ifCond .ne off => match st with
    | .int x :: r => jck pc off (fun tgt => if x = 0 then nx (pc + 3) lv r μ else nx tgt lv r μ)
    | _ => none
  | .ifCond .lt off => match st with
    | .int x :: r => jck pc off (fun tgt => if x < 0 then nx tgt lv r μ else nx (pc + 3) lv r μ)
    | _ => none
  | .ifCond .ge off => match st with
    | .int x :: r => jck pc off (fun tgt => if 0 ≤ x then nx tgt lv r μ else nx (pc + 3) lv r μ)
    | _ => none
  | .ifCond .gt off => match st with
    | .int x :: r => jck pc off (fun tgt => if 0 < x then nx tgt lv r μ else nx (pc + 3) lv r μ)
    | _ => none
  | .ifCond .le off => match st with
    | .int x :: r => jck pc off (fun tgt => if x ≤ 0 then nx tgt lv r μ else nx (pc + 3) lv r μ)
    | _ => none
  | .if_icmp .eq off => match st with
    | .int b :: .int a :: r => jck pc off (fun tgt => if a = b then nx tgt lv r μ else nx (pc + 3) lv r μ)
    | _ => none
  | .if_icmp .ne off => match st with
    | .int b :: .int a :: r => jck pc off (fun tgt => if a = b then nx (pc + 3) lv r μ else nx tgt lv r μ)
    | _ => none
  | .if_icmp .lt off => match st with
    | .int b :: .int a :: r => jck pc off (fun tgt => if a < b then nx tgt lv r μ else nx (pc + 3) lv r μ)
    | _ => none
  | .if_icmp .ge off => match st with
    | .int b :: .int a :: r => jck pc off (fun tgt => if b ≤ a then nx tgt lv r μ else nx (pc + 3) lv r μ)
    | _ => none
  | .if_icmp .gt off => match st with
    | .int b :: .int a :: r => jck pc off (fun tgt => if b < a then nx tgt lv r μ else nx (pc + 3) lv r μ)
    | _ => none
  | .if_icmp .le off => match st with
    | .int b :: .int a :: r => jck pc off (fun tgt => if a ≤ b then nx tgt lv r μ else nx (pc + 3) lv r μ)
    | _ => none
  | .tableswitch d lo hi offs => match st with
    | .int x :: r => if x.toInt < lo ∨ hi < x.toInt then jmp pc d lv r μ else (match offs[(x.toInt - lo).toNat]? with
      | some off => jmp pc off lv r μ
      | none => none)
    | _ => none
  | .lookupswitch d ps => match st with
    | .int x :: r => if (ps.toList.zip (ps.toList.drop 1)).all (fun (a, next) => a.1 < next.1) = true then jmp pc (Op.lookupswitch.offset ps.toList d x.toInt) lv r μ else none
    | _ => none
  | .getfield i => match st with
    | .ref k :: r => if k < 1000 then (match gfd sh y i k μ with
        | some v => nx (pc + 3) lv (v :: r) μ
        | none => none)
      else (match gst y i k with
        | some v => nx (pc + 3) lv (v :: r) μ
        | none => none)
    | _ => none
  | .putfield i => match st with
    | .int x :: .ref k :: r => (match fld (mo y) i with
      | some (ci, j) => (match sh[k]? with
        | some (c, _, s) => if c = ci ∧ ci < 11 ∧ s[j]? = some 0 then nx (pc + 3) lv r (mup μ k j x) else none
        | none => none)
      | none => none)
    | .long x :: .ref k :: r => (match fld (mo y) i with
      | some (ci, j) => (match sh[k]? with
        | some (c, _, s) => if c = ci ∧ ci < 11 ∧ s[j]? = some 1 then nx (pc + 3) lv r (μ.1, x) else none
        | none => none)
      | none => none)
    | _ => none
  | .getstatic i => if mo y = 20 ∧ i = 38 then nx (pc + 3) lv (.int 1 :: st) μ else if mo y = 20 ∧ i = 1053 then nx (pc + 3) lv (.ref 1200 :: st) μ else none
  | .iaload => match st with
    | .int i :: .ref k :: r => if k = 999 then (if mo y = 11 then (if i < 0 ∨ (μ.1 998 0).toNatClampNeg ≤ i.toNatClampNeg then none else nx (pc + 1) lv (.int (μ.1 999 i.toNatClampNeg) :: r) μ) else none)
      else (match sh[k]? with
        | some (t, n, _) => if t = 100 then (if i < 0 ∨ n ≤ i.toNatClampNeg then none else nx (pc + 1) lv (.int (μ.1 k i.toNatClampNeg) :: r) μ) else none
        | none => none)
    | _ => none
  | .iastore => match st with
    | .int x :: .int i :: .ref k :: r => (match sh[k]? with
      | some (t, n, _) => if t = 100 then (if i < 0 ∨ n ≤ i.toNatClampNeg then none else nx (pc + 1) lv r (mup μ k i.toNatClampNeg x)) else none
      | none => none)
    | _ => none
  | .baload => match st with
    | .int i :: .ref k :: r => if k < 1000 then (match sh[k]? with
        | some (t, n, _) => if t = 101 then (if i < 0 ∨ n ≤ i.toNatClampNeg then none else nx (pc + 1) lv (.int (μ.1 k i.toNatClampNeg) :: r) μ) else none
        | none => none)
      else if 1100 ≤ k ∧ k < 1107 then (if i < 0 ∨ jsl.getD (k - 1100) 0 ≤ i.toNatClampNeg then none else nx (pc + 1) lv (.int ((jsb.getD (k - 1100) []).getD i.toNatClampNeg 0) :: r) μ) else none
    | _ => none
  | .bastore => match st with
    | .int x :: .int i :: .ref k :: r => (match sh[k]? with
      | some (t, n, _) => if t = 101 then (if i < 0 ∨ n ≤ i.toNatClampNeg then none else nx (pc + 1) lv r (mup μ k i.toNatClampNeg (vp_nar .boolean x))) else none
      | none => none)
    | _ => none
  | .aaload => match st with
    | .int i :: .ref k :: r => (match sh[k]? with
      | some (t, n, s) => if t = 102 then (if i < 0 ∨ n ≤ i.toNatClampNeg then none else (match s[i.toNatClampNeg]? with
        | some q => nx (pc + 1) lv (.ref q :: r) μ
        | none => none)) else none
      | none => none)
    | _ => none
  | .arraylength => match st with
    | .ref k :: r => if k = 999 then (if mo y = 11 then nx (pc + 1) lv (.int (μ.1 998 0) :: r) μ else none)
      else if 1100 ≤ k ∧ k < 1107 then nx (pc + 1) lv (.int (Int32.ofNat (jsl.getD (k - 1100) 0)) :: r) μ else none
    | _ => none
  | .invokevirtual i => cV sh y i pc lv st μ
  | .invokestatic i => cS y i pc lv st μ
  | .ireturn => match st with
    | [.int v] => (match mr y with
      | some ty => if narrow ty (.int v) = .int v then some (.inr (.inr (some (.int v), μ))) else none
      | none => none)
    | _ => none
  | .return_ => match st with
    | [] => if mr y = none then some (.inr (.inr (none, μ))) else none
    | _ => none
  | _ => none
def stp (sh : List (Nat × Nat × List Nat)) (y pc : Nat) (lv : List (Option Value)) (st : List Value) (μ : mm) : Option mR := match ins y pc with
  | some i => ex sh y pc lv st μ i
  | none => none
def run (sh : List (Nat × Nat × List Nat)) : Nat → Nat → Nat → List (Option Value) → List Value → mm → Option (Option Value × mm)
  | 0, _, _, _, _, _ => none
  | n + 1, y, pc, lv, st, μ => match stp sh y pc lv st μ with
    | none => none
    | some (.inl (pc', lv', st', μ')) => run sh n y pc' lv' st' μ'
    | some (.inr (.inl (z, as, pc', lv', st', μ'))) => (match run sh n z 0 (ent as) [] μ' with
      | none => none
      | some (v, μ2) => run sh n y pc' lv' (v.toList ++ st') μ2)
    | some (.inr (.inr r)) => some r
