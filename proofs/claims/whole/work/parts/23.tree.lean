/-! THE CODE AS LISTS: what a stretch of code does, up to the next cut, with links and constants looked up once and for all. A node is an instruction's name (what stands in it is read anew) and numbers; behind a branch stand first the nodes of the way on, as many as it says, then those of the jump -/
abbrev zP : Type := Instr × (Nat × Nat × Nat × Nat)
noncomputable def zcl (kd mj : Nat) (as : List Value) (σ : zM) (ls : zLs) (r : List Value) (k : zLs → List Value → zM → Option zR) : Option zR := match kd with
  | 0 => zbV (zcall mj as σ) (fun τ => k ls r τ)
  | 1 => zbI (zcall mj as σ) (fun v τ => k ls (.int v :: r) τ)
  | _ => zbJ (zcall mj as σ) (fun v τ => k ls (.long v :: r) τ)
def zrow (a : Nat) : Bool := match zsh[a]? with
  | some q => decide (100 ≤ q.1)
  | none => false
def zlng (a : Nat) : Nat := match zsh[a]? with
  | some q => q.2
  | none => 0
/-- what is written gets a name -/
def zlet (τ : zM) (f : zM → Option zR) : Option zR := f τ
/-- 0: the condition stands fast and goes away of itself -/
def zcb (f : Nat) (b : Bool) (A : Option zR) : Option zR := match f with
  | 0 => match b with
    | true => A
    | false => none
  | _ => cond b A none
theorem zcb_ite {f : Nat} {b : Bool} {A : Option zR} : zcb f b A = if b = true then A else none := by
  cases f <;> cases b <;> rfl
noncomputable def zopK (o : Instr) (d : Nat × Nat × Nat × Nat) (ls : zLs) (st : List Value) (σ : zM) (k : zLs → List Value → zM → Option zR) : Option zR := match o with
  | .iconst n => k ls (.int (Int32.ofInt n) :: st) σ
  | .goto_w n => k ls (.long (Int64.ofInt n) :: st) σ
  | .ldc n => k ls (.ref n :: st) σ
  | .iload i => match ls[i]? with
    | some (some (.int x)) => k ls (.int x :: st) σ
    | _ => none
  | .lload i => match ls[i]? with
    | some (some (.long x)) => k ls (.long x :: st) σ
    | _ => none
  | .aload i => match ls[i]? with
    | some (some (.ref x)) => k ls (.ref x :: st) σ
    | _ => none
  | .istore i => match st, ls[i]? with
    | .int x :: r, some _ => k (zp1 ls i (.int x)) r σ
    | _, _ => none
  | .lstore i => match st, ls[i + 1]? with
    | .long x :: r, some _ => k (zp2 ls i (.long x)) r σ
    | _, _ => none
  | .astore i => match st, ls[i]? with
    | .ref x :: r, some _ => k (zp1 ls i (.ref x)) r σ
    | _, _ => none
  | .iinc i n => match ls[i]? with
    | some (some (.int x)) => k (zp1 ls i (.int (x + Int32.ofInt n))) st σ
    | _ => none
  | .iadd => match st with
    | .int y :: .int x :: r => k ls (.int (x + y) :: r) σ
    | _ => none
  | .isub => match st with
    | .int y :: .int x :: r => k ls (.int (x - y) :: r) σ
    | _ => none
  | .imul => match st with
    | .int y :: .int x :: r => k ls (.int (x * y) :: r) σ
    | _ => none
  | .iand => match st with
    | .int y :: .int x :: r => k ls (.int (x &&& y) :: r) σ
    | _ => none
  | .ior => match st with
    | .int y :: .int x :: r => k ls (.int (x ||| y) :: r) σ
    | _ => none
  | .ixor => match st with
    | .int y :: .int x :: r => k ls (.int (x ^^^ y) :: r) σ
    | _ => none
  | .ishl => match st with
    | .int y :: .int x :: r => k ls (.int (x <<< (y &&& 31)) :: r) σ
    | _ => none
  | .ishr => match st with
    | .int y :: .int x :: r => k ls (.int (x >>> (y &&& 31)) :: r) σ
    | _ => none
  | .ladd => match st with
    | .long y :: .long x :: r => k ls (.long (x + y) :: r) σ
    | _ => none
  | .lsub => match st with
    | .long y :: .long x :: r => k ls (.long (x - y) :: r) σ
    | _ => none
  | .lmul => match st with
    | .long y :: .long x :: r => k ls (.long (x * y) :: r) σ
    | _ => none
  | .land => match st with
    | .long y :: .long x :: r => k ls (.long (x &&& y) :: r) σ
    | _ => none
  | .lor => match st with
    | .long y :: .long x :: r => k ls (.long (x ||| y) :: r) σ
    | _ => none
  | .idiv => match st with
    | .int y :: .int x :: r => if y = 0 then none else k ls (.int (x / y) :: r) σ
    | _ => none
  | .irem => match st with
    | .int y :: .int x :: r => if y = 0 then none else k ls (.int (x - x / y * y) :: r) σ
    | _ => none
  | .ldiv => match st with
    | .long y :: .long x :: r => if y = 0 then none else k ls (.long (x / y) :: r) σ
    | _ => none
  | .lrem => match st with
    | .long y :: .long x :: r => if y = 0 then none else k ls (.long (x - x / y * y) :: r) σ
    | _ => none
  | .lshl => match st with
    | .int y :: .long x :: r => k ls (.long (x <<< (y.toInt64 &&& 63)) :: r) σ
    | _ => none
  | .lshr => match st with
    | .int y :: .long x :: r => k ls (.long (x >>> (y.toInt64 &&& 63)) :: r) σ
    | _ => none
  | .lcmp => match st with
    | .long y :: .long x :: r => k ls (.int (lg_cmp x y) :: r) σ
    | _ => none
  | .i2l => match st with
    | .int x :: r => k ls (.long x.toInt64 :: r) σ
    | _ => none
  | .l2i => match st with
    | .long x :: r => k ls (.int x.toInt32 :: r) σ
    | _ => none
  | .i2b => match st with
    | .int x :: r => k ls (.int x.toInt8.toInt32 :: r) σ
    | _ => none
  | .i2s => match st with
    | .int x :: r => k ls (.int x.toInt16.toInt32 :: r) σ
    | _ => none
  | .dup => match st with
    | .int x :: r => k ls (.int x :: .int x :: r) σ
    | .ref x :: r => k ls (.ref x :: .ref x :: r) σ
    | _ => none
  | .dup2 => match st with
    | .int x :: .ref y :: r => k ls (.int x :: .ref y :: .int x :: .ref y :: r) σ
    | _ => none
  | .pop => match st with
    | .int _ :: r => k ls r σ
    | _ => none
  | .getfield c => match st with
    | .ref a :: r => zcb d.2.2.2 (zobj a c) (match d.1 with
        | 0 => k ls (.int (zI σ a d.2.1) :: r) σ
        | 1 => k ls (.long (zJ σ a d.2.1) :: r) σ
        | 2 => k ls (.ref (a + d.2.1) :: r) σ
        | _ => k ls (.ref d.2.1 :: r) σ)
    | _ => none
  | .putfield c => match d.1 with
    | 0 => match st with
      | .int x :: .ref a :: r => zcb d.2.2.2 (zobj a c) (zlet (zsI σ a d.2.1 x) (fun τ => k ls r τ))
      | _ => none
    | 1 => match st with
      | .long x :: .ref a :: r => zcb d.2.2.2 (zobj a c) (zlet (zsJ σ a d.2.1 x) (fun τ => k ls r τ))
      | _ => none
    | _ => match st with
      | .int x :: .ref a :: r => zcb d.2.2.2 (zobj a c) (if vp_nar .boolean x = x then zlet (zsI σ a d.2.1 x) (fun τ => k ls r τ) else none)
      | _ => none
  | .arraylength => match st with
    | .ref a :: r => match d.1 with
      | 1 => zcb 0 (decide (a = 2000000)) (k ls (.int (Int32.ofNat σ.2.2.1) :: r) σ)
      | _ => zcb d.2.2.2 (zrow a) (k ls (.int (Int32.ofNat (zlng a)) :: r) σ)
    | _ => none
  | .iaload => match st with
    | .int i :: .ref a :: r => match d.1 with
      | 1 => zcb 0 (decide (a = 2000000)) (cond (decide (0 ≤ i) && decide (i.toNatClampNeg < σ.2.2.1)) (k ls (.int (σ.2.2.2 i.toNatClampNeg) :: r) σ) none)
      | _ => cond (zarr a 100 i) (k ls (.int (zI σ a i.toNatClampNeg) :: r) σ) none
    | _ => none
  | .baload => match st with
    | .int i :: .ref a :: r => match d.1 with
      | 0 => cond (zarr a 101 i) (k ls (.int (zI σ a i.toNatClampNeg) :: r) σ) none
      | _ => cond (zarr a 102 i) (k ls (.int (zI σ a i.toNatClampNeg) :: r) σ) none
    | _ => none
  | .laload => match st with
    | .int i :: .ref a :: r => cond (zarr a 103 i) (k ls (.long (zJ σ a i.toNatClampNeg) :: r) σ) none
    | _ => none
  | .aaload => match st with
    | .int i :: .ref a :: r => cond (zarr a d.1 i) (k ls (.ref (zel d.1 a i.toNatClampNeg) :: r) σ) none
    | _ => none
  | .iastore => match st with
    | .int x :: .int i :: .ref a :: r => cond (zarr a 100 i) (zlet (zsI σ a i.toNatClampNeg x) (fun τ => k ls r τ)) none
    | _ => none
  | .bastore => match st with
    | .int x :: .int i :: .ref a :: r => match d.1 with
      | 0 => cond (zarr a 101 i) (zlet (zsI σ a i.toNatClampNeg (vp_nar .byte x)) (fun τ => k ls r τ)) none
      | _ => cond (zarr a 102 i) (zlet (zsI σ a i.toNatClampNeg (vp_nar .boolean x)) (fun τ => k ls r τ)) none
    | _ => none
  | .lastore => match st with
    | .long x :: .int i :: .ref a :: r => cond (zarr a 103 i) (zlet (zsJ σ a i.toNatClampNeg x) (fun τ => k ls r τ)) none
    | _ => none
  | .invokevirtual mj => match (st.take d.2.1).reverse with
    | .ref o :: as => zcb 0 (decide (as.length + 1 = d.2.1)) (zcb 0 (zwt (st.drop d.2.1)) (zcb d.2.2.2 (zobj o d.2.2.1) (zcl d.1 mj (.ref o :: as) σ ls (st.drop d.2.1) k)))
    | _ => none
  | .invokestatic mj => zcb 0 (decide ((st.take d.2.1).length = d.2.1)) (zcb 0 (zwt (st.drop d.2.1)) (zcl d.1 mj (st.take d.2.1).reverse σ ls (st.drop d.2.1) k))
  | .invokespecial p => match p, st with
    | 4, .int y :: .int x :: r => zcb 0 (zwt r) (k ls (.int (if y < x then y else x) :: r) σ)
    | 5, .int y :: .int x :: r => zcb 0 (zwt r) (k ls (.int (if x < y then y else x) :: r) σ)
    | 6, .int n :: .int dp :: .ref a :: .int sp :: .ref b :: r => zcb 0 (zwt r) (cond (zseg b 100 sp n && zseg a 100 dp n) (zlet (zcI σ b sp.toNatClampNeg a dp.toNatClampNeg n.toNatClampNeg) (fun τ => k ls r τ)) none)
    | 7, .ref a :: r => zcb 0 (zwt r) (cond (decide (1000000 ≤ a) && decide (a < 1000000 + zstr.length)) (k ls (.int (nI (zstr.getD (a - 1000000) []).length) :: r) σ) none)
    | 8, .int i :: .ref a :: r => zcb 0 (zwt r) (cond (decide (1000000 ≤ a) && decide (a < 1000000 + zstr.length) && decide (0 ≤ i) && decide (i.toNatClampNeg < (zstr.getD (a - 1000000) []).length)) (k ls (.int ((zstr.getD (a - 1000000) []).getD i.toNatClampNeg 0) :: r) σ) none)
    | 9, .int n :: .int dp :: .ref a :: .int sp :: .ref b :: r => zcb 0 (zwt r) (cond (zseg b 103 sp n && zseg a 103 dp n) (zlet (zcJ σ b sp.toNatClampNeg a dp.toNatClampNeg n.toNatClampNeg) (fun τ => k ls r τ)) none)
    | _, _ => none
  | _ => none
def zck (c : ClassFile.Cond) (x y : Int32) (A B : Option zR) : Option zR := match c with
  | .eq => if x = y then A else B
  | .ne => if ¬ x = y then A else B
  | .lt => if x < y then A else B
  | .ge => if y ≤ x then A else B
  | .gt => if y < x then A else B
  | .le => if x ≤ y then A else B
/-- the places that are kept at a cut, as a number's bits -/
def zmN : Nat → zLs → zLs
  | _, [] => []
  | n, v :: l => (match n % 2 with
    | 1 => v
    | _ => none) :: zmN (n / 2) l
noncomputable def zevT (mi : Nat) : Nat → List zP → zLs → List Value → zM → Option zR
  | 0 => fun _ _ _ _ => none
  | n + 1 => fun t ls st σ => match t with
    | [] => none
    | o :: t => match o.1 with
      | .if_icmp c _ => match st with
        | .int y :: .int x :: r => zck c x y (zevT mi n (t.drop o.2.1) ls r σ) (zevT mi n t ls r σ)
        | _ => none
      | .ifCond c _ => match st with
        | .int x :: r => zck c x 0 (zevT mi n (t.drop o.2.1) ls r σ) (zevT mi n t ls r σ)
        | _ => none
      | .goto v => match st with
        | .int x :: r => if x = Int32.ofInt v then zevT mi n t ls r σ else zevT mi n (t.drop o.2.1) ls (.int x :: r) σ
        | _ => none
      | .nop => match st with
        | .int _ :: r => zevT mi n t ls r σ
        | _ => none
      | .ldc_w pc => match decide (ls.length = o.2.2.1) with
        | true => zev mi pc (zmN o.2.1 ls) st σ
        | false => none
      | .ireturn => match st with
        | [.int v] => match o.2.1 with
          | 0 => some (some (.int v), σ)
          | _ => if vp_nar .boolean v = v then some (some (.int v), σ) else none
        | _ => none
      | .lreturn => match st with
        | [.long v] => some (some (.long v), σ)
        | _ => none
      | .return_ => match st with
        | [] => some (none, σ)
        | _ => none
      | i => zopK i o.2 ls st σ (fun ls st σ => zevT mi n t ls st σ)
/-! the check -/
def zinc (i : Instr) : Nat := match i with
  | .bipush _ => 2
  | .ldc _ => 2
  | .iload _ => 2
  | .lload _ => 2
  | .aload _ => 2
  | .istore _ => 2
  | .lstore _ => 2
  | .astore _ => 2
  | .sipush _ => 3
  | .ldc_w _ => 3
  | .ldc2_w _ => 3
  | .iinc _ _ => 3
  | .getfield _ => 3
  | .putfield _ => 3
  | .invokevirtual _ => 3
  | .invokestatic _ => 3
  | _ => 1
def zretk (mj kd : Nat) : Bool := match zRet mj with
  | none => decide (kd = 0)
  | some .long => decide (kd = 2)
  | some _ => decide (kd = 1)
def zldcK (mi ix : Nat) (o : Instr) : Bool := match zLk (zKI (zOC mi)) ix with
  | some v => match o with
    | .iconst n => decide (n = v.1)
    | _ => false
  | none => match zLk (zKS (zOC mi)) ix with
    | some v => match o with
      | .ldc n => decide (n = 1000000 + v.1)
      | _ => false
    | none => false
def zcallK (mi ix : Nat) (o : Instr) (d : Nat × Nat × Nat × Nat) : Bool := match zLk (zMK (zOC mi)) ix with
  | some e => match o with
    | .invokevirtual mj => decide (e.1 = 0) && (decide (e.2.1 = mj) && (zroom mi mj && (!(zST mj) && (decide ((zY mj).name ≠ "<init>") && (decide (mj < 282) && (decide (zNA mj = d.2.1) && (decide (zOC mj = d.2.2.1) && zretk mj d.1)))))))
    | .invokespecial p => decide (p = e.1) && (decide (p = 7) && zroomP mi 2 32 || decide (p = 8) && zroomP mi 5 101)
    | _ => false
  | none => false
def zcallS (mi ix : Nat) (o : Instr) (d : Nat × Nat × Nat × Nat) : Bool := match zLk (zMK (zOC mi)) ix with
  | some e => match o with
    | .invokestatic mj => decide (e.1 = 1) && (decide (e.2.1 = mj) && (zroom mi mj && (zST mj && (decide (mj < 282) && (decide (zNA mj = d.2.1) && zretk mj d.1)))))
    | .invokespecial p => decide (p = 4 ∧ e.1 = 4) && zroomP mi 1 13 || decide (p = 5 ∧ e.1 = 5) && zroomP mi 1 13 || decide (p = 6 ∧ e.1 = 6) && zroomP mi 1 18 || decide (p = 9 ∧ e.1 = 6) && zroomP mi 1 18
    | _ => false
  | none => false
def zgfK (mi ix : Nat) (o : Instr) (d : Nat × Nat × Nat × Nat) : Bool := match zLk (zFL (zOC mi)) ix with
  | some e => match o with
    | .getfield c => decide (e.1 = c) && (match d.1 with
      | 0 => decide (e.2.1 = d.2.1) && decide (zfty c d.2.1 = 0 ∨ zfty c d.2.1 = 3)
      | 1 => decide (e.2.1 = d.2.1) && decide (zfty c d.2.1 = 1)
      | 2 => decide (zfty c e.2.1 = 2) && decide ((zrfT.getD c []).getD e.2.1 (false, 0) = (true, d.2.1))
      | _ => decide (zfty c e.2.1 = 2) && decide ((zrfT.getD c []).getD e.2.1 (false, 0) = (false, d.2.1)))
    | _ => false
  | none => false
def zpfK (mi ix : Nat) (o : Instr) (d : Nat × Nat × Nat × Nat) : Bool := match zLk (zFL (zOC mi)) ix with
  | some e => match o with
    | .putfield c => decide (e.1 = c) && (decide (e.2.1 = d.2.1) && ((match zCl[c]? with
      | some q => !(q.2.1 d.2.1).2.2.2
      | none => false) && (match d.1 with
      | 0 => decide (zfty c d.2.1 = 0)
      | 1 => decide (zfty c d.2.1 = 1)
      | _ => decide (zfty c d.2.1 = 3))))
    | _ => false
  | none => false
def zokop (mi : Nat) (i o : Instr) (d : Nat × Nat × Nat × Nat) : Bool := match i with
  | .iconst n => match o with
    | .iconst m => decide (m = n)
    | _ => false
  | .bipush n => match o with
    | .iconst m => decide ((Int8.ofInt n).toInt32 = Int32.ofInt m)
    | _ => false
  | .sipush n => match o with
    | .iconst m => decide ((Int16.ofInt n).toInt32 = Int32.ofInt m)
    | _ => false
  | .lconst n => match o with
    | .goto_w m => decide (Int64.ofNat (n : Nat) = Int64.ofInt m)
    | _ => false
  | .ldc ix => zldcK mi ix o
  | .ldc_w ix => zldcK mi ix o
  | .ldc2_w ix => match zLk (zKJ (zOC mi)) ix with
    | some v => match o with
      | .goto_w m => decide (m = v.1)
      | _ => false
    | none => false
  | .iload_n k => match o with
    | .iload j => decide (j = (k : Nat))
    | _ => false
  | .iload k => match o with
    | .iload j => decide (j = k)
    | _ => false
  | .istore_n k => match o with
    | .istore j => decide (j = (k : Nat))
    | _ => false
  | .istore k => match o with
    | .istore j => decide (j = k)
    | _ => false
  | .lload_n k => match o with
    | .lload j => decide (j = (k : Nat))
    | _ => false
  | .lload k => match o with
    | .lload j => decide (j = k)
    | _ => false
  | .lstore_n k => match o with
    | .lstore j => decide (j = (k : Nat))
    | _ => false
  | .lstore k => match o with
    | .lstore j => decide (j = k)
    | _ => false
  | .aload_n k => match o with
    | .aload j => decide (j = (k : Nat))
    | _ => false
  | .aload k => match o with
    | .aload j => decide (j = k)
    | _ => false
  | .astore_n k => match o with
    | .astore j => decide (j = (k : Nat))
    | _ => false
  | .astore k => match o with
    | .astore j => decide (j = k)
    | _ => false
  | .iinc k n => match o with
    | .iinc j m => decide (j = k ∧ m = n)
    | _ => false
  | .iadd => match o with
    | .iadd => true
    | _ => false
  | .isub => match o with
    | .isub => true
    | _ => false
  | .imul => match o with
    | .imul => true
    | _ => false
  | .iand => match o with
    | .iand => true
    | _ => false
  | .ior => match o with
    | .ior => true
    | _ => false
  | .ixor => match o with
    | .ixor => true
    | _ => false
  | .ishl => match o with
    | .ishl => true
    | _ => false
  | .ishr => match o with
    | .ishr => true
    | _ => false
  | .idiv => match o with
    | .idiv => true
    | _ => false
  | .irem => match o with
    | .irem => true
    | _ => false
  | .ladd => match o with
    | .ladd => true
    | _ => false
  | .lsub => match o with
    | .lsub => true
    | _ => false
  | .lmul => match o with
    | .lmul => true
    | _ => false
  | .land => match o with
    | .land => true
    | _ => false
  | .lor => match o with
    | .lor => true
    | _ => false
  | .ldiv => match o with
    | .ldiv => true
    | _ => false
  | .lrem => match o with
    | .lrem => true
    | _ => false
  | .lshl => match o with
    | .lshl => true
    | _ => false
  | .lshr => match o with
    | .lshr => true
    | _ => false
  | .lcmp => match o with
    | .lcmp => true
    | _ => false
  | .i2l => match o with
    | .i2l => true
    | _ => false
  | .l2i => match o with
    | .l2i => true
    | _ => false
  | .i2b => match o with
    | .i2b => true
    | _ => false
  | .i2s => match o with
    | .i2s => true
    | _ => false
  | .dup => match o with
    | .dup => true
    | _ => false
  | .dup2 => match o with
    | .dup2 => true
    | _ => false
  | .pop => match o with
    | .pop => true
    | _ => false
  | .arraylength => match o with
    | .arraylength => true
    | _ => false
  | .iaload => match o with
    | .iaload => true
    | _ => false
  | .baload => match o with
    | .baload => true
    | _ => false
  | .laload => match o with
    | .laload => true
    | _ => false
  | .iastore => match o with
    | .iastore => true
    | _ => false
  | .bastore => match o with
    | .bastore => true
    | _ => false
  | .lastore => match o with
    | .lastore => true
    | _ => false
  | .aaload => match o with
    | .aaload => decide (104 ≤ d.1) && decide (d.1 ≤ 108)
    | _ => false
  | .getfield ix => zgfK mi ix o d
  | .putfield ix => zpfK mi ix o d
  | .invokevirtual ix => zcallK mi ix o d
  | .invokestatic ix => zcallS mi ix o d
  | _ => false
