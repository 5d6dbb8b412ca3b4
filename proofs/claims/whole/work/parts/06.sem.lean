/-! THE ABSTRACT MACHINE: the methods' own instructions over a memory of numbers; the objects' places are fixed (05), so no reference is ever written -/
abbrev zM : Type := (Nat → Nat → Int32) × (Nat → Nat → Int64) × (Nat × (Nat → Int32))
abbrev zLs : Type := List (Option Value)
abbrev zR : Type := Option Value × zM
abbrev zO : Type := (List (Bool × Nat) × Nat × zLs × List Value × zM) ⊕ ((Nat × List Value × Nat × zLs × List Value × zM) ⊕ zR)
def zI (σ : zM) (k j : Nat) : Int32 := σ.1 k j
def zJ (σ : zM) (k j : Nat) : Int64 := σ.2.1 k j
def zsI (σ : zM) (k j : Nat) (v : Int32) : zM := (fun a b => if a = k ∧ b = j then v else σ.1 a b, σ.2)
def zsJ (σ : zM) (k j : Nat) (v : Int64) : zM := (σ.1, fun a b => if a = k ∧ b = j then v else σ.2.1 a b, σ.2.2)
/-- n numbers of the row k from sp on to the row q from dp on -/
def zcI (σ : zM) (k sp q dp n : Nat) : zM := (fun a b => if a = q ∧ dp ≤ b ∧ b < dp + n then σ.1 k (sp + (b - dp)) else σ.1 a b, σ.2)
def zcJ (σ : zM) (k sp q dp n : Nat) : zM := (σ.1, fun a b => if a = q ∧ dp ≤ b ∧ b < dp + n then σ.2.1 k (sp + (b - dp)) else σ.2.1 a b, σ.2.2)
/-- is an object of the class ci -/
def zobj (a ci : Nat) : Bool := match zsh[a]? with
  | some q => q.1 == ci && decide (ci < 100)
  | none => false
/-- is a row of that tag, with a place i -/
def zarr (a t : Nat) (i : Int32) : Bool := match zsh[a]? with
  | some q => q.1 == t && (decide (0 ≤ i) && decide (i.toNatClampNeg < q.2))
  | none => false
/-- is a row of that tag, with n numbers from p on -/
def zseg (a t : Nat) (p n : Int32) : Bool := match zsh[a]? with
  | some q => q.1 == t && (decide (0 ≤ p) && (decide (0 ≤ n) && decide (p.toNatClampNeg + n.toNatClampNeg ≤ q.2)))
  | none => false
def zfty (ci k : Nat) : Nat := match zTy ci k with
  | .int => 0
  | .long => 1
  | .boolean => 3
  | _ => 2
def zrf (ci k a : Nat) : Nat := match (zrfT.getD ci []).getD k (false, 0) with
  | (true, o) => a + o
  | (false, c) => c
def zval (σ : zM) (ci k a : Nat) : Value := match zfty ci k with
  | 0 => .int (zI σ a k)
  | 3 => .int (zI σ a k)
  | 1 => .long (zJ σ a k)
  | _ => .ref (zrf ci k a)
/-- a store ends a long that began one ahead -/
def zclr (ls : zLs) (i : Nat) : zLs := match i with
  | 0 => ls
  | j + 1 => match ls[j]? with
    | some (some v) => if v.category = 2 then ls.set j none else ls
    | _ => ls
def zp1 (ls : zLs) (i : Nat) (v : Value) : zLs := (zclr ls i).set i (some v)
def zp2 (ls : zLs) (i : Nat) (v : Value) : zLs := ((zclr ls i).set (i + 1) none).set i (some v)
def znx (pc : Nat) (ls : zLs) (st : List Value) (σ : zM) : Option zO := some (.inl ([], pc, ls, st, σ))
def ztg (pc : Nat) (off : Int) : Nat := ((pc : Int) + off).toNat
def zto (pc : Nat) (off : Int) : Bool := decide (0 ≤ (pc : Int) + off)
def zbr (c : Bool) (pc : Nat) (off : Int) (ls : zLs) (st : List Value) (σ : zM) : Option zO := if zto pc off = true then some (.inl ([(c, ztg pc off)], pc + 3, ls, st, σ)) else none
def zldI (ls : zLs) (i pc : Nat) (st : List Value) (σ : zM) : Option zO := match ls[i]? with
  | some (some (.int x)) => znx pc ls (.int x :: st) σ
  | _ => none
def zldJ (ls : zLs) (i pc : Nat) (st : List Value) (σ : zM) : Option zO := match ls[i]? with
  | some (some (.long x)) => znx pc ls (.long x :: st) σ
  | _ => none
def zldA (ls : zLs) (i pc : Nat) (st : List Value) (σ : zM) : Option zO := match ls[i]? with
  | some (some (.ref x)) => znx pc ls (.ref x :: st) σ
  | _ => none
def zstI (ls : zLs) (i pc : Nat) (st : List Value) (σ : zM) : Option zO := match st with
  | .int x :: r => if i < ls.length then znx pc (zp1 ls i (.int x)) r σ else none
  | _ => none
def zstJ (ls : zLs) (i pc : Nat) (st : List Value) (σ : zM) : Option zO := match st with
  | .long x :: r => if i + 1 < ls.length then znx pc (zp2 ls i (.long x)) r σ else none
  | _ => none
def zstA (ls : zLs) (i pc : Nat) (st : List Value) (σ : zM) : Option zO := match st with
  | .ref x :: r => if i < ls.length then znx pc (zp1 ls i (.ref x)) r σ else none
  | _ => none
def zbi (f : Int32 → Int32 → Int32) (pc : Nat) (ls : zLs) (st : List Value) (σ : zM) : Option zO := match st with
  | .int y :: .int x :: r => znx (pc + 1) ls (.int (f x y) :: r) σ
  | _ => none
def zbj (f : Int64 → Int64 → Int64) (pc : Nat) (ls : zLs) (st : List Value) (σ : zM) : Option zO := match st with
  | .long y :: .long x :: r => znx (pc + 1) ls (.long (f x y) :: r) σ
  | _ => none
def zif (c : Int32 → Bool) (pc : Nat) (off : Int) (ls : zLs) (st : List Value) (σ : zM) : Option zO := match st with
  | .int x :: r => zbr (c x) pc off ls r σ
  | _ => none
def zic (c : Int32 → Int32 → Bool) (pc : Nat) (off : Int) (ls : zLs) (st : List Value) (σ : zM) : Option zO := match st with
  | .int y :: .int x :: r => zbr (c x y) pc off ls r σ
  | _ => none
def zroom (mi mj : Nat) : Bool := decide (zFr mj + 1 ≤ zFr mi) && decide (8 + (zML mj + 11) + zLo mj ≤ zLo mi)
def zroomP (mi f n : Nat) : Bool := decide (f ≤ zFr mi) && decide (8 + n ≤ zLo mi)
def zwt (st : List Value) : Bool := decide ((st.map fun v => v.category).sum ≤ 8)
/-- the JDK's own that the code calls -/
def zprim (kind mi pc : Nat) (ls : zLs) (st : List Value) (σ : zM) : Option zO := match kind, st with
  | 4, .int y :: .int x :: r => if (zroomP mi 1 13 && zwt r) = true then znx (pc + 3) ls (.int (if y < x then y else x) :: r) σ else none
  | 5, .int y :: .int x :: r => if (zroomP mi 1 13 && zwt r) = true then znx (pc + 3) ls (.int (if x < y then y else x) :: r) σ else none
  | 6, .int n :: .int dp :: .ref a :: .int sp :: .ref b :: r =>
    if (zroomP mi 1 18 && zwt r) = true then
      if (zseg b 100 sp n && zseg a 100 dp n) = true then znx (pc + 3) ls r (zcI σ b sp.toNatClampNeg a dp.toNatClampNeg n.toNatClampNeg)
      else if (zseg b 103 sp n && zseg a 103 dp n) = true then znx (pc + 3) ls r (zcJ σ b sp.toNatClampNeg a dp.toNatClampNeg n.toNatClampNeg)
      else none
    else none
  | 7, .ref a :: r => if (zroomP mi 2 32 && zwt r) = true then
      if (decide (1000000 ≤ a) && decide (a < 1000000 + zstr.length)) = true then znx (pc + 3) ls (.int (nI (zstr.getD (a - 1000000) []).length) :: r) σ else none
    else none
  | 8, .int i :: .ref a :: r => if (zroomP mi 5 101 && zwt r) = true then
      if (decide (1000000 ≤ a) && decide (a < 1000000 + zstr.length) && decide (0 ≤ i) && decide (i.toNatClampNeg < (zstr.getD (a - 1000000) []).length)) = true then znx (pc + 3) ls (.int ((zstr.getD (a - 1000000) []).getD i.toNatClampNeg 0) :: r) σ else none
    else none
  | _, _ => none
def zgets (o : Option Value) : Bool := match o with
  | some _ => true
  | none => false
/-- one instruction -/
def zex (mi pc : Nat) (i : Instr) (ls : zLs) (st : List Value) (σ : zM) : Option zO := match i with
  | .iconst n => znx (pc + 1) ls (.int (Int32.ofInt n) :: st) σ
  | .bipush n => znx (pc + 2) ls (.int (Int8.ofInt n).toInt32 :: st) σ
  | .sipush n => znx (pc + 3) ls (.int (Int16.ofInt n).toInt32 :: st) σ
  | .lconst n => znx (pc + 1) ls (.long (Int64.ofNat (n : Nat)) :: st) σ
  | .ldc ix => match zLk (zKI (zOC mi)) ix with
    | some v => znx (pc + 2) ls (.int (Int32.ofInt v.1) :: st) σ
    | none => match zLk (zKS (zOC mi)) ix with
      | some v => znx (pc + 2) ls (.ref (1000000 + v.1) :: st) σ
      | none => none
  | .ldc_w ix => match zLk (zKI (zOC mi)) ix with
    | some v => znx (pc + 3) ls (.int (Int32.ofInt v.1) :: st) σ
    | none => match zLk (zKS (zOC mi)) ix with
      | some v => znx (pc + 3) ls (.ref (1000000 + v.1) :: st) σ
      | none => none
  | .ldc2_w ix => match zLk (zKJ (zOC mi)) ix with
    | some v => znx (pc + 3) ls (.long (Int64.ofInt v.1) :: st) σ
    | none => none
  | .iload_n k => zldI ls k (pc + 1) st σ
  | .iload k => zldI ls k (pc + 2) st σ
  | .lload_n k => zldJ ls k (pc + 1) st σ
  | .lload k => zldJ ls k (pc + 2) st σ
  | .aload_n k => zldA ls k (pc + 1) st σ
  | .aload k => zldA ls k (pc + 2) st σ
  | .istore_n k => zstI ls k (pc + 1) st σ
  | .istore k => zstI ls k (pc + 2) st σ
  | .lstore_n k => zstJ ls k (pc + 1) st σ
  | .lstore k => zstJ ls k (pc + 2) st σ
  | .astore_n k => zstA ls k (pc + 1) st σ
  | .astore k => zstA ls k (pc + 2) st σ
  | .iinc k n => match ls[k]? with
    | some (some (.int x)) => znx (pc + 3) (zp1 ls k (.int (x + Int32.ofInt n))) st σ
    | _ => none
  | .iadd => zbi (fun x y => x + y) pc ls st σ
  | .isub => zbi (fun x y => x - y) pc ls st σ
  | .imul => zbi (fun x y => x * y) pc ls st σ
  | .iand => zbi (fun x y => x &&& y) pc ls st σ
  | .ior => zbi (fun x y => x ||| y) pc ls st σ
  | .ixor => zbi (fun x y => x ^^^ y) pc ls st σ
  | .ishl => zbi (fun x y => x <<< (y &&& 31)) pc ls st σ
  | .ishr => zbi (fun x y => x >>> (y &&& 31)) pc ls st σ
  | .idiv => match st with
    | .int y :: .int x :: r => if y = 0 then none else znx (pc + 1) ls (.int (x / y) :: r) σ
    | _ => none
  | .irem => match st with
    | .int y :: .int x :: r => if y = 0 then none else znx (pc + 1) ls (.int (x - x / y * y) :: r) σ
    | _ => none
  | .ladd => zbj (fun x y => x + y) pc ls st σ
  | .lsub => zbj (fun x y => x - y) pc ls st σ
  | .lmul => zbj (fun x y => x * y) pc ls st σ
  | .land => zbj (fun x y => x &&& y) pc ls st σ
  | .lor => zbj (fun x y => x ||| y) pc ls st σ
  | .ldiv => match st with
    | .long y :: .long x :: r => if y = 0 then none else znx (pc + 1) ls (.long (x / y) :: r) σ
    | _ => none
  | .lrem => match st with
    | .long y :: .long x :: r => if y = 0 then none else znx (pc + 1) ls (.long (x - x / y * y) :: r) σ
    | _ => none
  | .lshl => match st with
    | .int y :: .long x :: r => znx (pc + 1) ls (.long (x <<< (y.toInt64 &&& 63)) :: r) σ
    | _ => none
  | .lshr => match st with
    | .int y :: .long x :: r => znx (pc + 1) ls (.long (x >>> (y.toInt64 &&& 63)) :: r) σ
    | _ => none
  | .lcmp => match st with
    | .long y :: .long x :: r => znx (pc + 1) ls (.int (lg_cmp x y) :: r) σ
    | _ => none
  | .i2l => match st with
    | .int x :: r => znx (pc + 1) ls (.long x.toInt64 :: r) σ
    | _ => none
  | .l2i => match st with
    | .long x :: r => znx (pc + 1) ls (.int x.toInt32 :: r) σ
    | _ => none
  | .i2b => match st with
    | .int x :: r => znx (pc + 1) ls (.int x.toInt8.toInt32 :: r) σ
    | _ => none
  | .i2s => match st with
    | .int x :: r => znx (pc + 1) ls (.int x.toInt16.toInt32 :: r) σ
    | _ => none
  | .dup => match st with
    | v :: r => if v.category = 1 then znx (pc + 1) ls (v :: v :: r) σ else none
    | _ => none
  | .dup2 => match st with
    | v :: w :: r => if v.category = 1 ∧ w.category = 1 then znx (pc + 1) ls (v :: w :: v :: w :: r) σ else none
    | _ => none
  | .pop => match st with
    | v :: r => if v.category = 1 then znx (pc + 1) ls r σ else none
    | _ => none
  | .ifCond .eq off => zif (fun x => decide (x = 0)) pc off ls st σ
  | .ifCond .ne off => zif (fun x => decide (¬ x = 0)) pc off ls st σ
  | .ifCond .lt off => zif (fun x => decide (x < 0)) pc off ls st σ
  | .ifCond .ge off => zif (fun x => decide (0 ≤ x)) pc off ls st σ
  | .ifCond .gt off => zif (fun x => decide (0 < x)) pc off ls st σ
  | .ifCond .le off => zif (fun x => decide (x ≤ 0)) pc off ls st σ
  | .if_icmp .eq off => zic (fun x y => decide (x = y)) pc off ls st σ
  | .if_icmp .ne off => zic (fun x y => decide (¬ x = y)) pc off ls st σ
  | .if_icmp .lt off => zic (fun x y => decide (x < y)) pc off ls st σ
  | .if_icmp .ge off => zic (fun x y => decide (y ≤ x)) pc off ls st σ
  | .if_icmp .gt off => zic (fun x y => decide (y < x)) pc off ls st σ
  | .if_icmp .le off => zic (fun x y => decide (x ≤ y)) pc off ls st σ
  | .goto off => if zto pc off = true then znx (ztg pc off) ls st σ else none
  | .tableswitch dflt lo hi offs => match st with
    | .int x :: r => if (zto pc dflt && offs.toList.all (fun o => zto pc o) && decide (hi + 1 = lo + offs.toList.length)) = true then
        some (.inl ((List.range offs.toList.length).map (fun (j : Nat) => (decide (x.toInt = lo + (j : Int)), ztg pc (offs.toList.getD j 0))), ztg pc dflt, ls, r, σ)) else none
    | _ => none
  | .lookupswitch dflt ps => match st with
    | .int x :: r => if (zto pc dflt && ps.toList.all (fun q => zto pc q.2) && (ps.toList.zip (ps.toList.drop 1)).all (fun q => decide (q.1.1 < q.2.1))) = true then
        some (.inl (ps.toList.map (fun q => (decide (x.toInt = q.1), ztg pc q.2)), ztg pc dflt, ls, r, σ)) else none
    | _ => none
  | .getfield ix => match st with
    | .ref a :: r => match zLk (zFL (zOC mi)) ix with
      | some e => if zobj a e.1 = true then znx (pc + 3) ls (zval σ e.1 e.2.1 a :: r) σ else none
      | none => none
    | _ => none
  | .putfield ix => match st with
    | v :: .ref a :: r => match zLk (zFL (zOC mi)) ix with
      | some e => if zobj a e.1 = true then
          match zCl[e.1]? with
          | some q => if (q.2.1 e.2.1).2.2.2 = true then none else
            match zfty e.1 e.2.1, v with
            | 0, .int x => znx (pc + 3) ls r (zsI σ a e.2.1 x)
            | 3, .int x => if vp_nar .boolean x = x then znx (pc + 3) ls r (zsI σ a e.2.1 x) else none
            | 1, .long x => znx (pc + 3) ls r (zsJ σ a e.2.1 x)
            | _, _ => none
          | none => none
        else none
      | none => none
    | _ => none
  | .arraylength => match st with
    | .ref a :: r => if a = 2000000 then znx (pc + 1) ls (.int (Int32.ofNat σ.2.2.1) :: r) σ else
      match zsh[a]? with
      | some q => if 100 ≤ q.1 then znx (pc + 1) ls (.int (Int32.ofNat q.2) :: r) σ else none
      | none => none
    | _ => none
  | .iaload => match st with
    | .int i :: .ref a :: r => if a = 2000000 then (if (decide (0 ≤ i) && decide (i.toNatClampNeg < σ.2.2.1)) = true then znx (pc + 1) ls (.int (σ.2.2.2 i.toNatClampNeg) :: r) σ else none)
      else if zarr a 100 i = true then znx (pc + 1) ls (.int (zI σ a i.toNatClampNeg) :: r) σ else none
    | _ => none
  | .baload => match st with
    | .int i :: .ref a :: r => if zarr a 101 i = true then znx (pc + 1) ls (.int (zI σ a i.toNatClampNeg) :: r) σ else if zarr a 102 i = true then znx (pc + 1) ls (.int (zI σ a i.toNatClampNeg) :: r) σ else none
    | _ => none
  | .laload => match st with
    | .int i :: .ref a :: r => if zarr a 103 i = true then znx (pc + 1) ls (.long (zJ σ a i.toNatClampNeg) :: r) σ else none
    | _ => none
  | .aaload => match st with
    | .int i :: .ref a :: r => if zarr a 104 i = true then znx (pc + 1) ls (.ref (zel 104 a i.toNatClampNeg) :: r) σ
      else if zarr a 105 i = true then znx (pc + 1) ls (.ref (zel 105 a i.toNatClampNeg) :: r) σ
      else if zarr a 106 i = true then znx (pc + 1) ls (.ref (zel 106 a i.toNatClampNeg) :: r) σ
      else if zarr a 107 i = true then znx (pc + 1) ls (.ref (zel 107 a i.toNatClampNeg) :: r) σ
      else if zarr a 108 i = true then znx (pc + 1) ls (.ref (zel 108 a i.toNatClampNeg) :: r) σ else none
    | _ => none
  | .iastore => match st with
    | .int x :: .int i :: .ref a :: r => if zarr a 100 i = true then znx (pc + 1) ls r (zsI σ a i.toNatClampNeg x) else none
    | _ => none
  | .bastore => match st with
    | .int x :: .int i :: .ref a :: r => if zarr a 101 i = true then znx (pc + 1) ls r (zsI σ a i.toNatClampNeg (vp_nar .byte x)) else if zarr a 102 i = true then znx (pc + 1) ls r (zsI σ a i.toNatClampNeg (vp_nar .boolean x)) else none
    | _ => none
  | .lastore => match st with
    | .long x :: .int i :: .ref a :: r => if zarr a 103 i = true then znx (pc + 1) ls r (zsJ σ a i.toNatClampNeg x) else none
    | _ => none
  | .invokevirtual ix => match zLk (zMK (zOC mi)) ix with
    | some e => if e.1 = 0 then
        (match (st.take (zNA e.2.1)).reverse with
        | .ref o :: as => if (zobj o (zOC e.2.1) && zroom mi e.2.1 && zwt (st.drop (zNA e.2.1)) && !(zST e.2.1) && decide ((zY e.2.1).name ≠ "<init>") && decide (e.2.1 < 282) && decide (as.length + 1 = zNA e.2.1)) = true then some (.inr (.inl (e.2.1, .ref o :: as, pc + 3, ls, st.drop (zNA e.2.1), σ))) else none
        | _ => none)
      else if 7 ≤ e.1 then zprim e.1 mi pc ls st σ else none
    | none => none
  | .invokestatic ix => match zLk (zMK (zOC mi)) ix with
    | some e => if e.1 = 1 then
        (if (zroom mi e.2.1 && zwt (st.drop (zNA e.2.1)) && zST e.2.1 && decide (e.2.1 < 282) && decide ((st.take (zNA e.2.1)).length = zNA e.2.1)) = true then some (.inr (.inl (e.2.1, (st.take (zNA e.2.1)).reverse, pc + 3, ls, st.drop (zNA e.2.1), σ))) else none)
      else if 4 ≤ e.1 ∧ e.1 ≤ 6 then zprim e.1 mi pc ls st σ else none
    | none => none
  | .ireturn => match st with
    | [.int v] => match zRet mi with
      | some .int => some (.inr (.inr (some (.int v), σ)))
      | some .boolean => if vp_nar .boolean v = v then some (.inr (.inr (some (.int v), σ))) else none
      | _ => none
    | _ => none
  | .lreturn => match st with
    | [.long v] => match zRet mi with
      | some .long => some (.inr (.inr (some (.long v), σ)))
      | _ => none
    | _ => none
  | .return_ => match st with
    | [] => match zRet mi with
      | none => some (.inr (.inr (none, σ)))
      | _ => none
    | _ => none
  | _ => none
def zst (mi pc : Nat) (ls : zLs) (st : List Value) (σ : zM) : Option zO := match zdec mi pc with
  | some q => zex mi pc q.1 ls st σ
  | none => none
/-- behind a call: what is on the stack then -/
def zbV (o : Option zR) (k : zM → Option zR) : Option zR := match o with
  | some (none, σ) => k σ
  | _ => none
def zbI (o : Option zR) (k : Int32 → zM → Option zR) : Option zR := match o with
  | some (some (.int v), σ) => k v σ
  | _ => none
def zbJ (o : Option zR) (k : Int64 → zM → Option zR) : Option zR := match o with
  | some (some (.long v), σ) => k v σ
  | _ => none
def zint (K : Nat → zLs → List Value → zM → Option zR) (CE : Nat → List Value → zM → Option zR) (o : Option zO) : Option zR := match o with
  | none => none
  | some (.inl (brs, d, ls, st, σ)) => brs.foldr (fun b e => if b.1 = true then K b.2 ls st σ else e) (K d ls st σ)
  | some (.inr (.inl (mj, a, pc, ls, r, σ))) => match zRet mj with
    | none => zbV (CE mj a σ) (fun τ => K pc ls r τ)
    | some .long => zbJ (CE mj a σ) (fun v τ => K pc ls (.long v :: r) τ)
    | some _ => zbI (CE mj a σ) (fun v τ => K pc ls (.int v :: r) τ)
  | some (.inr (.inr r)) => some r
def zmask : List Bool → zLs → zLs
  | true :: b, v :: l => v :: zmask b l
  | false :: b, _ :: l => none :: zmask b l
  | _, _ => []
def zblk (CR : Nat → zLs → List Value → zM → Option zR) (CE : Nat → List Value → zM → Option zR) (mi : Nat) : Nat → Nat → zLs → List Value → zM → Option zR
  | 0 => fun _ _ _ _ => none
  | k + 1 => fun pc ls st σ => zint (fun pc ls st σ => match zcut mi pc with
    | some b => if b.length = ls.length then CR pc (zmask b ls) st σ else none
    | none => zblk CR CE mi k pc ls st σ) CE (zst mi pc ls st σ)
def zsp (as : List Value) : zLs := as.flatMap fun v => if v.category = 2 then [some v, none] else [some v]
def zent (n : Nat) (as : List Value) : zLs := zsp as ++ List.replicate (n - (zsp as).length) none
def zrun : Nat → Nat → Nat → zLs → List Value → zM → Option zR
  | 0 => fun _ _ _ _ _ => none
  | n + 1 => fun mi pc ls st σ => zblk (zrun n mi) (fun mj a σ => if (zsp a).length ≤ zML mj then zrun n mj 0 (zent (zML mj) a) [] σ else none) mi 2000 pc ls st σ
/-! ===== the fuel goes: what some fuel gives ===== -/
def zle (f g : Option zR) : Prop := ∀ r, f = some r → g = some r
theorem zbV_mono {o o' : Option zR} {k k' : zM → Option zR} (h : zle o o') (hk : ∀ τ, zle (k τ) (k' τ)) : zle (zbV o k) (zbV o' k') := by
  intro r hr
  cases o with
  | none => cases hr
  | some q =>
    obtain ⟨v, τ⟩ := q
    rw [h _ rfl]
    cases v with
    | none => exact hk _ _ hr
    | some v => cases hr
theorem zbI_mono {o o' : Option zR} {k k' : Int32 → zM → Option zR} (h : zle o o') (hk : ∀ v τ, zle (k v τ) (k' v τ)) : zle (zbI o k) (zbI o' k') := by
  intro r hr
  cases o with
  | none => cases hr
  | some q =>
    obtain ⟨v, τ⟩ := q
    rw [h _ rfl]
    cases v with
    | none => cases hr
    | some v =>
      cases v with
      | int v => exact hk _ _ _ hr
      | _ => cases hr
theorem zbJ_mono {o o' : Option zR} {k k' : Int64 → zM → Option zR} (h : zle o o') (hk : ∀ v τ, zle (k v τ) (k' v τ)) : zle (zbJ o k) (zbJ o' k') := by
  intro r hr
  cases o with
  | none => cases hr
  | some q =>
    obtain ⟨v, τ⟩ := q
    rw [h _ rfl]
    cases v with
    | none => cases hr
    | some v =>
      cases v with
      | long v => exact hk _ _ _ hr
      | _ => cases hr
theorem zfold_mono {f g : Nat → Option zR} (h : ∀ p, zle (f p) (g p)) (d : Nat) : ∀ brs : List (Bool × Nat), zle (brs.foldr (fun b e => if b.1 = true then f b.2 else e) (f d)) (brs.foldr (fun b e => if b.1 = true then g b.2 else e) (g d))
  | [] => h d
  | b :: l => by
    intro r hr
    simp only [List.foldr_cons] at hr ⊢
    by_cases hb : b.1 = true
    · rw [if_pos hb] at hr ⊢; exact h _ _ hr
    · rw [if_neg hb] at hr ⊢; exact zfold_mono h d l r hr
theorem zint_mono {K K' : Nat → zLs → List Value → zM → Option zR} {CE CE' : Nat → List Value → zM → Option zR} (hK : ∀ a b c d, zle (K a b c d) (K' a b c d)) (hC : ∀ a b c, zle (CE a b c) (CE' a b c)) (o : Option zO) : zle (zint K CE o) (zint K' CE' o) := by
  intro r hr
  match o, hr with
  | none, hr => cases hr
  | some (.inl (brs, d, ls, st, σ)), hr => exact zfold_mono (f := fun p => K p ls st σ) (g := fun p => K' p ls st σ) (fun p => hK p ls st σ) d brs r hr
  | some (.inr (.inr q)), hr => exact hr
  | some (.inr (.inl (mj, a, pc, ls, st, σ))), hr =>
    simp only [zint] at hr ⊢
    split at hr
    · exact zbV_mono (hC _ _ _) (fun τ => hK _ _ _ _) r hr
    · exact zbJ_mono (hC _ _ _) (fun v τ => hK _ _ _ _) r hr
    · exact zbI_mono (hC _ _ _) (fun v τ => hK _ _ _ _) r hr
theorem zblk_mono {CR CR' : Nat → zLs → List Value → zM → Option zR} {CE CE' : Nat → List Value → zM → Option zR} (mi : Nat) (hR : ∀ a b c d, zle (CR a b c d) (CR' a b c d)) (hC : ∀ a b c, zle (CE a b c) (CE' a b c)) : ∀ k pc ls st σ, zle (zblk CR CE mi k pc ls st σ) (zblk CR' CE' mi k pc ls st σ)
  | 0, _, _, _, _ => fun r h => h
  | k + 1, pc, ls, st, σ => by
    unfold zblk
    refine zint_mono (fun a b c d => ?_) hC _
    intro r hr
    cases e : zcut mi a with
    | some q =>
      simp only [e] at hr ⊢
      by_cases e2 : q.length = b.length
      · rw [if_pos e2] at hr ⊢
        exact hR _ _ _ _ r hr
      · rw [if_neg e2] at hr
        cases hr
    | none =>
      simp only [e] at hr ⊢
      exact zblk_mono mi hR hC k _ _ _ _ r hr
theorem zrun_succ : ∀ n mi pc ls st σ, zle (zrun n mi pc ls st σ) (zrun (n + 1) mi pc ls st σ)
  | 0, _, _, _, _, _ => fun r h => by cases h
  | n + 1, mi, pc, ls, st, σ => by
    unfold zrun
    refine zblk_mono mi (fun a b c d => zrun_succ n mi a b c d) (fun a b c => ?_) _ _ _ _ _
    intro r hr
    split at hr
    · next e => rw [if_pos e]; exact zrun_succ n _ _ _ _ _ r hr
    · cases hr
theorem zrun_mono {n m : Nat} (h : n ≤ m) (mi pc : Nat) (ls : zLs) (st : List Value) (σ : zM) : zle (zrun n mi pc ls st σ) (zrun m mi pc ls st σ) := by
  induction m with
  | zero => rw [Nat.le_zero.mp h]; exact fun r h => h
  | succ m ih =>
    rcases Nat.lt_or_ge n (m + 1) with q | q
    · exact fun r hr => zrun_succ m _ _ _ _ _ r (ih (by omega) r hr)
    · rw [show n = m + 1 by omega]; exact fun r h => h
noncomputable def zev (mi pc : Nat) (ls : zLs) (st : List Value) (σ : zM) : Option zR := @dite _ (∃ n, ∃ r, zrun n mi pc ls st σ = some r) (Classical.propDecidable _) (fun h => zrun (Classical.choose h) mi pc ls st σ) (fun _ => none)
theorem zev_ex {mi pc : Nat} {ls : zLs} {st : List Value} {σ : zM} {r : zR} (h : zev mi pc ls st σ = some r) : ∃ n, zrun n mi pc ls st σ = some r := by
  unfold zev at h
  by_cases e : ∃ n, ∃ r, zrun n mi pc ls st σ = some r
  · rw [dif_pos e] at h
    exact ⟨_, h⟩
  · rw [dif_neg e] at h
    cases h
theorem zev_of {n mi pc : Nat} {ls : zLs} {st : List Value} {σ : zM} {r : zR} (h : zrun n mi pc ls st σ = some r) : zev mi pc ls st σ = some r := by
  have e : ∃ n, ∃ r, zrun n mi pc ls st σ = some r := ⟨n, r, h⟩
  unfold zev
  rw [dif_pos e]
  obtain ⟨r', h'⟩ := Classical.choose_spec e
  have h1 := zrun_mono (Nat.le_max_left n (Classical.choose e)) mi pc ls st σ r h
  have h2 := zrun_mono (Nat.le_max_right n (Classical.choose e)) mi pc ls st σ r' h'
  rw [h']
  rw [h1] at h2
  exact h2.symm
/-- a call of a method, by its number -/
noncomputable def zcall (mj : Nat) (a : List Value) (σ : zM) : Option zR := if (zsp a).length ≤ zML mj then zev mj 0 (zent (zML mj) a) [] σ else none
def zrunC (n mj : Nat) (a : List Value) (σ : zM) : Option zR := if (zsp a).length ≤ zML mj then zrun n mj 0 (zent (zML mj) a) [] σ else none
theorem zrunC_mono {n m : Nat} (h : n ≤ m) (mj : Nat) (a : List Value) (σ : zM) : zle (zrunC n mj a σ) (zrunC m mj a σ) := by
  intro r hr
  unfold zrunC at hr ⊢
  split at hr
  · next e => rw [if_pos e]; exact zrun_mono h _ _ _ _ _ r hr
  · cases hr
theorem zfold_cont {K : Nat → Option zR} {Kn : Nat → Nat → Option zR} (hK : ∀ p r, K p = some r → ∃ n, Kn n p = some r) (d : Nat) (r : zR) : ∀ brs : List (Bool × Nat), brs.foldr (fun b e => if b.1 = true then K b.2 else e) (K d) = some r → ∃ n, brs.foldr (fun b e => if b.1 = true then Kn n b.2 else e) (Kn n d) = some r
  | [], h => hK d r h
  | b :: l, h => by
    simp only [List.foldr_cons] at h ⊢
    by_cases hb : b.1 = true
    · simp only [hb, if_true] at h ⊢
      exact hK _ _ h
    · simp only [hb, if_false] at h ⊢
      exact zfold_cont hK d r l h
theorem zint_cont {K : Nat → zLs → List Value → zM → Option zR} {CE : Nat → List Value → zM → Option zR} {Kn : Nat → Nat → zLs → List Value → zM → Option zR} {Cn : Nat → Nat → List Value → zM → Option zR}
    (hK : ∀ a b c d r, K a b c d = some r → ∃ n, Kn n a b c d = some r) (hKm : ∀ n m, n ≤ m → ∀ a b c d, zle (Kn n a b c d) (Kn m a b c d)) (hC : ∀ a b c r, CE a b c = some r → ∃ n, Cn n a b c = some r) (hCm : ∀ n m, n ≤ m → ∀ a b c, zle (Cn n a b c) (Cn m a b c))
    (o : Option zO) (r : zR) (h : zint K CE o = some r) : ∃ n, zint (Kn n) (Cn n) o = some r := by
  match o, h with
  | none, h => cases h
  | some (.inl (brs, d, ls, st, σ)), h => exact zfold_cont (K := fun p => K p ls st σ) (Kn := fun n p => Kn n p ls st σ) (fun p r h => hK p ls st σ r h) d r brs h
  | some (.inr (.inr q)), h => exact ⟨0, h⟩
  | some (.inr (.inl (mj, a, pc, ls, st, σ))), h =>
    simp only [zint] at h ⊢
    cases e : CE mj a σ with
    | none => rw [e] at h; split at h <;> cases h
    | some q =>
      obtain ⟨v, τ⟩ := q
      obtain ⟨n1, e1⟩ := hC _ _ _ _ e
      rw [e] at h
      split at h
      · cases v with
        | some v => cases h
        | none =>
          obtain ⟨n2, e2⟩ := hK _ _ _ _ _ h
          refine ⟨max n1 n2, ?_⟩
          rw [hCm _ _ (Nat.le_max_left n1 n2) _ _ _ _ e1]
          exact hKm _ _ (Nat.le_max_right n1 n2) _ _ _ _ _ e2
      · cases v with
        | none => cases h
        | some v =>
          cases v with
          | long v =>
            obtain ⟨n2, e2⟩ := hK _ _ _ _ _ h
            refine ⟨max n1 n2, ?_⟩
            rw [hCm _ _ (Nat.le_max_left n1 n2) _ _ _ _ e1]
            exact hKm _ _ (Nat.le_max_right n1 n2) _ _ _ _ _ e2
          | _ => cases h
      · cases v with
        | none => cases h
        | some v =>
          cases v with
          | int v =>
            obtain ⟨n2, e2⟩ := hK _ _ _ _ _ h
            refine ⟨max n1 n2, ?_⟩
            rw [hCm _ _ (Nat.le_max_left n1 n2) _ _ _ _ e1]
            exact hKm _ _ (Nat.le_max_right n1 n2) _ _ _ _ _ e2
          | _ => cases h
theorem zblk_cont (mi : Nat) : ∀ k pc ls st σ r, zblk (zev mi) zcall mi k pc ls st σ = some r → ∃ n, zblk (zrun n mi) (zrunC n) mi k pc ls st σ = some r
  | 0, _, _, _, _, _, h => by cases h
  | k + 1, pc, ls, st, σ, r, h => by
    unfold zblk at h ⊢
    refine zint_cont (Kn := fun n pc ls st σ => match zcut mi pc with
      | some b => if b.length = ls.length then zrun n mi pc (zmask b ls) st σ else none
      | none => zblk (zrun n mi) (zrunC n) mi k pc ls st σ) (Cn := fun n => zrunC n) ?_ ?_ ?_ (fun n m hnm a b c => zrunC_mono hnm a b c) _ r h
    · intro a b c d r h
      cases e : zcut mi a with
      | some q =>
        simp only [e] at h ⊢
        by_cases e2 : q.length = b.length
        · rw [if_pos e2] at h
          obtain ⟨n, hn⟩ := zev_ex h
          exact ⟨n, by rw [if_pos e2]; exact hn⟩
        · rw [if_neg e2] at h
          cases h
      | none =>
        simp only [e] at h ⊢
        exact zblk_cont mi k _ _ _ _ _ h
    · intro n m hnm a b c d r h
      cases e : zcut mi a with
      | some q =>
        simp only [e] at h ⊢
        by_cases e2 : q.length = b.length
        · rw [if_pos e2] at h ⊢
          exact zrun_mono hnm _ _ _ _ _ _ h
        · rw [if_neg e2] at h
          cases h
      | none =>
        simp only [e] at h ⊢
        exact zblk_mono mi (fun a b c d => zrun_mono hnm _ _ _ _ _) (fun a b c => zrunC_mono hnm _ _ _) k _ _ _ _ _ h
    · intro a b c r h
      unfold zcall at h
      split at h
      · next e =>
        obtain ⟨n, hn⟩ := zev_ex h
        exact ⟨n, by unfold zrunC; rw [if_pos e]; exact hn⟩
      · cases h
theorem zrun_blk (n mi pc : Nat) (ls : zLs) (st : List Value) (σ : zM) : zrun (n + 1) mi pc ls st σ = zblk (zrun n mi) (zrunC n) mi 2000 pc ls st σ := rfl
/-- THE EQUATION OF A BLOCK -/
theorem zev_blk (mi pc : Nat) (ls : zLs) (st : List Value) (σ : zM) : zev mi pc ls st σ = zblk (zev mi) zcall mi 2000 pc ls st σ := by
  have h1 : zle (zev mi pc ls st σ) (zblk (zev mi) zcall mi 2000 pc ls st σ) := by
    intro r hr
    obtain ⟨n, hn⟩ := zev_ex hr
    cases n with
    | zero => cases hn
    | succ n =>
      rw [zrun_blk] at hn
      refine zblk_mono mi (fun a b c d r h => zev_of h) (fun a b c r h => ?_) 2000 _ _ _ _ r hn
      unfold zrunC at h
      unfold zcall
      split at h
      · next e => rw [if_pos e]; exact zev_of h
      · cases h
  have h2 : zle (zblk (zev mi) zcall mi 2000 pc ls st σ) (zev mi pc ls st σ) := by
    intro r hr
    obtain ⟨n, hn⟩ := zblk_cont mi _ _ _ _ _ _ hr
    exact zev_of (n := n + 1) (by rw [zrun_blk]; exact hn)
  cases e : zev mi pc ls st σ with
  | some r => exact (h1 r e).symm
  | none =>
    cases e2 : zblk (zev mi) zcall mi 2000 pc ls st σ with
    | none => rfl
    | some r =>
      rw [h2 r e2] at e
      cases e
