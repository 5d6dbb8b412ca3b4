def zsh : List (Nat × Nat) := [(9, 9), (101, 2000), (4, 10), (5, 17), (100, 12), (100, 12), (100, 12), (100, 8), (100, 8), (100, 8), (100, 6), (100, 6), (104, 10), (3, 13), (100, 3), (3, 13), (100, 3), (3, 13), (100, 3), (3, 13), (100, 3), (3, 13), (100, 3), (3, 13), (100, 3), (3, 13), (100, 3), (3, 13), (100, 3), (3, 13), (100, 3), (3, 13), (100, 3), (5, 17), (100, 12), (100, 12), (100, 12), (100, 8), (100, 8), (100, 8), (100, 6), (100, 6), (104, 10), (3, 13), (100, 3), (3, 13), (100, 3), (3, 13), (100, 3), (3, 13), (100, 3), (3, 13), (100, 3), (3, 13), (100, 3), (3, 13), (100, 3), (3, 13), (100, 3), (3, 13), (100, 3), (3, 13), (100, 3), (0, 7), (100, 11), (100, 11), (100, 11), (100, 11), (100, 11), (1, 17), (8, 4), (107, 8), (100, 8), (100, 8), (100, 8), (100, 8), (100, 8), (100, 8), (100, 8), (100, 8), (107, 8), (100, 8), (100, 8), (100, 8), (100, 8), (100, 8), (100, 8), (100, 8), (100, 8), (107, 8), (100, 8), (100, 8), (100, 8), (100, 8), (100, 8), (100, 8), (100, 8), (100, 8), (100, 12), (2, 3), (101, 1188), (2, 3), (101, 1188), (106, 10), (7, 6), (100, 29), (100, 29), (100, 29), (100, 29), (100, 29), (107, 10), (100, 99), (100, 99), (100, 99), (100, 99), (100, 99), (100, 99), (100, 99), (100, 99), (100, 99), (100, 99), (102, 10), (100, 10), (100, 99), (100, 8), (102, 99), (100, 99), (7, 6), (100, 29), (100, 29), (100, 29), (100, 29), (100, 29), (7, 6), (100, 29), (100, 29), (100, 29), (100, 29), (100, 29), (7, 6), (100, 29), (100, 29), (100, 29), (100, 29), (100, 29), (7, 6), (100, 29), (100, 29), (100, 29), (100, 29), (100, 29), (7, 6), (100, 29), (100, 29), (100, 29), (100, 29), (100, 29), (7, 6), (100, 29), (100, 29), (100, 29), (100, 29), (100, 29), (7, 6), (100, 29), (100, 29), (100, 29), (100, 29), (100, 29), (7, 6), (100, 29), (100, 29), (100, 29), (100, 29), (100, 29), (7, 6), (100, 29), (100, 29), (100, 29), (100, 29), (100, 29), (7, 6), (100, 29), (100, 29), (100, 29), (100, 29), (100, 29), (6, 3), (108, 4), (103, 60), (103, 60), (103, 60), (103, 60), (100, 4), (100, 4), (105, 3), (5, 17), (100, 12), (100, 12), (100, 12), (100, 8), (100, 8), (100, 8), (100, 6), (100, 6), (104, 10), (3, 13), (100, 3), (3, 13), (100, 3), (3, 13), (100, 3), (3, 13), (100, 3), (3, 13), (100, 3), (3, 13), (100, 3), (3, 13), (100, 3), (3, 13), (100, 3), (3, 13), (100, 3), (3, 13), (100, 3), (5, 17), (100, 12), (100, 12), (100, 12), (100, 8), (100, 8), (100, 8), (100, 6), (100, 6), (104, 10), (3, 13), (100, 3), (3, 13), (100, 3), (3, 13), (100, 3), (3, 13), (100, 3), (3, 13), (100, 3), (3, 13), (100, 3), (3, 13), (100, 3), (3, 13), (100, 3), (3, 13), (100, 3), (3, 13), (100, 3), (5, 17), (100, 12), (100, 12), (100, 12), (100, 8), (100, 8), (100, 8), (100, 6), (100, 6), (104, 10), (3, 13), (100, 3), (3, 13), (100, 3), (3, 13), (100, 3), (3, 13), (100, 3), (3, 13), (100, 3), (3, 13), (100, 3), (3, 13), (100, 3), (3, 13), (100, 3), (3, 13), (100, 3), (3, 13), (100, 3), (102, 3), (10, 42), (100, 220), (100, 660), (102, 3), (101, 2000), (100, 5), (100, 220), (100, 64), (100, 352), (100, 352), (100, 352), (100, 11), (100, 11), (100, 11), (100, 12), (100, 12), (100, 8), (100, 14), (100, 10), (102, 100), (100, 100), (100, 2400), (100, 4), (100, 4), (103, 240), (103, 60)]
/-- where a field of references points: true: so far behind its object; false: at that place -/
def zrfT : List (List (Bool × Nat)) := [[(false, 0), (false, 0), (false, 64), (false, 65), (false, 66), (false, 67), (false, 68)],
  [(false, 33), (false, 63), (false, 70), (false, 99), (false, 101), (false, 103), (false, 104), (false, 110), (false, 121), (false, 122), (false, 123), (false, 124), (false, 125), (false, 126), (false, 0), (false, 0), (false, 0)],
  [(true, 1), (false, 0), (false, 0)],
  [(false, 0), (false, 0), (false, 0), (false, 0), (false, 0), (false, 0), (false, 0), (false, 0), (true, 1), (false, 0), (false, 0), (false, 0), (false, 0)],
  [(false, 1), (false, 3), (false, 0), (false, 0), (false, 0), (false, 0), (false, 0), (false, 0), (false, 0), (false, 0)],
  [(false, 0), (false, 0), (false, 0), (false, 0), (false, 0), (false, 0), (false, 0), (false, 0), (true, 1), (true, 2), (true, 3), (true, 4), (true, 5), (true, 6), (true, 7), (true, 8), (true, 9)],
  [(false, 188), (false, 193), (false, 194)],
  [(false, 0), (true, 1), (true, 2), (true, 3), (true, 4), (true, 5)],
  [(false, 71), (false, 80), (false, 89), (false, 98)],
  [(false, 1), (false, 0), (false, 2), (false, 33), (false, 69), (false, 63), (false, 187), (false, 195), (false, 286)],
  [(false, 0), (false, 288), (false, 289), (false, 290), (false, 291), (false, 0), (false, 292), (false, 0), (false, 0), (false, 0), (false, 0), (false, 0), (false, 0), (false, 0), (false, 293), (false, 294), (false, 295), (false, 296), (false, 297), (false, 298), (false, 299), (false, 300), (false, 301), (false, 302), (false, 0), (false, 0), (false, 0), (false, 303), (false, 304), (false, 0), (false, 0), (false, 0), (false, 0), (false, 305), (false, 306), (false, 307), (false, 308), (false, 0), (false, 309), (false, 310), (false, 311), (false, 312)]]
/-- where the entries of a row of references point -/
def zel (t q i : Nat) : Nat := match t with
  | 104 => q + 1 + 2 * i
  | 105 => 196 + 30 * i
  | 106 => 127 + 6 * i
  | _ => q + 1 + i
def zcutT : List (List (Nat × List Bool)) := [[],
  [],
  [(5, [true, true, true, true, true, false])],
  [(9, [true, true, true, true])],
  [],
  [(27, [true, false, true, false, false, true, true, true])],
  [],
  [(2, [true, true, true])],
  [(129, [true, false, false, true])],
  [(46, [true, true])],
  [],
  [],
  [],
  [],
  [(2, [true, true])],
  [(32, [true, true, true])],
  [(2, [true, true])],
  [],
  [(14, [true, false, true])],
  [(7, [true, true, true, true, true])],
  [(2, [true, true, true, true, false]), (40, [true, false, false, true, true])],
  [(7, [true, true, true, true, true, false])],
  [],
  [],
  [],
  [],
  [(2, [true, true, true, true, false, false]), (36, [true, true, true, true, true, false]), (51, [true, true, true, true, true, true])],
  [(6, [true, true, true, true, true, true, false])],
  [],
  [(3, [true, true, true, true, true, true, true, false])],
  [(97, [true, false, true, true, false, true, true, true, true, false])],
  [],
  [(26, [true, true, true, true, true, true, false])],
  [(2, [true, true])],
  [(2, [true, true, true, false]), (39, [true, true, true, false])],
  [(11, [true, true, true, true, true, true])],
  [(3, [true, true, true, true, true, true, false, false, false])],
  [(15, [true, true, true, true, false, false, false]), (23, [true, true, true, true, true, false, false])],
  [],
  [],
  [(2, [true, true])],
  [],
  [(18, [true, true, true])],
  [(3, [true, true, false, true, true])],
  [(13, [true, true, false, false, true, true, false, false])],
  [],
  [(2, [true, true, false, true])],
  [],
  [],
  [],
  [(45, [true, false, true])],
  [(5, [true, true]), (41, [true, true]), (99, [true, true])],
  [(5, [true, true])],
  [(10, [true, true])],
  [],
  [(28, [true, true, true])],
  [],
  [],
  [],
  [],
  [],
  [],
  [(133, [true, false])],
  [],
  [],
  [],
  [],
  [],
  [],
  [],
  [(23, [true, true, true])],
  [],
  [],
  [(79, [true, true])],
  [],
  [(186, [true, true, true])],
  [],
  [],
  [],
  [],
  [(2, [true, true, true, true])],
  [],
  [],
  [],
  [(4, [true, true, true])],
  [],
  [],
  [],
  [],
  [],
  [(10, [true, true, true, true])],
  [],
  [],
  [(2, [true, true, true, true, false, false])],
  [(24, [true, true, true, true, false, true, true])],
  [(36, [true, true, true])],
  [],
  [(2, [true, true, true])],
  [(2, [true, true, true, false]), (14, [true, true, true, true])],
  [],
  [(2, [true, true, true, false, false]), (56, [true, true, true, false, false]), (157, [true, true, true, false, false]), (167, [true, true, true, true, false])],
  [(2, [true, true, true, false, false]), (9, [true, true, true, true, false]), (17, [true, true, true, true, true])],
  [(23, [true, true, true, true, true, false])],
  [],
  [(90, [true, true])],
  [],
  [(3, [true, true, true])],
  [],
  [],
  [],
  [],
  [],
  [],
  [],
  [],
  [],
  [],
  [],
  [],
  [(40, [true, true, true, true, true, true, false])],
  [],
  [],
  [],
  [],
  [],
  [(30, [true, true, true, true])],
  [(22, [true, true, true, true])],
  [],
  [],
  [(68, [true, true, true, true, true, true, true, false])],
  [],
  [],
  [],
  [],
  [],
  [(17, [true, true, true, false]), (32, [true, true, true, true])],
  [],
  [(53, [true, true, true, true, false, false, false])],
  [],
  [],
  [(81, [true, false, true, true, true, true, false, true, true, true])],
  [],
  [],
  [(58, [true, true, true, true, true, true, true, true, true, true])],
  [],
  [],
  [],
  [],
  [],
  [],
  [],
  [],
  [(20, [true, true, true, true])],
  [(20, [true, true, true, true])],
  [],
  [],
  [],
  [],
  [],
  [],
  [],
  [],
  [],
  [],
  [(17, [true, true, true])],
  [(29, [true, true, true])],
  [],
  [],
  [],
  [],
  [],
  [],
  [],
  [],
  [],
  [(55, [true, false, false, false, false, false, true])],
  [],
  [],
  [(0, [true, false]), (83, [true, false]), (144, [true, false])],
  [],
  [],
  [(39, [true, true, true, true])],
  [],
  [],
  [(20, [true, true, true, false])],
  [],
  [],
  [],
  [(2, [true, true, true, true, false])],
  [(88, [true, true, true, false, false])],
  [],
  [],
  [(2, [true, true, true, false])],
  [(69, [true, true, true, false]), (195, [true, true, false, false])],
  [],
  [(54, [true, false]), (69, [true, false]), (89, [true, false]), (109, [true, false]), (154, [true, false])],
  [(62, [true])],
  [(30, [true, true]), (54, [true, false]), (87, [true, true])],
  [],
  [],
  [(2, [true, true, false, false]), (12, [true, true, true, false]), (86, [true, true, false, false]), (96, [true, true, true, false]), (106, [true, true, true, true])],
  [],
  [(2, [true, true, true, true])],
  [],
  [(49, [true, false, true, true, true, true])],
  [(50, [true, true, true, true, true])],
  [(33, [true, true, true, true])],
  [],
  [(12, [true, true, false, true, true, true, true, true, false]), (95, [true, true, false, true, true, true, true, true, true])],
  [(38, [true, true, true, true]), (74, [true, true, true, false])],
  [(6, [true, true])],
  [],
  [],
  [(33, [true, true, true, true, true, false]), (121, [true, true, true, true, true, true])],
  [],
  [],
  [(12, [true, true, true, true, true, false])],
  [],
  [],
  [(14, [true, true, true, true, true, true, true]), (39, [true, true, true, true, true, true, true])],
  [],
  [],
  [],
  [],
  [],
  [(29, [true, true, true, true, true])],
  [(2, [true, true, true, true, false]), (34, [true, false, false, true, true])],
  [(4, [true, true, true, true])],
  [],
  [(29, [true, true, true])],
  [(40, [true, true, true, true, true, true, false])],
  [],
  [],
  [],
  [],
  [(19, [true, true, true, false, true, true, true, true])],
  [],
  [],
  [(6, [true, true, true, true, false, false]), (52, [true, true, true, true, false, false]), (65, [true, true, true, true, true, false]), (79, [true, true, true, true, true, true]), (197, [true, true, false, true, false, false])],
  [],
  [],
  [],
  [(63, [true, true, true, true, true, true, true, false]), (77, [true, true, true, true, true, true, true, true])],
  [(117, [true, false, true, true, false, true, true, true, true])],
  [],
  [],
  [(13, [true, true, true, true, true])],
  [(6, [true, true])],
  [],
  [(7, [true, true, true, true])],
  [(2, [true, true])],
  [(2, [true, true])],
  [],
  [],
  [(2, [true, true, true, true, false, false, false, false]), (17, [true, true, true, true, true, false, false, false]), (89, [true, true, true, true, true, true, true, false])],
  [(18, [true, true, true, false]), (30, [true, true, true, true])],
  [],
  [],
  [(11, [true, true, true, true, true, false])],
  [(46, [true, true, true, false]), (101, [true, true, true, true])],
  [(43, [true, true, false, true])],
  [(2, [true, true, true])],
  [(19, [true, true, true, true, true, true, true, true, true])],
  [],
  [(37, [true, false, false, true, false, true, true])],
  [(67, [true, false, false, false, false, false, false, true, true, true]), (100, [true, false, false, false, false, false, false, true, true, true])],
  [],
  [(18, [true, true, true, false, false]), (28, [true, true, true, true, false]), (36, [true, true, true, true, true]), (95, [true, false, true, false, false]), (105, [true, false, true, true, false]), (113, [true, false, true, true, true])],
  [],
  [(8, [true, false, false, true, true])],
  [],
  [],
  [(51, [true, true, true, true, true, true, true, true, true, true])],
  [(119, [true, false, true, true])],
  [],
  [],
  [(52, [true, true, false, false, true])],
  [],
  [(113, [true, true, true, true, true, true, true]), (150, [true, false, false, true, true, true, true])],
  [(5, [true, true, true, true])],
  [(5, [true, true, true, true])],
  [(6, [true, true, false, true, true])],
  [(18, [true, true, true, true]), (224, [true, true, true, true]), (287, [true, true, true, true]), (310, [true, true, true, true]), (323, [true, true, true, true]), (346, [true, true, true, true]), (379, [true, true, true, true]), (422, [true, true, true, true]), (455, [true, true, true, true]), (478, [true, true, true, true]), (511, [true, true, true, true]), (544, [true, true, true, true]), (587, [true, true, true, true]), (630, [true, true, true, true]), (663, [true, true, true, true]), (696, [true, true, true, true]), (719, [true, true, true, true]), (742, [true, true, true, true]), (765, [true, true, true, true]), (788, [true, true, true, true]), (821, [true, true, true, true]), (854, [true, true, true, true]), (887, [true, true, true, true]), (920, [true, true, true, true]), (963, [true, true, true, true]), (1026, [true, true, true, true]), (1089, [true, true, true, true]), (1112, [true, true, true, true]), (1125, [true, true, true, true]), (1148, [true, true, true, true]), (1181, [true, true, true, true]), (1194, [true, true, true, true]), (1227, [true, true, true, true]), (1250, [true, true, true, true]), (1283, [true, true, true, true]), (1326, [true, true, true, true]), (1389, [true, true, true, true]), (1412, [true, true, true, true]), (1455, [true, true, true, true]), (1542, [true, true, true, true]), (1565, [true, true, true, true]), (1588, [true, true, true, true]), (1611, [true, true, true, true]), (1654, [true, true, true, true]), (1727, [true, true, true, true]), (1790, [true, true, true, true])]]
def zcut (mi pc : Nat) : Option (List Bool) := zLk (zcutT.getD mi []) pc
/-- the String constants, by their bytes -/
def zstr : List (List Int32) := [[114, 101, 97, 108, 109], [114, 111, 97, 100], [102, 108, 111, 111, 100], [114, 105, 100, 101, 114], [111, 114, 100, 101, 114], [119, 105, 115, 104], [116, 111, 119, 110, 115], [104, 111, 117, 114, 115], [116, 111], [102, 114, 111, 109], [112, 97, 99, 101], [114, 101, 115, 116, 115], [111, 110], [97, 116], [117, 110, 100, 111, 101, 115], [115, 97, 121, 115], [118, 105, 97], [105, 110], [115, 101, 97, 108]]
/-- an instruction's length -/
def zlen (i : Instr) (n : Nat) : Bool := match i with
  | .iconst _ => n == 1
  | .lconst _ => n == 1
  | .iload_n _ => n == 1
  | .lload_n _ => n == 1
  | .aload_n _ => n == 1
  | .istore_n _ => n == 1
  | .lstore_n _ => n == 1
  | .astore_n _ => n == 1
  | .iadd => n == 1
  | .isub => n == 1
  | .imul => n == 1
  | .iand => n == 1
  | .ior => n == 1
  | .ixor => n == 1
  | .ishl => n == 1
  | .ishr => n == 1
  | .idiv => n == 1
  | .irem => n == 1
  | .ladd => n == 1
  | .lsub => n == 1
  | .lmul => n == 1
  | .land => n == 1
  | .lor => n == 1
  | .ldiv => n == 1
  | .lrem => n == 1
  | .lshl => n == 1
  | .lshr => n == 1
  | .lcmp => n == 1
  | .i2l => n == 1
  | .l2i => n == 1
  | .i2b => n == 1
  | .i2s => n == 1
  | .dup => n == 1
  | .dup2 => n == 1
  | .pop => n == 1
  | .iaload => n == 1
  | .baload => n == 1
  | .laload => n == 1
  | .aaload => n == 1
  | .iastore => n == 1
  | .bastore => n == 1
  | .lastore => n == 1
  | .aastore => n == 1
  | .arraylength => n == 1
  | .ireturn => n == 1
  | .lreturn => n == 1
  | .return_ => n == 1
  | .bipush _ => n == 2
  | .ldc _ => n == 2
  | .iload _ => n == 2
  | .lload _ => n == 2
  | .aload _ => n == 2
  | .istore _ => n == 2
  | .lstore _ => n == 2
  | .astore _ => n == 2
  | .newarray _ => n == 2
  | .sipush _ => n == 3
  | .ldc_w _ => n == 3
  | .ldc2_w _ => n == 3
  | .iinc _ _ => n == 3
  | .ifCond _ _ => n == 3
  | .if_icmp _ _ => n == 3
  | .goto _ => n == 3
  | .getfield _ => n == 3
  | .putfield _ => n == 3
  | .invokevirtual _ => n == 3
  | .invokespecial _ => n == 3
  | .invokestatic _ => n == 3
  | .new _ => n == 3
  | .anewarray _ => n == 3
  | .multianewarray _ _ => n == 4
  | .tableswitch .. => true
  | .lookupswitch .. => true
  | _ => false
theorem zn_0 : zi_0.all (fun e => zlen e.2.1 e.2.2) = true := by decide +kernel
theorem zn_1 : zi_1.all (fun e => zlen e.2.1 e.2.2) = true := by decide +kernel
theorem zn_2 : zi_2.all (fun e => zlen e.2.1 e.2.2) = true := by decide +kernel
theorem zn_3 : zi_3.all (fun e => zlen e.2.1 e.2.2) = true := by decide +kernel
theorem zn_4 : zi_4.all (fun e => zlen e.2.1 e.2.2) = true := by decide +kernel
theorem zn_5 : zi_5.all (fun e => zlen e.2.1 e.2.2) = true := by decide +kernel
theorem zn_6 : zi_6.all (fun e => zlen e.2.1 e.2.2) = true := by decide +kernel
theorem zn_7 : zi_7.all (fun e => zlen e.2.1 e.2.2) = true := by decide +kernel
theorem zn_8_0 : zi_8_0.all (fun e => zlen e.2.1 e.2.2) = true := by decide +kernel
theorem zn_8_1 : zi_8_1.all (fun e => zlen e.2.1 e.2.2) = true := by decide +kernel
theorem zn_8 : zi_8.all (fun e => zlen e.2.1 e.2.2) = true := by
  simp only [zi_8, List.all_append, zn_8_0, zn_8_1, Bool.and_self]
theorem zn_9 : zi_9.all (fun e => zlen e.2.1 e.2.2) = true := by decide +kernel
theorem zn_10 : zi_10.all (fun e => zlen e.2.1 e.2.2) = true := by decide +kernel
theorem zn_11 : zi_11.all (fun e => zlen e.2.1 e.2.2) = true := by decide +kernel
theorem zn_12 : zi_12.all (fun e => zlen e.2.1 e.2.2) = true := by decide +kernel
theorem zn_13 : zi_13.all (fun e => zlen e.2.1 e.2.2) = true := by decide +kernel
theorem zn_14 : zi_14.all (fun e => zlen e.2.1 e.2.2) = true := by decide +kernel
theorem zn_15 : zi_15.all (fun e => zlen e.2.1 e.2.2) = true := by decide +kernel
theorem zn_16 : zi_16.all (fun e => zlen e.2.1 e.2.2) = true := by decide +kernel
theorem zn_17 : zi_17.all (fun e => zlen e.2.1 e.2.2) = true := by decide +kernel
theorem zn_18 : zi_18.all (fun e => zlen e.2.1 e.2.2) = true := by decide +kernel
theorem zn_19 : zi_19.all (fun e => zlen e.2.1 e.2.2) = true := by decide +kernel
theorem zn_20 : zi_20.all (fun e => zlen e.2.1 e.2.2) = true := by decide +kernel
theorem zn_21 : zi_21.all (fun e => zlen e.2.1 e.2.2) = true := by decide +kernel
theorem zn_22 : zi_22.all (fun e => zlen e.2.1 e.2.2) = true := by decide +kernel
theorem zn_23 : zi_23.all (fun e => zlen e.2.1 e.2.2) = true := by decide +kernel
theorem zn_24 : zi_24.all (fun e => zlen e.2.1 e.2.2) = true := by decide +kernel
theorem zn_25 : zi_25.all (fun e => zlen e.2.1 e.2.2) = true := by decide +kernel
theorem zn_26_0 : zi_26_0.all (fun e => zlen e.2.1 e.2.2) = true := by decide +kernel
theorem zn_26_1 : zi_26_1.all (fun e => zlen e.2.1 e.2.2) = true := by decide +kernel
theorem zn_26 : zi_26.all (fun e => zlen e.2.1 e.2.2) = true := by
  simp only [zi_26, List.all_append, zn_26_0, zn_26_1, Bool.and_self]
theorem zn_27 : zi_27.all (fun e => zlen e.2.1 e.2.2) = true := by decide +kernel
theorem zn_28 : zi_28.all (fun e => zlen e.2.1 e.2.2) = true := by decide +kernel
theorem zn_29 : zi_29.all (fun e => zlen e.2.1 e.2.2) = true := by decide +kernel
theorem zn_30_0 : zi_30_0.all (fun e => zlen e.2.1 e.2.2) = true := by decide +kernel
theorem zn_30_1 : zi_30_1.all (fun e => zlen e.2.1 e.2.2) = true := by decide +kernel
theorem zn_30 : zi_30.all (fun e => zlen e.2.1 e.2.2) = true := by
  simp only [zi_30, List.all_append, zn_30_0, zn_30_1, Bool.and_self]
theorem zn_31 : zi_31.all (fun e => zlen e.2.1 e.2.2) = true := by decide +kernel
theorem zn_32 : zi_32.all (fun e => zlen e.2.1 e.2.2) = true := by decide +kernel
theorem zn_33 : zi_33.all (fun e => zlen e.2.1 e.2.2) = true := by decide +kernel
theorem zn_34 : zi_34.all (fun e => zlen e.2.1 e.2.2) = true := by decide +kernel
theorem zn_35 : zi_35.all (fun e => zlen e.2.1 e.2.2) = true := by decide +kernel
theorem zn_36 : zi_36.all (fun e => zlen e.2.1 e.2.2) = true := by decide +kernel
theorem zn_37 : zi_37.all (fun e => zlen e.2.1 e.2.2) = true := by decide +kernel
theorem zn_38 : zi_38.all (fun e => zlen e.2.1 e.2.2) = true := by decide +kernel
theorem zn_39 : zi_39.all (fun e => zlen e.2.1 e.2.2) = true := by decide +kernel
theorem zn_40 : zi_40.all (fun e => zlen e.2.1 e.2.2) = true := by decide +kernel
theorem zn_41 : zi_41.all (fun e => zlen e.2.1 e.2.2) = true := by decide +kernel
theorem zn_42 : zi_42.all (fun e => zlen e.2.1 e.2.2) = true := by decide +kernel
theorem zn_43 : zi_43.all (fun e => zlen e.2.1 e.2.2) = true := by decide +kernel
theorem zn_44 : zi_44.all (fun e => zlen e.2.1 e.2.2) = true := by decide +kernel
theorem zn_45 : zi_45.all (fun e => zlen e.2.1 e.2.2) = true := by decide +kernel
theorem zn_46 : zi_46.all (fun e => zlen e.2.1 e.2.2) = true := by decide +kernel
theorem zn_47 : zi_47.all (fun e => zlen e.2.1 e.2.2) = true := by decide +kernel
theorem zn_48 : zi_48.all (fun e => zlen e.2.1 e.2.2) = true := by decide +kernel
theorem zn_49 : zi_49.all (fun e => zlen e.2.1 e.2.2) = true := by decide +kernel
theorem zn_50 : zi_50.all (fun e => zlen e.2.1 e.2.2) = true := by decide +kernel
theorem zn_51_0 : zi_51_0.all (fun e => zlen e.2.1 e.2.2) = true := by decide +kernel
theorem zn_51_1 : zi_51_1.all (fun e => zlen e.2.1 e.2.2) = true := by decide +kernel
theorem zn_51 : zi_51.all (fun e => zlen e.2.1 e.2.2) = true := by
  simp only [zi_51, List.all_append, zn_51_0, zn_51_1, Bool.and_self]
theorem zn_52 : zi_52.all (fun e => zlen e.2.1 e.2.2) = true := by decide +kernel
theorem zn_53 : zi_53.all (fun e => zlen e.2.1 e.2.2) = true := by decide +kernel
theorem zn_54 : zi_54.all (fun e => zlen e.2.1 e.2.2) = true := by decide +kernel
theorem zn_55 : zi_55.all (fun e => zlen e.2.1 e.2.2) = true := by decide +kernel
theorem zn_56 : zi_56.all (fun e => zlen e.2.1 e.2.2) = true := by decide +kernel
theorem zn_57 : zi_57.all (fun e => zlen e.2.1 e.2.2) = true := by decide +kernel
theorem zn_58 : zi_58.all (fun e => zlen e.2.1 e.2.2) = true := by decide +kernel
theorem zn_59 : zi_59.all (fun e => zlen e.2.1 e.2.2) = true := by decide +kernel
theorem zn_60 : zi_60.all (fun e => zlen e.2.1 e.2.2) = true := by decide +kernel
theorem zn_61 : zi_61.all (fun e => zlen e.2.1 e.2.2) = true := by decide +kernel
theorem zn_62_0 : zi_62_0.all (fun e => zlen e.2.1 e.2.2) = true := by decide +kernel
theorem zn_62_1 : zi_62_1.all (fun e => zlen e.2.1 e.2.2) = true := by decide +kernel
theorem zn_62 : zi_62.all (fun e => zlen e.2.1 e.2.2) = true := by
  simp only [zi_62, List.all_append, zn_62_0, zn_62_1, Bool.and_self]
theorem zn_63 : zi_63.all (fun e => zlen e.2.1 e.2.2) = true := by decide +kernel
theorem zn_64 : zi_64.all (fun e => zlen e.2.1 e.2.2) = true := by decide +kernel
theorem zn_65_0 : zi_65_0.all (fun e => zlen e.2.1 e.2.2) = true := by decide +kernel
theorem zn_65_1 : zi_65_1.all (fun e => zlen e.2.1 e.2.2) = true := by decide +kernel
theorem zn_65 : zi_65.all (fun e => zlen e.2.1 e.2.2) = true := by
  simp only [zi_65, List.all_append, zn_65_0, zn_65_1, Bool.and_self]
theorem zn_66_0 : zi_66_0.all (fun e => zlen e.2.1 e.2.2) = true := by decide +kernel
theorem zn_66_1 : zi_66_1.all (fun e => zlen e.2.1 e.2.2) = true := by decide +kernel
theorem zn_66 : zi_66.all (fun e => zlen e.2.1 e.2.2) = true := by
  simp only [zi_66, List.all_append, zn_66_0, zn_66_1, Bool.and_self]
theorem zn_67 : zi_67.all (fun e => zlen e.2.1 e.2.2) = true := by decide +kernel
theorem zn_68_0 : zi_68_0.all (fun e => zlen e.2.1 e.2.2) = true := by decide +kernel
theorem zn_68_1 : zi_68_1.all (fun e => zlen e.2.1 e.2.2) = true := by decide +kernel
theorem zn_68 : zi_68.all (fun e => zlen e.2.1 e.2.2) = true := by
  simp only [zi_68, List.all_append, zn_68_0, zn_68_1, Bool.and_self]
theorem zn_69 : zi_69.all (fun e => zlen e.2.1 e.2.2) = true := by decide +kernel
theorem zn_70 : zi_70.all (fun e => zlen e.2.1 e.2.2) = true := by decide +kernel
theorem zn_71_0 : zi_71_0.all (fun e => zlen e.2.1 e.2.2) = true := by decide +kernel
theorem zn_71_1 : zi_71_1.all (fun e => zlen e.2.1 e.2.2) = true := by decide +kernel
theorem zn_71 : zi_71.all (fun e => zlen e.2.1 e.2.2) = true := by
  simp only [zi_71, List.all_append, zn_71_0, zn_71_1, Bool.and_self]
theorem zn_72 : zi_72.all (fun e => zlen e.2.1 e.2.2) = true := by decide +kernel
theorem zn_73 : zi_73.all (fun e => zlen e.2.1 e.2.2) = true := by decide +kernel
theorem zn_74 : zi_74.all (fun e => zlen e.2.1 e.2.2) = true := by decide +kernel
theorem zn_75_0 : zi_75_0.all (fun e => zlen e.2.1 e.2.2) = true := by decide +kernel
theorem zn_75_1 : zi_75_1.all (fun e => zlen e.2.1 e.2.2) = true := by decide +kernel
theorem zn_75 : zi_75.all (fun e => zlen e.2.1 e.2.2) = true := by
  simp only [zi_75, List.all_append, zn_75_0, zn_75_1, Bool.and_self]
theorem zn_76 : zi_76.all (fun e => zlen e.2.1 e.2.2) = true := by decide +kernel
theorem zn_77 : zi_77.all (fun e => zlen e.2.1 e.2.2) = true := by decide +kernel
theorem zn_78 : zi_78.all (fun e => zlen e.2.1 e.2.2) = true := by decide +kernel
theorem zn_79 : zi_79.all (fun e => zlen e.2.1 e.2.2) = true := by decide +kernel
theorem zn_80 : zi_80.all (fun e => zlen e.2.1 e.2.2) = true := by decide +kernel
theorem zn_81 : zi_81.all (fun e => zlen e.2.1 e.2.2) = true := by decide +kernel
theorem zn_82 : zi_82.all (fun e => zlen e.2.1 e.2.2) = true := by decide +kernel
theorem zn_83 : zi_83.all (fun e => zlen e.2.1 e.2.2) = true := by decide +kernel
theorem zn_84 : zi_84.all (fun e => zlen e.2.1 e.2.2) = true := by decide +kernel
theorem zn_85 : zi_85.all (fun e => zlen e.2.1 e.2.2) = true := by decide +kernel
theorem zn_86 : zi_86.all (fun e => zlen e.2.1 e.2.2) = true := by decide +kernel
theorem zn_87 : zi_87.all (fun e => zlen e.2.1 e.2.2) = true := by decide +kernel
theorem zn_88 : zi_88.all (fun e => zlen e.2.1 e.2.2) = true := by decide +kernel
theorem zn_89 : zi_89.all (fun e => zlen e.2.1 e.2.2) = true := by decide +kernel
theorem zn_90 : zi_90.all (fun e => zlen e.2.1 e.2.2) = true := by decide +kernel
theorem zn_91 : zi_91.all (fun e => zlen e.2.1 e.2.2) = true := by decide +kernel
theorem zn_92 : zi_92.all (fun e => zlen e.2.1 e.2.2) = true := by decide +kernel
theorem zn_93_0 : zi_93_0.all (fun e => zlen e.2.1 e.2.2) = true := by decide +kernel
theorem zn_93_1 : zi_93_1.all (fun e => zlen e.2.1 e.2.2) = true := by decide +kernel
theorem zn_93 : zi_93.all (fun e => zlen e.2.1 e.2.2) = true := by
  simp only [zi_93, List.all_append, zn_93_0, zn_93_1, Bool.and_self]
theorem zn_94_0 : zi_94_0.all (fun e => zlen e.2.1 e.2.2) = true := by decide +kernel
theorem zn_94_1 : zi_94_1.all (fun e => zlen e.2.1 e.2.2) = true := by decide +kernel
theorem zn_94 : zi_94.all (fun e => zlen e.2.1 e.2.2) = true := by
  simp only [zi_94, List.all_append, zn_94_0, zn_94_1, Bool.and_self]
theorem zn_95_0 : zi_95_0.all (fun e => zlen e.2.1 e.2.2) = true := by decide +kernel
theorem zn_95_1 : zi_95_1.all (fun e => zlen e.2.1 e.2.2) = true := by decide +kernel
theorem zn_95 : zi_95.all (fun e => zlen e.2.1 e.2.2) = true := by
  simp only [zi_95, List.all_append, zn_95_0, zn_95_1, Bool.and_self]
theorem zn_96 : zi_96.all (fun e => zlen e.2.1 e.2.2) = true := by decide +kernel
theorem zn_97 : zi_97.all (fun e => zlen e.2.1 e.2.2) = true := by decide +kernel
theorem zn_98_0 : zi_98_0.all (fun e => zlen e.2.1 e.2.2) = true := by decide +kernel
theorem zn_98_1 : zi_98_1.all (fun e => zlen e.2.1 e.2.2) = true := by decide +kernel
theorem zn_98 : zi_98.all (fun e => zlen e.2.1 e.2.2) = true := by
  simp only [zi_98, List.all_append, zn_98_0, zn_98_1, Bool.and_self]
theorem zn_99 : zi_99.all (fun e => zlen e.2.1 e.2.2) = true := by decide +kernel
theorem zn_100_0 : zi_100_0.all (fun e => zlen e.2.1 e.2.2) = true := by decide +kernel
theorem zn_100_1 : zi_100_1.all (fun e => zlen e.2.1 e.2.2) = true := by decide +kernel
theorem zn_100_2 : zi_100_2.all (fun e => zlen e.2.1 e.2.2) = true := by decide +kernel
theorem zn_100 : zi_100.all (fun e => zlen e.2.1 e.2.2) = true := by
  simp only [zi_100, List.all_append, zn_100_0, zn_100_1, zn_100_2, Bool.and_self]
theorem zn_101 : zi_101.all (fun e => zlen e.2.1 e.2.2) = true := by decide +kernel
theorem zn_102 : zi_102.all (fun e => zlen e.2.1 e.2.2) = true := by decide +kernel
theorem zn_103 : zi_103.all (fun e => zlen e.2.1 e.2.2) = true := by decide +kernel
theorem zn_104 : zi_104.all (fun e => zlen e.2.1 e.2.2) = true := by decide +kernel
theorem zn_105 : zi_105.all (fun e => zlen e.2.1 e.2.2) = true := by decide +kernel
theorem zn_106 : zi_106.all (fun e => zlen e.2.1 e.2.2) = true := by decide +kernel
theorem zn_107 : zi_107.all (fun e => zlen e.2.1 e.2.2) = true := by decide +kernel
theorem zn_108 : zi_108.all (fun e => zlen e.2.1 e.2.2) = true := by decide +kernel
theorem zn_109 : zi_109.all (fun e => zlen e.2.1 e.2.2) = true := by decide +kernel
theorem zn_110 : zi_110.all (fun e => zlen e.2.1 e.2.2) = true := by decide +kernel
theorem zn_111 : zi_111.all (fun e => zlen e.2.1 e.2.2) = true := by decide +kernel
theorem zn_112 : zi_112.all (fun e => zlen e.2.1 e.2.2) = true := by decide +kernel
theorem zn_113 : zi_113.all (fun e => zlen e.2.1 e.2.2) = true := by decide +kernel
theorem zn_114 : zi_114.all (fun e => zlen e.2.1 e.2.2) = true := by decide +kernel
theorem zn_115 : zi_115.all (fun e => zlen e.2.1 e.2.2) = true := by decide +kernel
theorem zn_116 : zi_116.all (fun e => zlen e.2.1 e.2.2) = true := by decide +kernel
theorem zn_117 : zi_117.all (fun e => zlen e.2.1 e.2.2) = true := by decide +kernel
theorem zn_118 : zi_118.all (fun e => zlen e.2.1 e.2.2) = true := by decide +kernel
theorem zn_119 : zi_119.all (fun e => zlen e.2.1 e.2.2) = true := by decide +kernel
theorem zn_120 : zi_120.all (fun e => zlen e.2.1 e.2.2) = true := by decide +kernel
theorem zn_121 : zi_121.all (fun e => zlen e.2.1 e.2.2) = true := by decide +kernel
theorem zn_122 : zi_122.all (fun e => zlen e.2.1 e.2.2) = true := by decide +kernel
theorem zn_123 : zi_123.all (fun e => zlen e.2.1 e.2.2) = true := by decide +kernel
theorem zn_124 : zi_124.all (fun e => zlen e.2.1 e.2.2) = true := by decide +kernel
theorem zn_125 : zi_125.all (fun e => zlen e.2.1 e.2.2) = true := by decide +kernel
theorem zn_126 : zi_126.all (fun e => zlen e.2.1 e.2.2) = true := by decide +kernel
theorem zn_127 : zi_127.all (fun e => zlen e.2.1 e.2.2) = true := by decide +kernel
theorem zn_128 : zi_128.all (fun e => zlen e.2.1 e.2.2) = true := by decide +kernel
theorem zn_129_0 : zi_129_0.all (fun e => zlen e.2.1 e.2.2) = true := by decide +kernel
theorem zn_129_1 : zi_129_1.all (fun e => zlen e.2.1 e.2.2) = true := by decide +kernel
theorem zn_129 : zi_129.all (fun e => zlen e.2.1 e.2.2) = true := by
  simp only [zi_129, List.all_append, zn_129_0, zn_129_1, Bool.and_self]
theorem zn_130 : zi_130.all (fun e => zlen e.2.1 e.2.2) = true := by decide +kernel
theorem zn_131 : zi_131.all (fun e => zlen e.2.1 e.2.2) = true := by decide +kernel
theorem zn_132 : zi_132.all (fun e => zlen e.2.1 e.2.2) = true := by decide +kernel
theorem zn_133 : zi_133.all (fun e => zlen e.2.1 e.2.2) = true := by decide +kernel
theorem zn_134 : zi_134.all (fun e => zlen e.2.1 e.2.2) = true := by decide +kernel
theorem zn_135 : zi_135.all (fun e => zlen e.2.1 e.2.2) = true := by decide +kernel
theorem zn_136 : zi_136.all (fun e => zlen e.2.1 e.2.2) = true := by decide +kernel
theorem zn_137_0 : zi_137_0.all (fun e => zlen e.2.1 e.2.2) = true := by decide +kernel
theorem zn_137_1 : zi_137_1.all (fun e => zlen e.2.1 e.2.2) = true := by decide +kernel
theorem zn_137 : zi_137.all (fun e => zlen e.2.1 e.2.2) = true := by
  simp only [zi_137, List.all_append, zn_137_0, zn_137_1, Bool.and_self]
theorem zn_138 : zi_138.all (fun e => zlen e.2.1 e.2.2) = true := by decide +kernel
theorem zn_139 : zi_139.all (fun e => zlen e.2.1 e.2.2) = true := by decide +kernel
theorem zn_140_0 : zi_140_0.all (fun e => zlen e.2.1 e.2.2) = true := by decide +kernel
theorem zn_140_1 : zi_140_1.all (fun e => zlen e.2.1 e.2.2) = true := by decide +kernel
theorem zn_140 : zi_140.all (fun e => zlen e.2.1 e.2.2) = true := by
  simp only [zi_140, List.all_append, zn_140_0, zn_140_1, Bool.and_self]
theorem zn_141 : zi_141.all (fun e => zlen e.2.1 e.2.2) = true := by decide +kernel
theorem zn_142 : zi_142.all (fun e => zlen e.2.1 e.2.2) = true := by decide +kernel
theorem zn_143 : zi_143.all (fun e => zlen e.2.1 e.2.2) = true := by decide +kernel
theorem zn_144 : zi_144.all (fun e => zlen e.2.1 e.2.2) = true := by decide +kernel
theorem zn_145 : zi_145.all (fun e => zlen e.2.1 e.2.2) = true := by decide +kernel
theorem zn_146 : zi_146.all (fun e => zlen e.2.1 e.2.2) = true := by decide +kernel
theorem zn_147 : zi_147.all (fun e => zlen e.2.1 e.2.2) = true := by decide +kernel
theorem zn_148 : zi_148.all (fun e => zlen e.2.1 e.2.2) = true := by decide +kernel
theorem zn_149_0 : zi_149_0.all (fun e => zlen e.2.1 e.2.2) = true := by decide +kernel
theorem zn_149_1 : zi_149_1.all (fun e => zlen e.2.1 e.2.2) = true := by decide +kernel
theorem zn_149 : zi_149.all (fun e => zlen e.2.1 e.2.2) = true := by
  simp only [zi_149, List.all_append, zn_149_0, zn_149_1, Bool.and_self]
theorem zn_150 : zi_150.all (fun e => zlen e.2.1 e.2.2) = true := by decide +kernel
theorem zn_151 : zi_151.all (fun e => zlen e.2.1 e.2.2) = true := by decide +kernel
theorem zn_152 : zi_152.all (fun e => zlen e.2.1 e.2.2) = true := by decide +kernel
theorem zn_153 : zi_153.all (fun e => zlen e.2.1 e.2.2) = true := by decide +kernel
theorem zn_154 : zi_154.all (fun e => zlen e.2.1 e.2.2) = true := by decide +kernel
theorem zn_155 : zi_155.all (fun e => zlen e.2.1 e.2.2) = true := by decide +kernel
theorem zn_156 : zi_156.all (fun e => zlen e.2.1 e.2.2) = true := by decide +kernel
theorem zn_157 : zi_157.all (fun e => zlen e.2.1 e.2.2) = true := by decide +kernel
theorem zn_158 : zi_158.all (fun e => zlen e.2.1 e.2.2) = true := by decide +kernel
theorem zn_159 : zi_159.all (fun e => zlen e.2.1 e.2.2) = true := by decide +kernel
theorem zn_160 : zi_160.all (fun e => zlen e.2.1 e.2.2) = true := by decide +kernel
theorem zn_161 : zi_161.all (fun e => zlen e.2.1 e.2.2) = true := by decide +kernel
theorem zn_162_0 : zi_162_0.all (fun e => zlen e.2.1 e.2.2) = true := by decide +kernel
theorem zn_162_1 : zi_162_1.all (fun e => zlen e.2.1 e.2.2) = true := by decide +kernel
theorem zn_162_2 : zi_162_2.all (fun e => zlen e.2.1 e.2.2) = true := by decide +kernel
theorem zn_162 : zi_162.all (fun e => zlen e.2.1 e.2.2) = true := by
  simp only [zi_162, List.all_append, zn_162_0, zn_162_1, zn_162_2, Bool.and_self]
theorem zn_163 : zi_163.all (fun e => zlen e.2.1 e.2.2) = true := by decide +kernel
theorem zn_164 : zi_164.all (fun e => zlen e.2.1 e.2.2) = true := by decide +kernel
theorem zn_165 : zi_165.all (fun e => zlen e.2.1 e.2.2) = true := by decide +kernel
theorem zn_166 : zi_166.all (fun e => zlen e.2.1 e.2.2) = true := by decide +kernel
theorem zn_167 : zi_167.all (fun e => zlen e.2.1 e.2.2) = true := by decide +kernel
theorem zn_168 : zi_168.all (fun e => zlen e.2.1 e.2.2) = true := by decide +kernel
theorem zn_169 : zi_169.all (fun e => zlen e.2.1 e.2.2) = true := by decide +kernel
theorem zn_170 : zi_170.all (fun e => zlen e.2.1 e.2.2) = true := by decide +kernel
theorem zn_171 : zi_171.all (fun e => zlen e.2.1 e.2.2) = true := by decide +kernel
theorem zn_172 : zi_172.all (fun e => zlen e.2.1 e.2.2) = true := by decide +kernel
theorem zn_173 : zi_173.all (fun e => zlen e.2.1 e.2.2) = true := by decide +kernel
theorem zn_174 : zi_174.all (fun e => zlen e.2.1 e.2.2) = true := by decide +kernel
theorem zn_175_0 : zi_175_0.all (fun e => zlen e.2.1 e.2.2) = true := by decide +kernel
theorem zn_175_1 : zi_175_1.all (fun e => zlen e.2.1 e.2.2) = true := by decide +kernel
theorem zn_175 : zi_175.all (fun e => zlen e.2.1 e.2.2) = true := by
  simp only [zi_175, List.all_append, zn_175_0, zn_175_1, Bool.and_self]
theorem zn_176 : zi_176.all (fun e => zlen e.2.1 e.2.2) = true := by decide +kernel
theorem zn_177 : zi_177.all (fun e => zlen e.2.1 e.2.2) = true := by decide +kernel
theorem zn_178_0 : zi_178_0.all (fun e => zlen e.2.1 e.2.2) = true := by decide +kernel
theorem zn_178_1 : zi_178_1.all (fun e => zlen e.2.1 e.2.2) = true := by decide +kernel
theorem zn_178 : zi_178.all (fun e => zlen e.2.1 e.2.2) = true := by
  simp only [zi_178, List.all_append, zn_178_0, zn_178_1, Bool.and_self]
theorem zn_179 : zi_179.all (fun e => zlen e.2.1 e.2.2) = true := by decide +kernel
theorem zn_180 : zi_180.all (fun e => zlen e.2.1 e.2.2) = true := by decide +kernel
theorem zn_181 : zi_181.all (fun e => zlen e.2.1 e.2.2) = true := by decide +kernel
theorem zn_182 : zi_182.all (fun e => zlen e.2.1 e.2.2) = true := by decide +kernel
theorem zn_183 : zi_183.all (fun e => zlen e.2.1 e.2.2) = true := by decide +kernel
theorem zn_184 : zi_184.all (fun e => zlen e.2.1 e.2.2) = true := by decide +kernel
theorem zn_185 : zi_185.all (fun e => zlen e.2.1 e.2.2) = true := by decide +kernel
theorem zn_186 : zi_186.all (fun e => zlen e.2.1 e.2.2) = true := by decide +kernel
theorem zn_187 : zi_187.all (fun e => zlen e.2.1 e.2.2) = true := by decide +kernel
theorem zn_188 : zi_188.all (fun e => zlen e.2.1 e.2.2) = true := by decide +kernel
theorem zn_189_0 : zi_189_0.all (fun e => zlen e.2.1 e.2.2) = true := by decide +kernel
theorem zn_189_1 : zi_189_1.all (fun e => zlen e.2.1 e.2.2) = true := by decide +kernel
theorem zn_189 : zi_189.all (fun e => zlen e.2.1 e.2.2) = true := by
  simp only [zi_189, List.all_append, zn_189_0, zn_189_1, Bool.and_self]
theorem zn_190_0 : zi_190_0.all (fun e => zlen e.2.1 e.2.2) = true := by decide +kernel
theorem zn_190_1 : zi_190_1.all (fun e => zlen e.2.1 e.2.2) = true := by decide +kernel
theorem zn_190 : zi_190.all (fun e => zlen e.2.1 e.2.2) = true := by
  simp only [zi_190, List.all_append, zn_190_0, zn_190_1, Bool.and_self]
theorem zn_191 : zi_191.all (fun e => zlen e.2.1 e.2.2) = true := by decide +kernel
theorem zn_192 : zi_192.all (fun e => zlen e.2.1 e.2.2) = true := by decide +kernel
theorem zn_193_0 : zi_193_0.all (fun e => zlen e.2.1 e.2.2) = true := by decide +kernel
theorem zn_193_1 : zi_193_1.all (fun e => zlen e.2.1 e.2.2) = true := by decide +kernel
theorem zn_193_2 : zi_193_2.all (fun e => zlen e.2.1 e.2.2) = true := by decide +kernel
theorem zn_193 : zi_193.all (fun e => zlen e.2.1 e.2.2) = true := by
  simp only [zi_193, List.all_append, zn_193_0, zn_193_1, zn_193_2, Bool.and_self]
theorem zn_194_0 : zi_194_0.all (fun e => zlen e.2.1 e.2.2) = true := by decide +kernel
theorem zn_194_1 : zi_194_1.all (fun e => zlen e.2.1 e.2.2) = true := by decide +kernel
theorem zn_194 : zi_194.all (fun e => zlen e.2.1 e.2.2) = true := by
  simp only [zi_194, List.all_append, zn_194_0, zn_194_1, Bool.and_self]
theorem zn_195_0 : zi_195_0.all (fun e => zlen e.2.1 e.2.2) = true := by decide +kernel
theorem zn_195_1 : zi_195_1.all (fun e => zlen e.2.1 e.2.2) = true := by decide +kernel
theorem zn_195_2 : zi_195_2.all (fun e => zlen e.2.1 e.2.2) = true := by decide +kernel
theorem zn_195 : zi_195.all (fun e => zlen e.2.1 e.2.2) = true := by
  simp only [zi_195, List.all_append, zn_195_0, zn_195_1, zn_195_2, Bool.and_self]
theorem zn_196 : zi_196.all (fun e => zlen e.2.1 e.2.2) = true := by decide +kernel
theorem zn_197_0 : zi_197_0.all (fun e => zlen e.2.1 e.2.2) = true := by decide +kernel
theorem zn_197_1 : zi_197_1.all (fun e => zlen e.2.1 e.2.2) = true := by decide +kernel
theorem zn_197 : zi_197.all (fun e => zlen e.2.1 e.2.2) = true := by
  simp only [zi_197, List.all_append, zn_197_0, zn_197_1, Bool.and_self]
theorem zn_198 : zi_198.all (fun e => zlen e.2.1 e.2.2) = true := by decide +kernel
theorem zn_199 : zi_199.all (fun e => zlen e.2.1 e.2.2) = true := by decide +kernel
theorem zn_200_0 : zi_200_0.all (fun e => zlen e.2.1 e.2.2) = true := by decide +kernel
theorem zn_200_1 : zi_200_1.all (fun e => zlen e.2.1 e.2.2) = true := by decide +kernel
theorem zn_200 : zi_200.all (fun e => zlen e.2.1 e.2.2) = true := by
  simp only [zi_200, List.all_append, zn_200_0, zn_200_1, Bool.and_self]
theorem zn_201 : zi_201.all (fun e => zlen e.2.1 e.2.2) = true := by decide +kernel
theorem zn_202 : zi_202.all (fun e => zlen e.2.1 e.2.2) = true := by decide +kernel
theorem zn_203 : zi_203.all (fun e => zlen e.2.1 e.2.2) = true := by decide +kernel
theorem zn_204 : zi_204.all (fun e => zlen e.2.1 e.2.2) = true := by decide +kernel
theorem zn_205_0 : zi_205_0.all (fun e => zlen e.2.1 e.2.2) = true := by decide +kernel
theorem zn_205_1 : zi_205_1.all (fun e => zlen e.2.1 e.2.2) = true := by decide +kernel
theorem zn_205 : zi_205.all (fun e => zlen e.2.1 e.2.2) = true := by
  simp only [zi_205, List.all_append, zn_205_0, zn_205_1, Bool.and_self]
theorem zn_206 : zi_206.all (fun e => zlen e.2.1 e.2.2) = true := by decide +kernel
theorem zn_207 : zi_207.all (fun e => zlen e.2.1 e.2.2) = true := by decide +kernel
theorem zn_208_0 : zi_208_0.all (fun e => zlen e.2.1 e.2.2) = true := by decide +kernel
theorem zn_208_1 : zi_208_1.all (fun e => zlen e.2.1 e.2.2) = true := by decide +kernel
theorem zn_208 : zi_208.all (fun e => zlen e.2.1 e.2.2) = true := by
  simp only [zi_208, List.all_append, zn_208_0, zn_208_1, Bool.and_self]
theorem zn_209_0 : zi_209_0.all (fun e => zlen e.2.1 e.2.2) = true := by decide +kernel
theorem zn_209_1 : zi_209_1.all (fun e => zlen e.2.1 e.2.2) = true := by decide +kernel
theorem zn_209 : zi_209.all (fun e => zlen e.2.1 e.2.2) = true := by
  simp only [zi_209, List.all_append, zn_209_0, zn_209_1, Bool.and_self]
theorem zn_210 : zi_210.all (fun e => zlen e.2.1 e.2.2) = true := by decide +kernel
theorem zn_211 : zi_211.all (fun e => zlen e.2.1 e.2.2) = true := by decide +kernel
theorem zn_212 : zi_212.all (fun e => zlen e.2.1 e.2.2) = true := by decide +kernel
theorem zn_213_0 : zi_213_0.all (fun e => zlen e.2.1 e.2.2) = true := by decide +kernel
theorem zn_213_1 : zi_213_1.all (fun e => zlen e.2.1 e.2.2) = true := by decide +kernel
theorem zn_213 : zi_213.all (fun e => zlen e.2.1 e.2.2) = true := by
  simp only [zi_213, List.all_append, zn_213_0, zn_213_1, Bool.and_self]
theorem zn_214 : zi_214.all (fun e => zlen e.2.1 e.2.2) = true := by decide +kernel
theorem zn_215 : zi_215.all (fun e => zlen e.2.1 e.2.2) = true := by decide +kernel
theorem zn_216 : zi_216.all (fun e => zlen e.2.1 e.2.2) = true := by decide +kernel
theorem zn_217 : zi_217.all (fun e => zlen e.2.1 e.2.2) = true := by decide +kernel
theorem zn_218 : zi_218.all (fun e => zlen e.2.1 e.2.2) = true := by decide +kernel
theorem zn_219_0 : zi_219_0.all (fun e => zlen e.2.1 e.2.2) = true := by decide +kernel
theorem zn_219_1 : zi_219_1.all (fun e => zlen e.2.1 e.2.2) = true := by decide +kernel
theorem zn_219 : zi_219.all (fun e => zlen e.2.1 e.2.2) = true := by
  simp only [zi_219, List.all_append, zn_219_0, zn_219_1, Bool.and_self]
theorem zn_220 : zi_220.all (fun e => zlen e.2.1 e.2.2) = true := by decide +kernel
theorem zn_221 : zi_221.all (fun e => zlen e.2.1 e.2.2) = true := by decide +kernel
theorem zn_222 : zi_222.all (fun e => zlen e.2.1 e.2.2) = true := by decide +kernel
theorem zn_223 : zi_223.all (fun e => zlen e.2.1 e.2.2) = true := by decide +kernel
theorem zn_224 : zi_224.all (fun e => zlen e.2.1 e.2.2) = true := by decide +kernel
theorem zn_225 : zi_225.all (fun e => zlen e.2.1 e.2.2) = true := by decide +kernel
theorem zn_226_0 : zi_226_0.all (fun e => zlen e.2.1 e.2.2) = true := by decide +kernel
theorem zn_226_1 : zi_226_1.all (fun e => zlen e.2.1 e.2.2) = true := by decide +kernel
theorem zn_226 : zi_226.all (fun e => zlen e.2.1 e.2.2) = true := by
  simp only [zi_226, List.all_append, zn_226_0, zn_226_1, Bool.and_self]
theorem zn_227 : zi_227.all (fun e => zlen e.2.1 e.2.2) = true := by decide +kernel
theorem zn_228 : zi_228.all (fun e => zlen e.2.1 e.2.2) = true := by decide +kernel
theorem zn_229 : zi_229.all (fun e => zlen e.2.1 e.2.2) = true := by decide +kernel
theorem zn_230 : zi_230.all (fun e => zlen e.2.1 e.2.2) = true := by decide +kernel
theorem zn_231 : zi_231.all (fun e => zlen e.2.1 e.2.2) = true := by decide +kernel
theorem zn_232 : zi_232.all (fun e => zlen e.2.1 e.2.2) = true := by decide +kernel
theorem zn_233 : zi_233.all (fun e => zlen e.2.1 e.2.2) = true := by decide +kernel
theorem zn_234 : zi_234.all (fun e => zlen e.2.1 e.2.2) = true := by decide +kernel
theorem zn_235 : zi_235.all (fun e => zlen e.2.1 e.2.2) = true := by decide +kernel
theorem zn_236 : zi_236.all (fun e => zlen e.2.1 e.2.2) = true := by decide +kernel
theorem zn_237 : zi_237.all (fun e => zlen e.2.1 e.2.2) = true := by decide +kernel
theorem zn_238_0 : zi_238_0.all (fun e => zlen e.2.1 e.2.2) = true := by decide +kernel
theorem zn_238_1 : zi_238_1.all (fun e => zlen e.2.1 e.2.2) = true := by decide +kernel
theorem zn_238_2 : zi_238_2.all (fun e => zlen e.2.1 e.2.2) = true := by decide +kernel
theorem zn_238 : zi_238.all (fun e => zlen e.2.1 e.2.2) = true := by
  simp only [zi_238, List.all_append, zn_238_0, zn_238_1, zn_238_2, Bool.and_self]
theorem zn_239 : zi_239.all (fun e => zlen e.2.1 e.2.2) = true := by decide +kernel
theorem zn_240 : zi_240.all (fun e => zlen e.2.1 e.2.2) = true := by decide +kernel
theorem zn_241 : zi_241.all (fun e => zlen e.2.1 e.2.2) = true := by decide +kernel
theorem zn_242_0 : zi_242_0.all (fun e => zlen e.2.1 e.2.2) = true := by decide +kernel
theorem zn_242_1 : zi_242_1.all (fun e => zlen e.2.1 e.2.2) = true := by decide +kernel
theorem zn_242 : zi_242.all (fun e => zlen e.2.1 e.2.2) = true := by
  simp only [zi_242, List.all_append, zn_242_0, zn_242_1, Bool.and_self]
theorem zn_243_0 : zi_243_0.all (fun e => zlen e.2.1 e.2.2) = true := by decide +kernel
theorem zn_243_1 : zi_243_1.all (fun e => zlen e.2.1 e.2.2) = true := by decide +kernel
theorem zn_243 : zi_243.all (fun e => zlen e.2.1 e.2.2) = true := by
  simp only [zi_243, List.all_append, zn_243_0, zn_243_1, Bool.and_self]
theorem zn_244 : zi_244.all (fun e => zlen e.2.1 e.2.2) = true := by decide +kernel
theorem zn_245 : zi_245.all (fun e => zlen e.2.1 e.2.2) = true := by decide +kernel
theorem zn_246 : zi_246.all (fun e => zlen e.2.1 e.2.2) = true := by decide +kernel
theorem zn_247 : zi_247.all (fun e => zlen e.2.1 e.2.2) = true := by decide +kernel
theorem zn_248 : zi_248.all (fun e => zlen e.2.1 e.2.2) = true := by decide +kernel
theorem zn_249 : zi_249.all (fun e => zlen e.2.1 e.2.2) = true := by decide +kernel
theorem zn_250 : zi_250.all (fun e => zlen e.2.1 e.2.2) = true := by decide +kernel
theorem zn_251 : zi_251.all (fun e => zlen e.2.1 e.2.2) = true := by decide +kernel
theorem zn_252 : zi_252.all (fun e => zlen e.2.1 e.2.2) = true := by decide +kernel
theorem zn_253 : zi_253.all (fun e => zlen e.2.1 e.2.2) = true := by decide +kernel
theorem zn_254_0 : zi_254_0.all (fun e => zlen e.2.1 e.2.2) = true := by decide +kernel
theorem zn_254_1 : zi_254_1.all (fun e => zlen e.2.1 e.2.2) = true := by decide +kernel
theorem zn_254 : zi_254.all (fun e => zlen e.2.1 e.2.2) = true := by
  simp only [zi_254, List.all_append, zn_254_0, zn_254_1, Bool.and_self]
theorem zn_255 : zi_255.all (fun e => zlen e.2.1 e.2.2) = true := by decide +kernel
theorem zn_256 : zi_256.all (fun e => zlen e.2.1 e.2.2) = true := by decide +kernel
theorem zn_257 : zi_257.all (fun e => zlen e.2.1 e.2.2) = true := by decide +kernel
theorem zn_258_0 : zi_258_0.all (fun e => zlen e.2.1 e.2.2) = true := by decide +kernel
theorem zn_258_1 : zi_258_1.all (fun e => zlen e.2.1 e.2.2) = true := by decide +kernel
theorem zn_258 : zi_258.all (fun e => zlen e.2.1 e.2.2) = true := by
  simp only [zi_258, List.all_append, zn_258_0, zn_258_1, Bool.and_self]
theorem zn_259_0 : zi_259_0.all (fun e => zlen e.2.1 e.2.2) = true := by decide +kernel
theorem zn_259_1 : zi_259_1.all (fun e => zlen e.2.1 e.2.2) = true := by decide +kernel
theorem zn_259 : zi_259.all (fun e => zlen e.2.1 e.2.2) = true := by
  simp only [zi_259, List.all_append, zn_259_0, zn_259_1, Bool.and_self]
theorem zn_260_0 : zi_260_0.all (fun e => zlen e.2.1 e.2.2) = true := by decide +kernel
theorem zn_260_1 : zi_260_1.all (fun e => zlen e.2.1 e.2.2) = true := by decide +kernel
theorem zn_260 : zi_260.all (fun e => zlen e.2.1 e.2.2) = true := by
  simp only [zi_260, List.all_append, zn_260_0, zn_260_1, Bool.and_self]
theorem zn_261 : zi_261.all (fun e => zlen e.2.1 e.2.2) = true := by decide +kernel
theorem zn_262_0 : zi_262_0.all (fun e => zlen e.2.1 e.2.2) = true := by decide +kernel
theorem zn_262_1 : zi_262_1.all (fun e => zlen e.2.1 e.2.2) = true := by decide +kernel
theorem zn_262 : zi_262.all (fun e => zlen e.2.1 e.2.2) = true := by
  simp only [zi_262, List.all_append, zn_262_0, zn_262_1, Bool.and_self]
theorem zn_263 : zi_263.all (fun e => zlen e.2.1 e.2.2) = true := by decide +kernel
theorem zn_264 : zi_264.all (fun e => zlen e.2.1 e.2.2) = true := by decide +kernel
theorem zn_265_0 : zi_265_0.all (fun e => zlen e.2.1 e.2.2) = true := by decide +kernel
theorem zn_265_1 : zi_265_1.all (fun e => zlen e.2.1 e.2.2) = true := by decide +kernel
theorem zn_265 : zi_265.all (fun e => zlen e.2.1 e.2.2) = true := by
  simp only [zi_265, List.all_append, zn_265_0, zn_265_1, Bool.and_self]
theorem zn_266 : zi_266.all (fun e => zlen e.2.1 e.2.2) = true := by decide +kernel
theorem zn_267_0 : zi_267_0.all (fun e => zlen e.2.1 e.2.2) = true := by decide +kernel
theorem zn_267_1 : zi_267_1.all (fun e => zlen e.2.1 e.2.2) = true := by decide +kernel
theorem zn_267 : zi_267.all (fun e => zlen e.2.1 e.2.2) = true := by
  simp only [zi_267, List.all_append, zn_267_0, zn_267_1, Bool.and_self]
theorem zn_268 : zi_268.all (fun e => zlen e.2.1 e.2.2) = true := by decide +kernel
theorem zn_269 : zi_269.all (fun e => zlen e.2.1 e.2.2) = true := by decide +kernel
theorem zn_270 : zi_270.all (fun e => zlen e.2.1 e.2.2) = true := by decide +kernel
theorem zn_271 : zi_271.all (fun e => zlen e.2.1 e.2.2) = true := by decide +kernel
theorem zn_272 : zi_272.all (fun e => zlen e.2.1 e.2.2) = true := by decide +kernel
theorem zn_273_0 : zi_273_0.all (fun e => zlen e.2.1 e.2.2) = true := by decide +kernel
theorem zn_273_1 : zi_273_1.all (fun e => zlen e.2.1 e.2.2) = true := by decide +kernel
theorem zn_273 : zi_273.all (fun e => zlen e.2.1 e.2.2) = true := by
  simp only [zi_273, List.all_append, zn_273_0, zn_273_1, Bool.and_self]
theorem zn_274 : zi_274.all (fun e => zlen e.2.1 e.2.2) = true := by decide +kernel
theorem zn_275 : zi_275.all (fun e => zlen e.2.1 e.2.2) = true := by decide +kernel
theorem zn_276 : zi_276.all (fun e => zlen e.2.1 e.2.2) = true := by decide +kernel
theorem zn_277 : zi_277.all (fun e => zlen e.2.1 e.2.2) = true := by decide +kernel
theorem zn_278_0 : zi_278_0.all (fun e => zlen e.2.1 e.2.2) = true := by decide +kernel
theorem zn_278_1 : zi_278_1.all (fun e => zlen e.2.1 e.2.2) = true := by decide +kernel
theorem zn_278 : zi_278.all (fun e => zlen e.2.1 e.2.2) = true := by
  simp only [zi_278, List.all_append, zn_278_0, zn_278_1, Bool.and_self]
theorem zn_279 : zi_279.all (fun e => zlen e.2.1 e.2.2) = true := by decide +kernel
theorem zn_280 : zi_280.all (fun e => zlen e.2.1 e.2.2) = true := by decide +kernel
theorem zn_281 : zi_281.all (fun e => zlen e.2.1 e.2.2) = true := by decide +kernel
theorem zn_282_0 : zi_282_0.all (fun e => zlen e.2.1 e.2.2) = true := by decide +kernel
theorem zn_282_1 : zi_282_1.all (fun e => zlen e.2.1 e.2.2) = true := by decide +kernel
theorem zn_282_2 : zi_282_2.all (fun e => zlen e.2.1 e.2.2) = true := by decide +kernel
theorem zn_282_3 : zi_282_3.all (fun e => zlen e.2.1 e.2.2) = true := by decide +kernel
theorem zn_282_4 : zi_282_4.all (fun e => zlen e.2.1 e.2.2) = true := by decide +kernel
theorem zn_282_5 : zi_282_5.all (fun e => zlen e.2.1 e.2.2) = true := by decide +kernel
theorem zn_282_6 : zi_282_6.all (fun e => zlen e.2.1 e.2.2) = true := by decide +kernel
theorem zn_282_7 : zi_282_7.all (fun e => zlen e.2.1 e.2.2) = true := by decide +kernel
theorem zn_282_8 : zi_282_8.all (fun e => zlen e.2.1 e.2.2) = true := by decide +kernel
theorem zn_282_9 : zi_282_9.all (fun e => zlen e.2.1 e.2.2) = true := by decide +kernel
theorem zn_282_10 : zi_282_10.all (fun e => zlen e.2.1 e.2.2) = true := by decide +kernel
theorem zn_282_11 : zi_282_11.all (fun e => zlen e.2.1 e.2.2) = true := by decide +kernel
theorem zn_282_12 : zi_282_12.all (fun e => zlen e.2.1 e.2.2) = true := by decide +kernel
theorem zn_282_13 : zi_282_13.all (fun e => zlen e.2.1 e.2.2) = true := by decide +kernel
theorem zn_282_14 : zi_282_14.all (fun e => zlen e.2.1 e.2.2) = true := by decide +kernel
theorem zn_282_15 : zi_282_15.all (fun e => zlen e.2.1 e.2.2) = true := by decide +kernel
theorem zn_282_16 : zi_282_16.all (fun e => zlen e.2.1 e.2.2) = true := by decide +kernel
theorem zn_282_17 : zi_282_17.all (fun e => zlen e.2.1 e.2.2) = true := by decide +kernel
theorem zn_282_18 : zi_282_18.all (fun e => zlen e.2.1 e.2.2) = true := by decide +kernel
theorem zn_282_19 : zi_282_19.all (fun e => zlen e.2.1 e.2.2) = true := by decide +kernel
theorem zn_282_20 : zi_282_20.all (fun e => zlen e.2.1 e.2.2) = true := by decide +kernel
theorem zn_282_21 : zi_282_21.all (fun e => zlen e.2.1 e.2.2) = true := by decide +kernel
theorem zn_282 : zi_282.all (fun e => zlen e.2.1 e.2.2) = true := by
  simp only [zi_282, List.all_append, zn_282_0, zn_282_1, zn_282_2, zn_282_3, zn_282_4, zn_282_5, zn_282_6, zn_282_7, zn_282_8, zn_282_9, zn_282_10, zn_282_11, zn_282_12, zn_282_13, zn_282_14, zn_282_15, zn_282_16, zn_282_17, zn_282_18, zn_282_19, zn_282_20, zn_282_21, Bool.and_self]
set_option maxRecDepth 100000 in
theorem zn_all : ∀ mi, (zIT mi).all (fun e => zlen e.2.1 e.2.2) = true := by
  intro mi
  match mi with
  | 0 => exact zn_0
  | 1 => exact zn_1
  | 2 => exact zn_2
  | 3 => exact zn_3
  | 4 => exact zn_4
  | 5 => exact zn_5
  | 6 => exact zn_6
  | 7 => exact zn_7
  | 8 => exact zn_8
  | 9 => exact zn_9
  | 10 => exact zn_10
  | 11 => exact zn_11
  | 12 => exact zn_12
  | 13 => exact zn_13
  | 14 => exact zn_14
  | 15 => exact zn_15
  | 16 => exact zn_16
  | 17 => exact zn_17
  | 18 => exact zn_18
  | 19 => exact zn_19
  | 20 => exact zn_20
  | 21 => exact zn_21
  | 22 => exact zn_22
  | 23 => exact zn_23
  | 24 => exact zn_24
  | 25 => exact zn_25
  | 26 => exact zn_26
  | 27 => exact zn_27
  | 28 => exact zn_28
  | 29 => exact zn_29
  | 30 => exact zn_30
  | 31 => exact zn_31
  | 32 => exact zn_32
  | 33 => exact zn_33
  | 34 => exact zn_34
  | 35 => exact zn_35
  | 36 => exact zn_36
  | 37 => exact zn_37
  | 38 => exact zn_38
  | 39 => exact zn_39
  | 40 => exact zn_40
  | 41 => exact zn_41
  | 42 => exact zn_42
  | 43 => exact zn_43
  | 44 => exact zn_44
  | 45 => exact zn_45
  | 46 => exact zn_46
  | 47 => exact zn_47
  | 48 => exact zn_48
  | 49 => exact zn_49
  | 50 => exact zn_50
  | 51 => exact zn_51
  | 52 => exact zn_52
  | 53 => exact zn_53
  | 54 => exact zn_54
  | 55 => exact zn_55
  | 56 => exact zn_56
  | 57 => exact zn_57
  | 58 => exact zn_58
  | 59 => exact zn_59
  | 60 => exact zn_60
  | 61 => exact zn_61
  | 62 => exact zn_62
  | 63 => exact zn_63
  | 64 => exact zn_64
  | 65 => exact zn_65
  | 66 => exact zn_66
  | 67 => exact zn_67
  | 68 => exact zn_68
  | 69 => exact zn_69
  | 70 => exact zn_70
  | 71 => exact zn_71
  | 72 => exact zn_72
  | 73 => exact zn_73
  | 74 => exact zn_74
  | 75 => exact zn_75
  | 76 => exact zn_76
  | 77 => exact zn_77
  | 78 => exact zn_78
  | 79 => exact zn_79
  | 80 => exact zn_80
  | 81 => exact zn_81
  | 82 => exact zn_82
  | 83 => exact zn_83
  | 84 => exact zn_84
  | 85 => exact zn_85
  | 86 => exact zn_86
  | 87 => exact zn_87
  | 88 => exact zn_88
  | 89 => exact zn_89
  | 90 => exact zn_90
  | 91 => exact zn_91
  | 92 => exact zn_92
  | 93 => exact zn_93
  | 94 => exact zn_94
  | 95 => exact zn_95
  | 96 => exact zn_96
  | 97 => exact zn_97
  | 98 => exact zn_98
  | 99 => exact zn_99
  | 100 => exact zn_100
  | 101 => exact zn_101
  | 102 => exact zn_102
  | 103 => exact zn_103
  | 104 => exact zn_104
  | 105 => exact zn_105
  | 106 => exact zn_106
  | 107 => exact zn_107
  | 108 => exact zn_108
  | 109 => exact zn_109
  | 110 => exact zn_110
  | 111 => exact zn_111
  | 112 => exact zn_112
  | 113 => exact zn_113
  | 114 => exact zn_114
  | 115 => exact zn_115
  | 116 => exact zn_116
  | 117 => exact zn_117
  | 118 => exact zn_118
  | 119 => exact zn_119
  | 120 => exact zn_120
  | 121 => exact zn_121
  | 122 => exact zn_122
  | 123 => exact zn_123
  | 124 => exact zn_124
  | 125 => exact zn_125
  | 126 => exact zn_126
  | 127 => exact zn_127
  | 128 => exact zn_128
  | 129 => exact zn_129
  | 130 => exact zn_130
  | 131 => exact zn_131
  | 132 => exact zn_132
  | 133 => exact zn_133
  | 134 => exact zn_134
  | 135 => exact zn_135
  | 136 => exact zn_136
  | 137 => exact zn_137
  | 138 => exact zn_138
  | 139 => exact zn_139
  | 140 => exact zn_140
  | 141 => exact zn_141
  | 142 => exact zn_142
  | 143 => exact zn_143
  | 144 => exact zn_144
  | 145 => exact zn_145
  | 146 => exact zn_146
  | 147 => exact zn_147
  | 148 => exact zn_148
  | 149 => exact zn_149
  | 150 => exact zn_150
  | 151 => exact zn_151
  | 152 => exact zn_152
  | 153 => exact zn_153
  | 154 => exact zn_154
  | 155 => exact zn_155
  | 156 => exact zn_156
  | 157 => exact zn_157
  | 158 => exact zn_158
  | 159 => exact zn_159
  | 160 => exact zn_160
  | 161 => exact zn_161
  | 162 => exact zn_162
  | 163 => exact zn_163
  | 164 => exact zn_164
  | 165 => exact zn_165
  | 166 => exact zn_166
  | 167 => exact zn_167
  | 168 => exact zn_168
  | 169 => exact zn_169
  | 170 => exact zn_170
  | 171 => exact zn_171
  | 172 => exact zn_172
  | 173 => exact zn_173
  | 174 => exact zn_174
  | 175 => exact zn_175
  | 176 => exact zn_176
  | 177 => exact zn_177
  | 178 => exact zn_178
  | 179 => exact zn_179
  | 180 => exact zn_180
  | 181 => exact zn_181
  | 182 => exact zn_182
  | 183 => exact zn_183
  | 184 => exact zn_184
  | 185 => exact zn_185
  | 186 => exact zn_186
  | 187 => exact zn_187
  | 188 => exact zn_188
  | 189 => exact zn_189
  | 190 => exact zn_190
  | 191 => exact zn_191
  | 192 => exact zn_192
  | 193 => exact zn_193
  | 194 => exact zn_194
  | 195 => exact zn_195
  | 196 => exact zn_196
  | 197 => exact zn_197
  | 198 => exact zn_198
  | 199 => exact zn_199
  | 200 => exact zn_200
  | 201 => exact zn_201
  | 202 => exact zn_202
  | 203 => exact zn_203
  | 204 => exact zn_204
  | 205 => exact zn_205
  | 206 => exact zn_206
  | 207 => exact zn_207
  | 208 => exact zn_208
  | 209 => exact zn_209
  | 210 => exact zn_210
  | 211 => exact zn_211
  | 212 => exact zn_212
  | 213 => exact zn_213
  | 214 => exact zn_214
  | 215 => exact zn_215
  | 216 => exact zn_216
  | 217 => exact zn_217
  | 218 => exact zn_218
  | 219 => exact zn_219
  | 220 => exact zn_220
  | 221 => exact zn_221
  | 222 => exact zn_222
  | 223 => exact zn_223
  | 224 => exact zn_224
  | 225 => exact zn_225
  | 226 => exact zn_226
  | 227 => exact zn_227
  | 228 => exact zn_228
  | 229 => exact zn_229
  | 230 => exact zn_230
  | 231 => exact zn_231
  | 232 => exact zn_232
  | 233 => exact zn_233
  | 234 => exact zn_234
  | 235 => exact zn_235
  | 236 => exact zn_236
  | 237 => exact zn_237
  | 238 => exact zn_238
  | 239 => exact zn_239
  | 240 => exact zn_240
  | 241 => exact zn_241
  | 242 => exact zn_242
  | 243 => exact zn_243
  | 244 => exact zn_244
  | 245 => exact zn_245
  | 246 => exact zn_246
  | 247 => exact zn_247
  | 248 => exact zn_248
  | 249 => exact zn_249
  | 250 => exact zn_250
  | 251 => exact zn_251
  | 252 => exact zn_252
  | 253 => exact zn_253
  | 254 => exact zn_254
  | 255 => exact zn_255
  | 256 => exact zn_256
  | 257 => exact zn_257
  | 258 => exact zn_258
  | 259 => exact zn_259
  | 260 => exact zn_260
  | 261 => exact zn_261
  | 262 => exact zn_262
  | 263 => exact zn_263
  | 264 => exact zn_264
  | 265 => exact zn_265
  | 266 => exact zn_266
  | 267 => exact zn_267
  | 268 => exact zn_268
  | 269 => exact zn_269
  | 270 => exact zn_270
  | 271 => exact zn_271
  | 272 => exact zn_272
  | 273 => exact zn_273
  | 274 => exact zn_274
  | 275 => exact zn_275
  | 276 => exact zn_276
  | 277 => exact zn_277
  | 278 => exact zn_278
  | 279 => exact zn_279
  | 280 => exact zn_280
  | 281 => exact zn_281
  | 282 => exact zn_282
  | n + 283 => rfl
theorem zdec_len {mi pc len : Nat} {i : Instr} (h : zdec mi pc = some (i, len)) : zlen i len = true := List.all_eq_true.mp (zn_all mi) (pc, i, len) (zlk_mem (l := zIT mi) (pc := pc) (i := i) (n := len) h)
theorem zks_0 : (zKS_0).all (fun e => decide (e.2.1 < 19)) = true := by decide +kernel
theorem zks_1 : (zKS_1).all (fun e => decide (e.2.1 < 19)) = true := by decide +kernel
theorem zks_2 : (zKS_2).all (fun e => decide (e.2.1 < 19)) = true := by decide +kernel
theorem zks_3 : (zKS_3).all (fun e => decide (e.2.1 < 19)) = true := by decide +kernel
theorem zks_4 : (zKS_4).all (fun e => decide (e.2.1 < 19)) = true := by decide +kernel
theorem zks_5 : (zKS_5).all (fun e => decide (e.2.1 < 19)) = true := by decide +kernel
theorem zks_6 : (zKS_6).all (fun e => decide (e.2.1 < 19)) = true := by decide +kernel
theorem zks_7 : (zKS_7).all (fun e => decide (e.2.1 < 19)) = true := by decide +kernel
theorem zks_8 : (zKS_8).all (fun e => decide (e.2.1 < 19)) = true := by decide +kernel
theorem zks_9 : (zKS_9).all (fun e => decide (e.2.1 < 19)) = true := by decide +kernel
theorem zks_10 : (zKS_10).all (fun e => decide (e.2.1 < 19)) = true := by decide +kernel
theorem zks_11 : (zKS_11).all (fun e => decide (e.2.1 < 19)) = true := by decide +kernel
theorem zks_12 : (zKS_12).all (fun e => decide (e.2.1 < 19)) = true := by decide +kernel
theorem zks_all : ∀ oc, (zKS oc).all (fun e => decide (e.2.1 < 19)) = true := by
  intro oc
  match oc with
  | 0 => exact zks_0
  | 1 => exact zks_1
  | 2 => exact zks_2
  | 3 => exact zks_3
  | 4 => exact zks_4
  | 5 => exact zks_5
  | 6 => exact zks_6
  | 7 => exact zks_7
  | 8 => exact zks_8
  | 9 => exact zks_9
  | 10 => exact zks_10
  | 11 => exact zks_11
  | 12 => exact zks_12
  | n + 13 => rfl
theorem zsh_ok : zsh.all (fun q => decide (q.1 < 100 → (zCl[q.1]?).map (fun r => r.2.2) = some q.2)) = true := by decide +kernel
theorem zsh_tags : zsh.all (fun q => decide (q.1 < 11 ∨ (100 ≤ q.1 ∧ q.1 < 109))) = true := by decide +kernel
theorem zsh_len : zsh.length = 313 := by decide +kernel
def zgood : List Cond := lw_tbl.filter goodWord
def zisN (w : Cond) : Bool := match w with
  | .fieldLinkNest .. => true
  | .methodLinkNest .. => true
  | _ => false
def znest : List Cond := lw_tbl.filter zisN
