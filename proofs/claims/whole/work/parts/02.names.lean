def zT0 : u_T := fun k => match k with
  | 0 => ("SlowOrder$Council", "seats", "I", false)
  | 1 => ("SlowOrder$Council", "seal", "I", false)
  | 2 => ("SlowOrder$Council", "goal", "[I", true)
  | 3 => ("SlowOrder$Council", "about", "[I", true)
  | 4 => ("SlowOrder$Council", "saying", "[I", true)
  | 5 => ("SlowOrder$Council", "undoing", "[I", true)
  | _ => ("SlowOrder$Council", "coming", "[I", true)
def zt0 : Nat → FieldType := fun k => match k with
  | 0 => .int
  | 1 => .int
  | 2 => .array (.int)
  | 3 => .array (.int)
  | 4 => .array (.int)
  | 5 => .array (.int)
  | _ => .array (.int)
def zT1 : u_T := fun k => match k with
  | 0 => ("SlowOrder$Court", "realm", "LSlowOrder$Realm;", true)
  | 1 => ("SlowOrder$Court", "council", "LSlowOrder$Council;", true)
  | 2 => ("SlowOrder$Court", "ways", "LSlowOrder$Ways;", true)
  | 3 => ("SlowOrder$Court", "floods", "LSlowOrder$Floods;", true)
  | 4 => ("SlowOrder$Court", "drawn", "LSlowOrder$Floods;", true)
  | 5 => ("SlowOrder$Court", "trips", "[LSlowOrder$Trip;", true)
  | 6 => ("SlowOrder$Court", "thought", "LSlowOrder$Trip;", true)
  | 7 => ("SlowOrder$Court", "comings", "[[I", true)
  | 8 => ("SlowOrder$Court", "learnt", "[Z", true)
  | 9 => ("SlowOrder$Court", "thoughtHours", "[I", true)
  | 10 => ("SlowOrder$Court", "unrest", "[I", true)
  | 11 => ("SlowOrder$Court", "told", "[I", true)
  | 12 => ("SlowOrder$Court", "bears", "[Z", true)
  | 13 => ("SlowOrder$Court", "agreeing", "[I", true)
  | 14 => ("SlowOrder$Court", "firstRider", "I", false)
  | 15 => ("SlowOrder$Court", "firstHour", "I", false)
  | _ => ("SlowOrder$Court", "firstVia", "I", false)
def zt1 : Nat → FieldType := fun k => match k with
  | 0 => .object "SlowOrder$Realm"
  | 1 => .object "SlowOrder$Council"
  | 2 => .object "SlowOrder$Ways"
  | 3 => .object "SlowOrder$Floods"
  | 4 => .object "SlowOrder$Floods"
  | 5 => .array (.object "SlowOrder$Trip")
  | 6 => .object "SlowOrder$Trip"
  | 7 => .array (.array (.int))
  | 8 => .array (.boolean)
  | 9 => .array (.int)
  | 10 => .array (.int)
  | 11 => .array (.int)
  | 12 => .array (.boolean)
  | 13 => .array (.int)
  | 14 => .int
  | 15 => .int
  | _ => .int
def zT2 : u_T := fun k => match k with
  | 0 => ("SlowOrder$Floods", "wet", "[B", true)
  | 1 => ("SlowOrder$Floods", "hours", "I", false)
  | _ => ("SlowOrder$Floods", "drawn", "J", false)
def zt2 : Nat → FieldType := fun k => match k with
  | 0 => .array (.byte)
  | 1 => .int
  | _ => .long
def zT3 : u_T := fun k => match k with
  | 0 => ("SlowOrder$Order", "rider", "I", false)
  | 1 => ("SlowOrder$Order", "thing", "I", false)
  | 2 => ("SlowOrder$Order", "says", "I", false)
  | 3 => ("SlowOrder$Order", "undoes", "I", false)
  | 4 => ("SlowOrder$Order", "from", "I", false)
  | 5 => ("SlowOrder$Order", "to", "I", false)
  | 6 => ("SlowOrder$Order", "hour", "I", false)
  | 7 => ("SlowOrder$Order", "vias", "I", false)
  | 8 => ("SlowOrder$Order", "via", "[I", true)
  | 9 => ("SlowOrder$Order", "wished", "Z", false)
  | 10 => ("SlowOrder$Order", "wishSays", "I", false)
  | 11 => ("SlowOrder$Order", "wishTown", "I", false)
  | _ => ("SlowOrder$Order", "wishHour", "I", false)
def zt3 : Nat → FieldType := fun k => match k with
  | 0 => .int
  | 1 => .int
  | 2 => .int
  | 3 => .int
  | 4 => .int
  | 5 => .int
  | 6 => .int
  | 7 => .int
  | 8 => .array (.int)
  | 9 => .boolean
  | 10 => .int
  | 11 => .int
  | _ => .int
def zT4 : u_T := fun k => match k with
  | 0 => ("SlowOrder$Reader", "text", "[B", true)
  | 1 => ("SlowOrder$Reader", "draft", "LSlowOrder$Realm;", true)
  | 2 => ("SlowOrder$Reader", "size", "I", false)
  | 3 => ("SlowOrder$Reader", "kind", "I", false)
  | 4 => ("SlowOrder$Reader", "place", "I", false)
  | 5 => ("SlowOrder$Reader", "stop", "I", false)
  | 6 => ("SlowOrder$Reader", "value", "I", false)
  | 7 => ("SlowOrder$Reader", "numberPlace", "I", false)
  | 8 => ("SlowOrder$Reader", "fault", "I", false)
  | _ => ("SlowOrder$Reader", "faultPlace", "I", false)
def zt4 : Nat → FieldType := fun k => match k with
  | 0 => .array (.byte)
  | 1 => .object "SlowOrder$Realm"
  | 2 => .int
  | 3 => .int
  | 4 => .int
  | 5 => .int
  | 6 => .int
  | 7 => .int
  | 8 => .int
  | _ => .int
def zT5 : u_T := fun k => match k with
  | 0 => ("SlowOrder$Realm", "lines", "I", false)
  | 1 => ("SlowOrder$Realm", "towns", "I", false)
  | 2 => ("SlowOrder$Realm", "hours", "I", false)
  | 3 => ("SlowOrder$Realm", "seal", "I", false)
  | 4 => ("SlowOrder$Realm", "roads", "I", false)
  | 5 => ("SlowOrder$Realm", "floods", "I", false)
  | 6 => ("SlowOrder$Realm", "riders", "I", false)
  | 7 => ("SlowOrder$Realm", "orders", "I", false)
  | 8 => ("SlowOrder$Realm", "roadFrom", "[I", true)
  | 9 => ("SlowOrder$Realm", "roadTo", "[I", true)
  | 10 => ("SlowOrder$Realm", "roadHours", "[I", true)
  | 11 => ("SlowOrder$Realm", "floodRoad", "[I", true)
  | 12 => ("SlowOrder$Realm", "floodFrom", "[I", true)
  | 13 => ("SlowOrder$Realm", "floodTo", "[I", true)
  | 14 => ("SlowOrder$Realm", "pace", "[I", true)
  | 15 => ("SlowOrder$Realm", "rests", "[I", true)
  | _ => ("SlowOrder$Realm", "told", "[LSlowOrder$Order;", true)
def zt5 : Nat → FieldType := fun k => match k with
  | 0 => .int
  | 1 => .int
  | 2 => .int
  | 3 => .int
  | 4 => .int
  | 5 => .int
  | 6 => .int
  | 7 => .int
  | 8 => .array (.int)
  | 9 => .array (.int)
  | 10 => .array (.int)
  | 11 => .array (.int)
  | 12 => .array (.int)
  | 13 => .array (.int)
  | 14 => .array (.int)
  | 15 => .array (.int)
  | _ => .array (.object "SlowOrder$Order")
def zT6 : u_T := fun k => match k with
  | 0 => ("SlowOrder$Slots", "numbers", "[[J", true)
  | 1 => ("SlowOrder$Slots", "width", "[I", true)
  | _ => ("SlowOrder$Slots", "size", "[I", true)
def zt6 : Nat → FieldType := fun k => match k with
  | 0 => .array (.array (.long))
  | 1 => .array (.int)
  | _ => .array (.int)
def zT7 : u_T := fun k => match k with
  | 0 => ("SlowOrder$Trip", "towns", "I", false)
  | 1 => ("SlowOrder$Trip", "town", "[I", true)
  | 2 => ("SlowOrder$Trip", "road", "[I", true)
  | 3 => ("SlowOrder$Trip", "far", "[I", true)
  | 4 => ("SlowOrder$Trip", "in", "[I", true)
  | _ => ("SlowOrder$Trip", "out", "[I", true)
def zt7 : Nat → FieldType := fun k => match k with
  | 0 => .int
  | 1 => .array (.int)
  | 2 => .array (.int)
  | 3 => .array (.int)
  | 4 => .array (.int)
  | _ => .array (.int)
def zT8 : u_T := fun k => match k with
  | 0 => ("SlowOrder$Ways", "far", "[[I", true)
  | 1 => ("SlowOrder$Ways", "next", "[[I", true)
  | 2 => ("SlowOrder$Ways", "road", "[[I", true)
  | _ => ("SlowOrder$Ways", "roadHours", "[I", true)
def zt8 : Nat → FieldType := fun k => match k with
  | 0 => .array (.array (.int))
  | 1 => .array (.array (.int))
  | 2 => .array (.array (.int))
  | _ => .array (.int)
def zT9 : u_T := fun k => match k with
  | 0 => ("SlowOrder", "tape", "[B", true)
  | 1 => ("SlowOrder", "tapeBytes", "I", false)
  | 2 => ("SlowOrder", "reader", "LSlowOrder$Reader;", true)
  | 3 => ("SlowOrder", "land", "LSlowOrder$Realm;", true)
  | 4 => ("SlowOrder", "court", "LSlowOrder$Court;", true)
  | 5 => ("SlowOrder", "council", "LSlowOrder$Council;", true)
  | 6 => ("SlowOrder", "slots", "LSlowOrder$Slots;", true)
  | 7 => ("SlowOrder", "images", "[LSlowOrder$Realm;", true)
  | _ => ("SlowOrder", "kept", "[Z", true)
def zt9 : Nat → FieldType := fun k => match k with
  | 0 => .array (.byte)
  | 1 => .int
  | 2 => .object "SlowOrder$Reader"
  | 3 => .object "SlowOrder$Realm"
  | 4 => .object "SlowOrder$Court"
  | 5 => .object "SlowOrder$Council"
  | 6 => .object "SlowOrder$Slots"
  | 7 => .array (.object "SlowOrder$Realm")
  | _ => .array (.boolean)
def zT10 : u_T := fun k => match k with
  | 0 => ("SlowOrderModel", "thrown", "I", false)
  | 1 => ("SlowOrderModel", "world", "[I", true)
  | 2 => ("SlowOrderModel", "images", "[I", true)
  | 3 => ("SlowOrderModel", "hasImage", "[Z", true)
  | 4 => ("SlowOrderModel", "tape", "[B", true)
  | 5 => ("SlowOrderModel", "taped", "I", false)
  | 6 => ("SlowOrderModel", "five", "[I", true)
  | 7 => ("SlowOrderModel", "size", "I", false)
  | 8 => ("SlowOrderModel", "at", "I", false)
  | 9 => ("SlowOrderModel", "from", "I", false)
  | 10 => ("SlowOrderModel", "token", "I", false)
  | 11 => ("SlowOrderModel", "value", "I", false)
  | 12 => ("SlowOrderModel", "faultKind", "I", false)
  | 13 => ("SlowOrderModel", "faultPlace", "I", false)
  | 14 => ("SlowOrderModel", "fresh", "[I", true)
  | 15 => ("SlowOrderModel", "quick", "[I", true)
  | 16 => ("SlowOrderModel", "wayTown", "[I", true)
  | 17 => ("SlowOrderModel", "wayComes", "[I", true)
  | 18 => ("SlowOrderModel", "waySets", "[I", true)
  | 19 => ("SlowOrderModel", "wayMany", "[I", true)
  | 20 => ("SlowOrderModel", "come", "[I", true)
  | 21 => ("SlowOrderModel", "goal", "[I", true)
  | 22 => ("SlowOrderModel", "drawnFrom", "[I", true)
  | 23 => ("SlowOrderModel", "drawnTo", "[I", true)
  | 24 => ("SlowOrderModel", "hasDrawn", "Z", false)
  | 25 => ("SlowOrderModel", "queenSays", "I", false)
  | 26 => ("SlowOrderModel", "queenThing", "I", false)
  | 27 => ("SlowOrderModel", "holding", "[I", true)
  | 28 => ("SlowOrderModel", "kept", "[I", true)
  | 29 => ("SlowOrderModel", "sendings", "I", false)
  | 30 => ("SlowOrderModel", "bestRider", "I", false)
  | 31 => ("SlowOrderModel", "bestHour", "I", false)
  | 32 => ("SlowOrderModel", "bestVia", "I", false)
  | 33 => ("SlowOrderModel", "hoursWere", "[I", true)
  | 34 => ("SlowOrderModel", "maySend", "[Z", true)
  | 35 => ("SlowOrderModel", "holdsThen", "[I", true)
  | 36 => ("SlowOrderModel", "held", "[I", true)
  | 37 => ("SlowOrderModel", "drawn", "J", false)
  | 38 => ("SlowOrderModel", "many", "[I", true)
  | 39 => ("SlowOrderModel", "width", "[I", true)
  | 40 => ("SlowOrderModel", "numbers", "[J", true)
  | _ => ("SlowOrderModel", "moving", "[J", true)
def zt10 : Nat → FieldType := fun k => match k with
  | 0 => .int
  | 1 => .array (.int)
  | 2 => .array (.int)
  | 3 => .array (.boolean)
  | 4 => .array (.byte)
  | 5 => .int
  | 6 => .array (.int)
  | 7 => .int
  | 8 => .int
  | 9 => .int
  | 10 => .int
  | 11 => .int
  | 12 => .int
  | 13 => .int
  | 14 => .array (.int)
  | 15 => .array (.int)
  | 16 => .array (.int)
  | 17 => .array (.int)
  | 18 => .array (.int)
  | 19 => .array (.int)
  | 20 => .array (.int)
  | 21 => .array (.int)
  | 22 => .array (.int)
  | 23 => .array (.int)
  | 24 => .boolean
  | 25 => .int
  | 26 => .int
  | 27 => .array (.int)
  | 28 => .array (.int)
  | 29 => .int
  | 30 => .int
  | 31 => .int
  | 32 => .int
  | 33 => .array (.int)
  | 34 => .array (.boolean)
  | 35 => .array (.int)
  | 36 => .array (.int)
  | 37 => .long
  | 38 => .array (.int)
  | 39 => .array (.int)
  | 40 => .array (.long)
  | _ => .array (.long)
/-- the classes whose objects the world holds -/
def zCl : List vw_C := [("SlowOrder$Council", zT0, 7), ("SlowOrder$Court", zT1, 17), ("SlowOrder$Floods", zT2, 3), ("SlowOrder$Order", zT3, 13), ("SlowOrder$Reader", zT4, 10), ("SlowOrder$Realm", zT5, 17), ("SlowOrder$Slots", zT6, 3), ("SlowOrder$Trip", zT7, 6), ("SlowOrder$Ways", zT8, 4), ("SlowOrder", zT9, 9), ("SlowOrderModel", zT10, 42)]
def zTy : Nat → Nat → FieldType := fun ci => match ci with
  | 0 => zt0
  | 1 => zt1
  | 2 => zt2
  | 3 => zt3
  | 4 => zt4
  | 5 => zt5
  | 6 => zt6
  | 7 => zt7
  | 8 => zt8
  | 9 => zt9
  | _ => zt10
theorem zmemA {big ws : List Cond} {ps : List Nat} (h : ws.map some = ps.map (fun i => big[i]?)) : ∀ w ∈ ws, w ∈ big := by
  intro w hw
  have h1 : some w ∈ ws.map some := List.mem_map.mpr ⟨w, hw, rfl⟩
  rw [h] at h1
  obtain ⟨i, -, hi⟩ := List.mem_map.mp h1
  exact List.mem_of_getElem? hi
set_option maxRecDepth 100000 in
theorem zin0 : ∀ w ∈ u_ws "SlowOrder$Council" zT0 7, w ∈ lw_tbl := zmemA (ps := [450, 452, 454, 456, 458, 460, 462]) (by decide +kernel)
theorem znm0 : ∀ a, a < 7 → ∀ b, b < 7 → a ≠ b → (zT0 a).2.1 ≠ (zT0 b).2.1 := by decide +kernel
theorem zok0 : ∀ k, k < 7 → parseFieldDescriptor (zT0 k).2.2.1 = some (zt0 k) := by decide +kernel
set_option maxRecDepth 100000 in
theorem zin1 : ∀ w ∈ u_ws "SlowOrder$Court" zT1 17, w ∈ lw_tbl := zmemA (ps := [564, 566, 568, 570, 572, 574, 576, 578, 580, 582, 584, 586, 588, 590, 592, 594, 596]) (by decide +kernel)
theorem znm1 : ∀ a, a < 17 → ∀ b, b < 17 → a ≠ b → (zT1 a).2.1 ≠ (zT1 b).2.1 := by decide +kernel
theorem zok1 : ∀ k, k < 17 → parseFieldDescriptor (zT1 k).2.2.1 = some (zt1 k) := by decide +kernel
set_option maxRecDepth 100000 in
theorem zin2 : ∀ w ∈ u_ws "SlowOrder$Floods" zT2 3, w ∈ lw_tbl := zmemA (ps := [504, 506, 508]) (by decide +kernel)
theorem znm2 : ∀ a, a < 3 → ∀ b, b < 3 → a ≠ b → (zT2 a).2.1 ≠ (zT2 b).2.1 := by decide +kernel
theorem zok2 : ∀ k, k < 3 → parseFieldDescriptor (zT2 k).2.2.1 = some (zt2 k) := by decide +kernel
set_option maxRecDepth 100000 in
theorem zin3 : ∀ w ∈ u_ws "SlowOrder$Order" zT3 13, w ∈ lw_tbl := zmemA (ps := [263, 265, 267, 269, 271, 273, 275, 277, 279, 281, 283, 285, 287]) (by decide +kernel)
theorem znm3 : ∀ a, a < 13 → ∀ b, b < 13 → a ≠ b → (zT3 a).2.1 ≠ (zT3 b).2.1 := by decide +kernel
theorem zok3 : ∀ k, k < 13 → parseFieldDescriptor (zT3 k).2.2.1 = some (zt3 k) := by decide +kernel
set_option maxRecDepth 100000 in
theorem zin4 : ∀ w ∈ u_ws "SlowOrder$Reader" zT4 10, w ∈ lw_tbl := zmemA (ps := [405, 407, 409, 411, 413, 415, 417, 419, 421, 423]) (by decide +kernel)
theorem znm4 : ∀ a, a < 10 → ∀ b, b < 10 → a ≠ b → (zT4 a).2.1 ≠ (zT4 b).2.1 := by decide +kernel
theorem zok4 : ∀ k, k < 10 → parseFieldDescriptor (zT4 k).2.2.1 = some (zt4 k) := by decide +kernel
set_option maxRecDepth 100000 in
theorem zin5 : ∀ w ∈ u_ws "SlowOrder$Realm" zT5 17, w ∈ lw_tbl := zmemA (ps := [357, 359, 361, 363, 365, 367, 369, 371, 373, 375, 377, 379, 381, 383, 385, 387, 389]) (by decide +kernel)
theorem znm5 : ∀ a, a < 17 → ∀ b, b < 17 → a ≠ b → (zT5 a).2.1 ≠ (zT5 b).2.1 := by decide +kernel
theorem zok5 : ∀ k, k < 17 → parseFieldDescriptor (zT5 k).2.2.1 = some (zt5 k) := by decide +kernel
set_option maxRecDepth 100000 in
theorem zin6 : ∀ w ∈ u_ws "SlowOrder$Slots" zT6 3, w ∈ lw_tbl := zmemA (ps := [618, 620, 622]) (by decide +kernel)
theorem znm6 : ∀ a, a < 3 → ∀ b, b < 3 → a ≠ b → (zT6 a).2.1 ≠ (zT6 b).2.1 := by decide +kernel
theorem zok6 : ∀ k, k < 3 → parseFieldDescriptor (zT6 k).2.2.1 = some (zt6 k) := by decide +kernel
set_option maxRecDepth 100000 in
theorem zin7 : ∀ w ∈ u_ws "SlowOrder$Trip" zT7 6, w ∈ lw_tbl := zmemA (ps := [526, 528, 530, 532, 534, 536]) (by decide +kernel)
theorem znm7 : ∀ a, a < 6 → ∀ b, b < 6 → a ≠ b → (zT7 a).2.1 ≠ (zT7 b).2.1 := by decide +kernel
theorem zok7 : ∀ k, k < 6 → parseFieldDescriptor (zT7 k).2.2.1 = some (zt7 k) := by decide +kernel
set_option maxRecDepth 100000 in
theorem zin8 : ∀ w ∈ u_ws "SlowOrder$Ways" zT8 4, w ∈ lw_tbl := zmemA (ps := [486, 488, 490, 492]) (by decide +kernel)
theorem znm8 : ∀ a, a < 4 → ∀ b, b < 4 → a ≠ b → (zT8 a).2.1 ≠ (zT8 b).2.1 := by decide +kernel
theorem zok8 : ∀ k, k < 4 → parseFieldDescriptor (zT8 k).2.2.1 = some (zt8 k) := by decide +kernel
set_option maxRecDepth 100000 in
theorem zin9 : ∀ w ∈ u_ws "SlowOrder" zT9 9, w ∈ lw_tbl := zmemA (ps := [636, 638, 640, 642, 644, 646, 648, 650, 652]) (by decide +kernel)
theorem znm9 : ∀ a, a < 9 → ∀ b, b < 9 → a ≠ b → (zT9 a).2.1 ≠ (zT9 b).2.1 := by decide +kernel
theorem zok9 : ∀ k, k < 9 → parseFieldDescriptor (zT9 k).2.2.1 = some (zt9 k) := by decide +kernel
set_option maxRecDepth 100000 in
theorem zin10 : ∀ w ∈ u_ws "SlowOrderModel" zT10 42, w ∈ lw_tbl := zmemA (ps := [1413, 1415, 1417, 1419, 1421, 1423, 1425, 1427, 1429, 1431, 1433, 1435, 1437, 1439, 1441, 1443, 1445, 1447, 1449, 1451, 1453, 1455, 1457, 1459, 1461, 1463, 1465, 1467, 1469, 1471, 1473, 1475, 1477, 1479, 1481, 1483, 1485, 1487, 1489, 1491, 1493, 1495]) (by decide +kernel)
theorem znm10 : ∀ a, a < 42 → ∀ b, b < 42 → a ≠ b → (zT10 a).2.1 ≠ (zT10 b).2.1 := by decide +kernel
theorem zok10 : ∀ k, k < 42 → parseFieldDescriptor (zT10 k).2.2.1 = some (zt10 k) := by decide +kernel
/-- a class of the world: what its rows ask -/
def zcl_ok (ci : Nat) (q : vw_C) : Prop := (∀ w ∈ u_ws q.1 q.2.1 q.2.2, w ∈ lw_tbl) ∧ (∀ a, a < q.2.2 → ∀ b, b < q.2.2 → a ≠ b → (q.2.1 a).2.1 ≠ (q.2.1 b).2.1) ∧ (∀ k, k < q.2.2 → parseFieldDescriptor (q.2.1 k).2.2.1 = some (zTy ci k)) ∧ Cond.instantiable q.1 q.2.2 ∈ lw_tbl ∧ Cond.initialized q.1 ∈ lw_tbl
theorem zcl0 : zcl_ok 0 ("SlowOrder$Council", zT0, 7) := ⟨zin0, znm0, zok0, List.mem_of_getElem? (i := 429) (by decide +kernel), List.mem_of_getElem? (i := 171) (by decide +kernel)⟩
theorem zcl1 : zcl_ok 1 ("SlowOrder$Court", zT1, 17) := ⟨zin1, znm1, zok1, List.mem_of_getElem? (i := 466) (by decide +kernel), List.mem_of_getElem? (i := 172) (by decide +kernel)⟩
theorem zcl2 : zcl_ok 2 ("SlowOrder$Floods", zT2, 3) := ⟨zin2, znm2, zok2, List.mem_of_getElem? (i := 496) (by decide +kernel), List.mem_of_getElem? (i := 174) (by decide +kernel)⟩
theorem zcl3 : zcl_ok 3 ("SlowOrder$Order", zT3, 13) := ⟨zin3, znm3, zok3, List.mem_of_getElem? (i := 207) (by decide +kernel), List.mem_of_getElem? (i := 170) (by decide +kernel)⟩
theorem zcl4 : zcl_ok 4 ("SlowOrder$Reader", zT4, 10) := ⟨zin4, znm4, zok4, List.mem_of_getElem? (i := 194) (by decide +kernel), List.mem_of_getElem? (i := 168) (by decide +kernel)⟩
theorem zcl5 : zcl_ok 5 ("SlowOrder$Realm", zT5, 17) := ⟨zin5, znm5, zok5, List.mem_of_getElem? (i := 200) (by decide +kernel), List.mem_of_getElem? (i := 169) (by decide +kernel)⟩
theorem zcl6 : zcl_ok 6 ("SlowOrder$Slots", zT6, 3) := ⟨zin6, znm6, zok6, List.mem_of_getElem? (i := 601) (by decide +kernel), List.mem_of_getElem? (i := 176) (by decide +kernel)⟩
theorem zcl7 : zcl_ok 7 ("SlowOrder$Trip", zT7, 6) := ⟨zin7, znm7, zok7, List.mem_of_getElem? (i := 513) (by decide +kernel), List.mem_of_getElem? (i := 175) (by decide +kernel)⟩
theorem zcl8 : zcl_ok 8 ("SlowOrder$Ways", zT8, 4) := ⟨zin8, znm8, zok8, List.mem_of_getElem? (i := 472) (by decide +kernel), List.mem_of_getElem? (i := 173) (by decide +kernel)⟩
theorem zcl9 : zcl_ok 9 ("SlowOrder", zT9, 9) := ⟨zin9, znm9, zok9, List.mem_of_getElem? (i := 186) (by decide +kernel), List.mem_of_getElem? (i := 167) (by decide +kernel)⟩
theorem zcl10 : zcl_ok 10 ("SlowOrderModel", zT10, 42) := ⟨zin10, znm10, zok10, List.mem_of_getElem? (i := 1367) (by decide +kernel), List.mem_of_getElem? (i := 178) (by decide +kernel)⟩
theorem zcl_all : ∀ (ci : Nat) (q : vw_C), zCl[ci]? = some q → zcl_ok ci q := by
  intro ci q h
  match ci, h with
  | 0, h => cases h; exact zcl0
  | 1, h => cases h; exact zcl1
  | 2, h => cases h; exact zcl2
  | 3, h => cases h; exact zcl3
  | 4, h => cases h; exact zcl4
  | 5, h => cases h; exact zcl5
  | 6, h => cases h; exact zcl6
  | 7, h => cases h; exact zcl7
  | 8, h => cases h; exact zcl8
  | 9, h => cases h; exact zcl9
  | 10, h => cases h; exact zcl10
  | n + 11, h => simp [zCl] at h
def zCN : List String := ["SlowOrder$Council", "SlowOrder$Court", "SlowOrder$Floods", "SlowOrder$Order", "SlowOrder$Reader", "SlowOrder$Realm", "SlowOrder$Slots", "SlowOrder$Trip", "SlowOrder$Ways", "SlowOrder", "SlowOrderModel", "java/util/Arrays", "SlowOrderLaw"]
def zYs : List MethodName := [⟨"SlowOrder$Council", "<init>", "()V"⟩,
  ⟨"SlowOrder$Council", "seat", "(LSlowOrder$Order;)V"⟩,
  ⟨"SlowOrder$Council", "thereIn", "(II)I"⟩,
  ⟨"SlowOrder$Council", "undoneAmong", "(I)I"⟩,
  ⟨"SlowOrder$Council", "undoneIn", "(II)I"⟩,
  ⟨"SlowOrder$Council", "bearer", "(III)I"⟩,
  ⟨"SlowOrder$Council", "heldIn", "(III)I"⟩,
  ⟨"SlowOrder$Council", "someComeIn", "(I)Z"⟩,
  ⟨"SlowOrder$Court", "<init>", "(LSlowOrder$Realm;LSlowOrder$Council;)V"⟩,
  ⟨"SlowOrder$Court", "settle", "()V"⟩,
  ⟨"SlowOrder$Court", "sendOut", "(I)V"⟩,
  ⟨"SlowOrder$Court", "rideOf", "(ILSlowOrder$Trip;LSlowOrder$Floods;I)I"⟩,
  ⟨"SlowOrder$Court", "withinHours", "(I)I"⟩,
  ⟨"SlowOrder$Court", "townOfWay", "(III)I"⟩,
  ⟨"SlowOrder$Court", "recall", "()V"⟩,
  ⟨"SlowOrder$Court", "learn", "(I)V"⟩,
  ⟨"SlowOrder$Court", "learnAll", "()V"⟩,
  ⟨"SlowOrder$Court", "comingIfSent", "(II)I"⟩,
  ⟨"SlowOrder$Court", "peaceAbout", "(I)I"⟩,
  ⟨"SlowOrder$Court", "discordAbout", "(I)I"⟩,
  ⟨"SlowOrder$Court", "discordIn", "(II)I"⟩,
  ⟨"SlowOrder$Court", "bestSeal", "(I)I"⟩,
  ⟨"SlowOrder$Court", "bearerIfComing", "(IIIII)I"⟩,
  ⟨"SlowOrder$Court", "heldIfSent", "(IIIII)I"⟩,
  ⟨"SlowOrder$Court", "bearsIfComing", "(III)Z"⟩,
  ⟨"SlowOrder$Court", "bearsIfSent", "(III)Z"⟩,
  ⟨"SlowOrder$Court", "seekSendings", "(II)I"⟩,
  ⟨"SlowOrder$Court", "countSendings", "(III)I"⟩,
  ⟨"SlowOrder$Court", "keepIfFirst", "(III)V"⟩,
  ⟨"SlowOrder$Court", "firstTurning", "(IIIII)I"⟩,
  ⟨"SlowOrder$Court", "lastOfQueen", "(IIIII)I"⟩,
  ⟨"SlowOrder$Court", "isWishHad", "(I)Z"⟩,
  ⟨"SlowOrder$Court", "firstHourHad", "(I)I"⟩,
  ⟨"SlowOrder$Court", "restless", "()I"⟩,
  ⟨"SlowOrder$Court", "sendAnew", "(I)I"⟩,
  ⟨"SlowOrder$Court", "seekAgreeing", "(ILSlowOrder$Slots;I)I"⟩,
  ⟨"SlowOrder$Court", "isAllSo", "(IILSlowOrder$Slots;I)Z"⟩,
  ⟨"SlowOrder$Court", "isMissed", "(I)Z"⟩,
  ⟨"SlowOrder$Court", "drawYear", "(JI)V"⟩,
  ⟨"SlowOrder$Court", "comingInYear", "(I)I"⟩,
  ⟨"SlowOrder$Court", "liveYear", "()V"⟩,
  ⟨"SlowOrder$Floods", "<init>", "()V"⟩,
  ⟨"SlowOrder$Floods", "tell", "(LSlowOrder$Realm;)V"⟩,
  ⟨"SlowOrder$Floods", "mark", "(III)V"⟩,
  ⟨"SlowOrder$Floods", "drawYear", "(LSlowOrder$Realm;JI)V"⟩,
  ⟨"SlowOrder$Floods", "draw", "(I)I"⟩,
  ⟨"SlowOrder$Floods", "dryFrom", "(II)I"⟩,
  ⟨"SlowOrder$Order", "<init>", "()V"⟩,
  ⟨"SlowOrder$Order", "copyFrom", "(LSlowOrder$Order;)V"⟩,
  ⟨"SlowOrder$Reader", "<init>", "([B)V"⟩,
  ⟨"SlowOrder$Reader", "readAll", "(I)V"⟩,
  ⟨"SlowOrder$Reader", "scan", "()V"⟩,
  ⟨"SlowOrder$Reader", "scanWord", "()V"⟩,
  ⟨"SlowOrder$Reader", "scanNumber", "()V"⟩,
  ⟨"SlowOrder$Reader", "fail", "(II)V"⟩,
  ⟨"SlowOrder$Reader", "isWord", "(Ljava/lang/String;)Z"⟩,
  ⟨"SlowOrder$Reader", "takeWord", "(Ljava/lang/String;)V"⟩,
  ⟨"SlowOrder$Reader", "takeSign", "()V"⟩,
  ⟨"SlowOrder$Reader", "takeNumber", "(II)I"⟩,
  ⟨"SlowOrder$Reader", "takeTown", "()I"⟩,
  ⟨"SlowOrder$Reader", "takeHour", "()I"⟩,
  ⟨"SlowOrder$Reader", "demand", "(Z)V"⟩,
  ⟨"SlowOrder$Reader", "readLine", "()V"⟩,
  ⟨"SlowOrder$Reader", "readRealm", "()V"⟩,
  ⟨"SlowOrder$Reader", "openLine", "(II)V"⟩,
  ⟨"SlowOrder$Reader", "readRoad", "()V"⟩,
  ⟨"SlowOrder$Reader", "readFlood", "()V"⟩,
  ⟨"SlowOrder$Reader", "readRider", "()V"⟩,
  ⟨"SlowOrder$Reader", "readOrder", "()V"⟩,
  ⟨"SlowOrder$Reader", "readMeaning", "(LSlowOrder$Order;)V"⟩,
  ⟨"SlowOrder$Reader", "readVia", "(LSlowOrder$Order;)V"⟩,
  ⟨"SlowOrder$Reader", "readWish", "()V"⟩,
  ⟨"SlowOrder$Reader", "readSeal", "()V"⟩,
  ⟨"SlowOrder$Realm", "<init>", "()V"⟩,
  ⟨"SlowOrder$Realm", "clear", "()V"⟩,
  ⟨"SlowOrder$Realm", "copyFrom", "(LSlowOrder$Realm;)V"⟩,
  ⟨"SlowOrder$Realm", "isTold", "()Z"⟩,
  ⟨"SlowOrder$Realm", "isTown", "(J)Z"⟩,
  ⟨"SlowOrder$Realm", "isHour", "(J)Z"⟩,
  ⟨"SlowOrder$Realm", "isOrder", "(J)Z"⟩,
  ⟨"SlowOrder$Realm", "roadBetween", "(II)I"⟩,
  ⟨"SlowOrder$Slots", "<init>", "()V"⟩,
  ⟨"SlowOrder$Slots", "isSlot", "(I)Z"⟩,
  ⟨"SlowOrder$Slots", "hasRow", "(I)Z"⟩,
  ⟨"SlowOrder$Slots", "countRows", "()I"⟩,
  ⟨"SlowOrder$Slots", "lay", "(III)V"⟩,
  ⟨"SlowOrder$Slots", "get", "(II)J"⟩,
  ⟨"SlowOrder$Slots", "put", "(IIJ)V"⟩,
  ⟨"SlowOrder$Slots", "isStretch", "(III)Z"⟩,
  ⟨"SlowOrder$Trip", "<init>", "()V"⟩,
  ⟨"SlowOrder$Trip", "lay", "(LSlowOrder$Ways;LSlowOrder$Order;)V"⟩,
  ⟨"SlowOrder$Trip", "layBy", "(LSlowOrder$Ways;III)V"⟩,
  ⟨"SlowOrder$Trip", "start", "(I)V"⟩,
  ⟨"SlowOrder$Trip", "go", "(LSlowOrder$Ways;I)V"⟩,
  ⟨"SlowOrder$Trip", "ride", "(LSlowOrder$Floods;III)I"⟩,
  ⟨"SlowOrder$Trip", "whereAt", "(I)I"⟩,
  ⟨"SlowOrder$Trip", "comingTo", "(I)I"⟩,
  ⟨"SlowOrder$Trip", "firstComingTo", "(I)I"⟩,
  ⟨"SlowOrder$Trip", "crosses", "(LSlowOrder$Trip;)Z"⟩,
  ⟨"SlowOrder$Ways", "<init>", "()V"⟩,
  ⟨"SlowOrder$Ways", "survey", "(LSlowOrder$Realm;)V"⟩,
  ⟨"SlowOrder$Ways", "shorten", "(I)V"⟩,
  ⟨"SlowOrder$Ways", "leastNext", "(III)I"⟩,
  ⟨"SlowOrder$Ways", "farFrom", "(II)I"⟩,
  ⟨"SlowOrder", "<init>", "()V"⟩,
  ⟨"SlowOrder", "feed", "(IIIII)I"⟩,
  ⟨"SlowOrder", "putFour", "(I)V"⟩,
  ⟨"SlowOrder", "end", "(I)I"⟩,
  ⟨"SlowOrder", "realm", "()I"⟩,
  ⟨"SlowOrder", "fault", "(I)I"⟩,
  ⟨"SlowOrder", "hours", "(II)I"⟩,
  ⟨"SlowOrder", "way", "(III)I"⟩,
  ⟨"SlowOrder", "order", "(II)I"⟩,
  ⟨"SlowOrder", "comes", "(I)I"⟩,
  ⟨"SlowOrder", "rider", "(II)I"⟩,
  ⟨"SlowOrder", "passes", "(II)I"⟩,
  ⟨"SlowOrder", "holds", "(III)I"⟩,
  ⟨"SlowOrder", "whose", "(III)I"⟩,
  ⟨"SlowOrder", "undone", "(II)I"⟩,
  ⟨"SlowOrder", "changes", "(II)I"⟩,
  ⟨"SlowOrder", "discord", "(I)I"⟩,
  ⟨"SlowOrder", "peace", "(I)I"⟩,
  ⟨"SlowOrder", "just", "(I)I"⟩,
  ⟨"SlowOrder", "seal", "(I)I"⟩,
  ⟨"SlowOrder", "sends", "(II)I"⟩,
  ⟨"SlowOrder", "latest", "(II)I"⟩,
  ⟨"SlowOrder", "earliest", "(II)I"⟩,
  ⟨"SlowOrder", "ways", "(II)I"⟩,
  ⟨"SlowOrder", "best", "(III)I"⟩,
  ⟨"SlowOrder", "delay", "(IIIII)I"⟩,
  ⟨"SlowOrder", "queen", "(IIIII)I"⟩,
  ⟨"SlowOrder", "wish", "(I)I"⟩,
  ⟨"SlowOrder", "rest", "()I"⟩,
  ⟨"SlowOrder", "rests", "(I)I"⟩,
  ⟨"SlowOrder", "sent", "(II)I"⟩,
  ⟨"SlowOrder", "cross", "()I"⟩,
  ⟨"SlowOrder", "meets", "(II)I"⟩,
  ⟨"SlowOrder", "forged", "(I)I"⟩,
  ⟨"SlowOrder", "agree", "(II)I"⟩,
  ⟨"SlowOrder", "when", "(III)I"⟩,
  ⟨"SlowOrder", "sure", "(IIIII)I"⟩,
  ⟨"SlowOrder", "matters", "(I)I"⟩,
  ⟨"SlowOrder", "year", "(III)I"⟩,
  ⟨"SlowOrder", "years", "(IIIIIII)I"⟩,
  ⟨"SlowOrder", "count", "(I)I"⟩,
  ⟨"SlowOrder", "image", "(I)I"⟩,
  ⟨"SlowOrder", "restore", "(I)I"⟩,
  ⟨"SlowOrder", "row", "(III)I"⟩,
  ⟨"SlowOrder", "write", "(IIJ)I"⟩,
  ⟨"SlowOrder", "paste", "(IIIII)I"⟩,
  ⟨"SlowOrder", "isAsked", "(III)Z"⟩,
  ⟨"SlowOrder", "isSendable", "(II)Z"⟩,
  ⟨"SlowOrder", "isBook", "(I)Z"⟩,
  ⟨"SlowOrder", "isSeen", "(I)Z"⟩,
  ⟨"SlowOrder", "refusalOfSeen", "(II)I"⟩,
  ⟨"SlowOrder", "isThing", "(J)Z"⟩,
  ⟨"SlowOrder", "isSaying", "(I)Z"⟩,
  ⟨"SlowOrder", "isSayingOrNone", "(I)Z"⟩,
  ⟨"SlowOrder", "isSeal", "(I)Z"⟩,
  ⟨"SlowOrder", "isRests", "(I)Z"⟩,
  ⟨"SlowOrder", "isSeed", "(I)Z"⟩,
  ⟨"SlowOrder", "isOdds", "(I)Z"⟩,
  ⟨"SlowOrderModel", "<init>", "()V"⟩,
  ⟨"SlowOrderModel", "in", "(JJJ)Z"⟩,
  ⟨"SlowOrderModel", "image", "(I)I"⟩,
  ⟨"SlowOrderModel", "restore", "(I)I"⟩,
  ⟨"SlowOrderModel", "isRealm", "()Z"⟩,
  ⟨"SlowOrderModel", "towns", "()I"⟩,
  ⟨"SlowOrderModel", "isTown", "(J)Z"⟩,
  ⟨"SlowOrderModel", "isHour", "(J)Z"⟩,
  ⟨"SlowOrderModel", "isOrder", "(J)Z"⟩,
  ⟨"SlowOrderModel", "isThing", "(J)Z"⟩,
  ⟨"SlowOrderModel", "isSaid", "(J)Z"⟩,
  ⟨"SlowOrderModel", "of", "(II)I"⟩,
  ⟨"SlowOrderModel", "set", "(III)V"⟩,
  ⟨"SlowOrderModel", "feed", "(IIIII)I"⟩,
  ⟨"SlowOrderModel", "end", "(I)I"⟩,
  ⟨"SlowOrderModel", "see", "(I)I"⟩,
  ⟨"SlowOrderModel", "advance", "()V"⟩,
  ⟨"SlowOrderModel", "good", "()Z"⟩,
  ⟨"SlowOrderModel", "errs", "(I)V"⟩,
  ⟨"SlowOrderModel", "is", "(Ljava/lang/String;)Z"⟩,
  ⟨"SlowOrderModel", "takes", "(Ljava/lang/String;)Z"⟩,
  ⟨"SlowOrderModel", "needs", "(Ljava/lang/String;)V"⟩,
  ⟨"SlowOrderModel", "number", "(II)I"⟩,
  ⟨"SlowOrderModel", "told", "(Ljava/lang/String;II)I"⟩,
  ⟨"SlowOrderModel", "fault", "(I)I"⟩,
  ⟨"SlowOrderModel", "freshTown", "()I"⟩,
  ⟨"SlowOrderModel", "roadOf", "([III)I"⟩,
  ⟨"SlowOrderModel", "readRoad", "()V"⟩,
  ⟨"SlowOrderModel", "readFlood", "()V"⟩,
  ⟨"SlowOrderModel", "readRider", "()V"⟩,
  ⟨"SlowOrderModel", "readVia", "(I)V"⟩,
  ⟨"SlowOrderModel", "readOrder", "()V"⟩,
  ⟨"SlowOrderModel", "readWish", "()V"⟩,
  ⟨"SlowOrderModel", "readNext", "()V"⟩,
  ⟨"SlowOrderModel", "readLine", "()V"⟩,
  ⟨"SlowOrderModel", "realm", "()I"⟩,
  ⟨"SlowOrderModel", "road", "(II)I"⟩,
  ⟨"SlowOrderModel", "hoursOf", "(I)I"⟩,
  ⟨"SlowOrderModel", "fillQuick", "()V"⟩,
  ⟨"SlowOrderModel", "quickOf", "(II)I"⟩,
  ⟨"SlowOrderModel", "nextOn", "(II)I"⟩,
  ⟨"SlowOrderModel", "hours", "(II)I"⟩,
  ⟨"SlowOrderModel", "way", "(III)I"⟩,
  ⟨"SlowOrderModel", "isFlooded", "(II)Z"⟩,
  ⟨"SlowOrderModel", "leads", "(II)Z"⟩,
  ⟨"SlowOrderModel", "noWay", "(I)V"⟩,
  ⟨"SlowOrderModel", "rides", "(IIII)V"⟩,
  ⟨"SlowOrderModel", "goes", "(I)V"⟩,
  ⟨"SlowOrderModel", "allGo", "()V"⟩,
  ⟨"SlowOrderModel", "order", "(II)I"⟩,
  ⟨"SlowOrderModel", "comes", "(I)I"⟩,
  ⟨"SlowOrderModel", "rider", "(II)I"⟩,
  ⟨"SlowOrderModel", "passes", "(II)I"⟩,
  ⟨"SlowOrderModel", "isThere", "(III)Z"⟩,
  ⟨"SlowOrderModel", "undoneOf", "(II)I"⟩,
  ⟨"SlowOrderModel", "thingOf", "(I)I"⟩,
  ⟨"SlowOrderModel", "saysOf", "(I)I"⟩,
  ⟨"SlowOrderModel", "whoseOf", "(III)I"⟩,
  ⟨"SlowOrderModel", "holdsOf", "(III)I"⟩,
  ⟨"SlowOrderModel", "isAsked", "(III)Z"⟩,
  ⟨"SlowOrderModel", "holds", "(III)I"⟩,
  ⟨"SlowOrderModel", "whose", "(III)I"⟩,
  ⟨"SlowOrderModel", "undone", "(II)I"⟩,
  ⟨"SlowOrderModel", "changes", "(II)I"⟩,
  ⟨"SlowOrderModel", "discordIn", "(II)I"⟩,
  ⟨"SlowOrderModel", "discordOf", "(I)I"⟩,
  ⟨"SlowOrderModel", "discord", "(I)I"⟩,
  ⟨"SlowOrderModel", "peace", "(I)I"⟩,
  ⟨"SlowOrderModel", "just", "(I)I"⟩,
  ⟨"SlowOrderModel", "seal", "(I)I"⟩,
  ⟨"SlowOrderModel", "sends", "(II)I"⟩,
  ⟨"SlowOrderModel", "isSending", "(II)Z"⟩,
  ⟨"SlowOrderModel", "holdsNow", "(II)Z"⟩,
  ⟨"SlowOrderModel", "firstSent", "(IIII)I"⟩,
  ⟨"SlowOrderModel", "latest", "(II)I"⟩,
  ⟨"SlowOrderModel", "earliest", "(II)I"⟩,
  ⟨"SlowOrderModel", "allSendings", "(II)V"⟩,
  ⟨"SlowOrderModel", "ways", "(II)I"⟩,
  ⟨"SlowOrderModel", "best", "(III)I"⟩,
  ⟨"SlowOrderModel", "isHeldUp", "(IIIIII)Z"⟩,
  ⟨"SlowOrderModel", "delay", "(IIIII)I"⟩,
  ⟨"SlowOrderModel", "queen", "(IIIII)I"⟩,
  ⟨"SlowOrderModel", "isHad", "(I)Z"⟩,
  ⟨"SlowOrderModel", "wish", "(I)I"⟩,
  ⟨"SlowOrderModel", "betterHour", "(I)I"⟩,
  ⟨"SlowOrderModel", "restless", "()I"⟩,
  ⟨"SlowOrderModel", "rest", "()I"⟩,
  ⟨"SlowOrderModel", "settles", "(I)I"⟩,
  ⟨"SlowOrderModel", "keepsHours", "()V"⟩,
  ⟨"SlowOrderModel", "bringsHoursBack", "()V"⟩,
  ⟨"SlowOrderModel", "rests", "(I)I"⟩,
  ⟨"SlowOrderModel", "sent", "(II)I"⟩,
  ⟨"SlowOrderModel", "crosses", "(II)Z"⟩,
  ⟨"SlowOrderModel", "cross", "()I"⟩,
  ⟨"SlowOrderModel", "meets", "(II)I"⟩,
  ⟨"SlowOrderModel", "numberAt", "(II)J"⟩,
  ⟨"SlowOrderModel", "isForged", "(II)Z"⟩,
  ⟨"SlowOrderModel", "forged", "(I)I"⟩,
  ⟨"SlowOrderModel", "asksSeen", "(IZ)I"⟩,
  ⟨"SlowOrderModel", "agrees", "(I)Z"⟩,
  ⟨"SlowOrderModel", "fillSeen", "(IIIII)I"⟩,
  ⟨"SlowOrderModel", "agree", "(II)I"⟩,
  ⟨"SlowOrderModel", "when", "(III)I"⟩,
  ⟨"SlowOrderModel", "sure", "(IIIII)I"⟩,
  ⟨"SlowOrderModel", "heldAt", "(III)I"⟩,
  ⟨"SlowOrderModel", "matters", "(I)I"⟩,
  ⟨"SlowOrderModel", "draw", "(I)I"⟩,
  ⟨"SlowOrderModel", "drawsYear", "(JI)V"⟩,
  ⟨"SlowOrderModel", "isYear", "(II)Z"⟩,
  ⟨"SlowOrderModel", "year", "(III)I"⟩,
  ⟨"SlowOrderModel", "years", "(IIIIIII)I"⟩,
  ⟨"SlowOrderModel", "count", "(I)I"⟩,
  ⟨"SlowOrderModel", "isSlot", "(I)Z"⟩,
  ⟨"SlowOrderModel", "cut", "(JI)J"⟩,
  ⟨"SlowOrderModel", "row", "(III)I"⟩,
  ⟨"SlowOrderModel", "write", "(IIJ)I"⟩,
  ⟨"SlowOrderModel", "paste", "(IIIII)I"⟩,
  ⟨"java/util/Arrays", "fill", "([BB)V"⟩,
  ⟨"java/util/Arrays", "fill", "([II)V"⟩,
  ⟨"java/util/Arrays", "fill", "([JJ)V"⟩,
  ⟨"SlowOrderLaw", "law", "([I)Z"⟩]
def zBs : List ByteArray := [prog_2_method_1_code, prog_2_method_2_code, prog_2_method_3_code, prog_2_method_4_code, prog_2_method_5_code, prog_2_method_6_code, prog_2_method_7_code, prog_2_method_8_code, prog_3_method_1_code, prog_3_method_2_code, prog_3_method_3_code, prog_3_method_4_code, prog_3_method_5_code, prog_3_method_6_code, prog_3_method_7_code, prog_3_method_8_code, prog_3_method_9_code, prog_3_method_10_code, prog_3_method_11_code, prog_3_method_12_code, prog_3_method_13_code, prog_3_method_14_code, prog_3_method_15_code, prog_3_method_16_code, prog_3_method_17_code, prog_3_method_18_code, prog_3_method_19_code, prog_3_method_20_code, prog_3_method_21_code, prog_3_method_22_code, prog_3_method_23_code, prog_3_method_24_code, prog_3_method_25_code, prog_3_method_26_code, prog_3_method_27_code, prog_3_method_28_code, prog_3_method_29_code, prog_3_method_30_code, prog_3_method_31_code, prog_3_method_32_code, prog_3_method_33_code, prog_4_method_1_code, prog_4_method_2_code, prog_4_method_3_code, prog_4_method_4_code, prog_4_method_5_code, prog_4_method_6_code, prog_5_method_1_code, prog_5_method_2_code, prog_6_method_1_code, prog_6_method_2_code, prog_6_method_3_code, prog_6_method_4_code, prog_6_method_5_code, prog_6_method_6_code, prog_6_method_7_code, prog_6_method_8_code, prog_6_method_9_code, prog_6_method_10_code, prog_6_method_11_code, prog_6_method_12_code, prog_6_method_13_code, prog_6_method_14_code, prog_6_method_15_code, prog_6_method_16_code, prog_6_method_17_code, prog_6_method_18_code, prog_6_method_19_code, prog_6_method_20_code, prog_6_method_21_code, prog_6_method_22_code, prog_6_method_23_code, prog_6_method_24_code, prog_7_method_1_code, prog_7_method_2_code, prog_7_method_3_code, prog_7_method_4_code, prog_7_method_5_code, prog_7_method_6_code, prog_7_method_7_code, prog_7_method_8_code, prog_8_method_1_code, prog_8_method_2_code, prog_8_method_3_code, prog_8_method_4_code, prog_8_method_5_code, prog_8_method_6_code, prog_8_method_7_code, prog_8_method_8_code, prog_9_method_1_code, prog_9_method_2_code, prog_9_method_3_code, prog_9_method_4_code, prog_9_method_5_code, prog_9_method_6_code, prog_9_method_7_code, prog_9_method_8_code, prog_9_method_9_code, prog_9_method_10_code, prog_10_method_1_code, prog_10_method_2_code, prog_10_method_3_code, prog_10_method_4_code, prog_10_method_5_code, prog_1_method_1_code, prog_1_method_2_code, prog_1_method_3_code, prog_1_method_4_code, prog_1_method_5_code, prog_1_method_6_code, prog_1_method_7_code, prog_1_method_8_code, prog_1_method_9_code, prog_1_method_10_code, prog_1_method_11_code, prog_1_method_12_code, prog_1_method_13_code, prog_1_method_14_code, prog_1_method_15_code, prog_1_method_16_code, prog_1_method_17_code, prog_1_method_18_code, prog_1_method_19_code, prog_1_method_20_code, prog_1_method_21_code, prog_1_method_22_code, prog_1_method_23_code, prog_1_method_24_code, prog_1_method_25_code, prog_1_method_26_code, prog_1_method_27_code, prog_1_method_28_code, prog_1_method_29_code, prog_1_method_30_code, prog_1_method_31_code, prog_1_method_32_code, prog_1_method_33_code, prog_1_method_34_code, prog_1_method_35_code, prog_1_method_36_code, prog_1_method_37_code, prog_1_method_38_code, prog_1_method_39_code, prog_1_method_40_code, prog_1_method_41_code, prog_1_method_42_code, prog_1_method_43_code, prog_1_method_44_code, prog_1_method_45_code, prog_1_method_46_code, prog_1_method_47_code, prog_1_method_48_code, prog_1_method_49_code, prog_1_method_50_code, prog_1_method_51_code, prog_1_method_52_code, prog_1_method_53_code, prog_1_method_54_code, prog_1_method_55_code, prog_1_method_56_code, prog_1_method_57_code, prog_1_method_58_code, prog_12_method_1_code, prog_12_method_3_code, prog_12_method_4_code, prog_12_method_5_code, prog_12_method_6_code, prog_12_method_7_code, prog_12_method_8_code, prog_12_method_9_code, prog_12_method_10_code, prog_12_method_11_code, prog_12_method_12_code, prog_12_method_13_code, prog_12_method_14_code, prog_12_method_15_code, prog_12_method_16_code, prog_12_method_17_code, prog_12_method_18_code, prog_12_method_19_code, prog_12_method_20_code, prog_12_method_21_code, prog_12_method_22_code, prog_12_method_23_code, prog_12_method_24_code, prog_12_method_25_code, prog_12_method_26_code, prog_12_method_27_code, prog_12_method_28_code, prog_12_method_29_code, prog_12_method_30_code, prog_12_method_31_code, prog_12_method_32_code, prog_12_method_33_code, prog_12_method_34_code, prog_12_method_35_code, prog_12_method_36_code, prog_12_method_37_code, prog_12_method_38_code, prog_12_method_39_code, prog_12_method_40_code, prog_12_method_41_code, prog_12_method_42_code, prog_12_method_43_code, prog_12_method_44_code, prog_12_method_45_code, prog_12_method_46_code, prog_12_method_47_code, prog_12_method_48_code, prog_12_method_49_code, prog_12_method_50_code, prog_12_method_51_code, prog_12_method_52_code, prog_12_method_53_code, prog_12_method_54_code, prog_12_method_55_code, prog_12_method_56_code, prog_12_method_57_code, prog_12_method_58_code, prog_12_method_59_code, prog_12_method_60_code, prog_12_method_61_code, prog_12_method_62_code, prog_12_method_63_code, prog_12_method_64_code, prog_12_method_65_code, prog_12_method_66_code, prog_12_method_67_code, prog_12_method_68_code, prog_12_method_69_code, prog_12_method_70_code, prog_12_method_71_code, prog_12_method_72_code, prog_12_method_73_code, prog_12_method_74_code, prog_12_method_75_code, prog_12_method_76_code, prog_12_method_77_code, prog_12_method_78_code, prog_12_method_79_code, prog_12_method_80_code, prog_12_method_81_code, prog_12_method_82_code, prog_12_method_83_code, prog_12_method_84_code, prog_12_method_85_code, prog_12_method_86_code, prog_12_method_87_code, prog_12_method_88_code, prog_12_method_89_code, prog_12_method_90_code, prog_12_method_91_code, prog_12_method_92_code, prog_12_method_93_code, prog_12_method_94_code, prog_12_method_95_code, prog_12_method_96_code, prog_12_method_97_code, prog_12_method_98_code, prog_12_method_99_code, prog_12_method_100_code, prog_12_method_101_code, prog_12_method_102_code, prog_12_method_103_code, prog_12_method_104_code, prog_12_method_105_code, prog_12_method_106_code, prog_12_method_107_code, prog_12_method_108_code, prog_12_method_109_code, prog_12_method_110_code, prog_12_method_111_code, prog_12_method_112_code, prog_12_method_113_code, prog_12_method_114_code, prog_12_method_115_code, prog_12_method_116_code, prog_12_method_117_code, prog_12_method_118_code, prog_18_method_109_code, prog_18_method_103_code, prog_18_method_101_code, code]
def zMLs : List Nat := [1, 2, 6, 4, 3, 8, 5, 3, 4, 2, 2, 6, 2, 4, 2, 3, 2, 3, 3, 5, 5, 6, 8, 7, 5, 5, 6, 7, 4, 8, 10, 3, 7, 2, 4, 6, 9, 7, 4, 2, 2, 1, 3, 5, 8, 2, 4, 1, 2, 2, 3, 2, 2, 2, 3, 3, 2, 1, 4, 1, 1, 2, 2, 3, 3, 4, 6, 3, 2, 2, 3, 6, 2, 2, 1, 3, 1, 3, 3, 3, 4, 1, 2, 2, 3, 4, 3, 5, 4, 1, 4, 5, 2, 6, 7, 3, 2, 3, 4, 1, 5, 5, 6, 3, 2, 6, 3, 2, 1, 2, 3, 4, 4, 2, 3, 3, 4, 4, 3, 7, 2, 2, 2, 3, 4, 4, 4, 3, 4, 8, 6, 2, 1, 4, 3, 4, 3, 7, 4, 6, 10, 2, 4, 10, 2, 2, 2, 4, 5, 6, 4, 3, 4, 4, 3, 2, 1, 1, 1, 1, 1, 1, 1, 6, 3, 3, 1, 1, 3, 3, 3, 2, 2, 3, 4, 7, 2, 2, 2, 1, 2, 4, 3, 2, 4, 4, 2, 1, 5, 5, 6, 2, 4, 4, 5, 2, 1, 2, 3, 2, 4, 3, 4, 3, 6, 5, 4, 2, 9, 4, 2, 3, 2, 6, 3, 4, 6, 2, 2, 7, 5, 4, 4, 4, 3, 5, 5, 4, 2, 3, 7, 3, 4, 3, 3, 8, 3, 3, 6, 3, 4, 9, 8, 9, 2, 2, 5, 2, 1, 4, 2, 2, 3, 4, 8, 4, 3, 3, 6, 4, 4, 3, 9, 4, 7, 10, 4, 5, 2, 5, 2, 4, 10, 4, 1, 4, 5, 5, 7, 4, 4, 5, 4]
def zRets : List (Option FieldType) := [none, none, some .int, some .int, some .int, some .int, some .int, some .boolean, none, none, none, some .int, some .int, some .int, none, none, none, some .int, some .int, some .int, some .int, some .int, some .int, some .int, some .boolean, some .boolean, some .int, some .int, none, some .int, some .int, some .boolean, some .int, some .int, some .int, some .int, some .boolean, some .boolean, none, some .int, none, none, none, none, none, some .int, some .int, none, none, none, none, none, none, none, none, some .boolean, none, none, some .int, some .int, some .int, none, none, none, none, none, none, none, none, none, none, none, none, none, none, none, some .boolean, some .boolean, some .boolean, some .boolean, some .int, none, some .boolean, some .boolean, some .int, none, some .long, none, some .boolean, none, none, none, none, none, some .int, some .int, some .int, some .int, some .boolean, none, none, none, some .int, some .int, none, some .int, none, some .int, some .int, some .int, some .int, some .int, some .int, some .int, some .int, some .int, some .int, some .int, some .int, some .int, some .int, some .int, some .int, some .int, some .int, some .int, some .int, some .int, some .int, some .int, some .int, some .int, some .int, some .int, some .int, some .int, some .int, some .int, some .int, some .int, some .int, some .int, some .int, some .int, some .int, some .int, some .int, some .int, some .int, some .int, some .boolean, some .boolean, some .boolean, some .boolean, some .int, some .boolean, some .boolean, some .boolean, some .boolean, some .boolean, some .boolean, some .boolean, none, some .boolean, some .int, some .int, some .boolean, some .int, some .boolean, some .boolean, some .boolean, some .boolean, some .boolean, some .int, none, some .int, some .int, some .int, none, some .boolean, none, some .boolean, some .boolean, none, some .int, some .int, some .int, some .int, some .int, none, none, none, none, none, none, none, none, some .int, some .int, some .int, none, some .int, some .int, some .int, some .int, some .boolean, some .boolean, none, none, none, none, some .int, some .int, some .int, some .int, some .boolean, some .int, some .int, some .int, some .int, some .int, some .boolean, some .int, some .int, some .int, some .int, some .int, some .int, some .int, some .int, some .int, some .int, some .int, some .boolean, some .boolean, some .int, some .int, some .int, none, some .int, some .int, some .boolean, some .int, some .int, some .boolean, some .int, some .int, some .int, some .int, some .int, none, none, some .int, some .int, some .boolean, some .int, some .int, some .long, some .boolean, some .int, some .int, some .boolean, some .int, some .int, some .int, some .int, some .int, some .int, some .int, none, some .boolean, some .int, some .int, some .int, some .boolean, some .long, some .int, some .int, some .int, none, none, none, some .boolean]
def zOCs : List Nat := [0, 0, 0, 0, 0, 0, 0, 0, 1, 1, 1, 1, 1, 1, 1, 1, 1, 1, 1, 1, 1, 1, 1, 1, 1, 1, 1, 1, 1, 1, 1, 1, 1, 1, 1, 1, 1, 1, 1, 1, 1, 2, 2, 2, 2, 2, 2, 3, 3, 4, 4, 4, 4, 4, 4, 4, 4, 4, 4, 4, 4, 4, 4, 4, 4, 4, 4, 4, 4, 4, 4, 4, 4, 5, 5, 5, 5, 5, 5, 5, 5, 6, 6, 6, 6, 6, 6, 6, 6, 7, 7, 7, 7, 7, 7, 7, 7, 7, 7, 8, 8, 8, 8, 8, 9, 9, 9, 9, 9, 9, 9, 9, 9, 9, 9, 9, 9, 9, 9, 9, 9, 9, 9, 9, 9, 9, 9, 9, 9, 9, 9, 9, 9, 9, 9, 9, 9, 9, 9, 9, 9, 9, 9, 9, 9, 9, 9, 9, 9, 9, 9, 9, 9, 9, 9, 9, 9, 9, 9, 9, 9, 9, 10, 10, 10, 10, 10, 10, 10, 10, 10, 10, 10, 10, 10, 10, 10, 10, 10, 10, 10, 10, 10, 10, 10, 10, 10, 10, 10, 10, 10, 10, 10, 10, 10, 10, 10, 10, 10, 10, 10, 10, 10, 10, 10, 10, 10, 10, 10, 10, 10, 10, 10, 10, 10, 10, 10, 10, 10, 10, 10, 10, 10, 10, 10, 10, 10, 10, 10, 10, 10, 10, 10, 10, 10, 10, 10, 10, 10, 10, 10, 10, 10, 10, 10, 10, 10, 10, 10, 10, 10, 10, 10, 10, 10, 10, 10, 10, 10, 10, 10, 10, 10, 10, 10, 10, 10, 10, 10, 10, 10, 10, 10, 10, 10, 10, 10, 10, 10, 11, 11, 11, 12]
def zNAs : List Nat := [1, 2, 3, 2, 3, 4, 4, 2, 3, 1, 2, 5, 2, 4, 1, 2, 1, 3, 2, 2, 3, 2, 6, 6, 4, 4, 3, 4, 4, 6, 6, 2, 2, 1, 2, 4, 5, 2, 3, 2, 1, 1, 2, 4, 4, 2, 3, 1, 2, 2, 2, 1, 1, 1, 3, 2, 2, 1, 3, 1, 1, 2, 1, 1, 3, 1, 1, 1, 1, 2, 2, 1, 1, 1, 1, 2, 1, 2, 2, 2, 3, 1, 2, 2, 1, 4, 3, 4, 4, 1, 3, 5, 2, 3, 5, 2, 2, 2, 2, 1, 2, 2, 4, 3, 1, 6, 2, 2, 1, 2, 3, 4, 3, 2, 3, 3, 4, 4, 3, 3, 2, 2, 2, 2, 3, 3, 3, 3, 4, 6, 6, 2, 1, 2, 3, 1, 3, 2, 3, 4, 6, 2, 4, 8, 2, 2, 2, 4, 4, 6, 4, 3, 2, 2, 3, 1, 1, 1, 1, 1, 1, 1, 1, 3, 2, 2, 1, 1, 2, 2, 2, 1, 1, 3, 4, 6, 2, 2, 1, 1, 2, 2, 2, 2, 3, 4, 2, 1, 3, 1, 1, 1, 2, 1, 1, 1, 1, 1, 3, 2, 1, 3, 3, 3, 4, 3, 3, 2, 5, 2, 1, 3, 2, 3, 3, 4, 3, 2, 2, 4, 4, 4, 4, 4, 3, 3, 3, 2, 2, 2, 2, 2, 3, 3, 3, 5, 3, 3, 3, 3, 4, 7, 6, 6, 2, 2, 2, 1, 1, 2, 1, 1, 2, 3, 3, 1, 3, 3, 3, 2, 3, 2, 6, 3, 4, 6, 4, 2, 2, 3, 2, 4, 8, 2, 1, 2, 4, 4, 6, 2, 2, 2, 1]
def zFrs : List Nat := [1, 0, 0, 0, 1, 1, 2, 0, 2, 4, 3, 2, 1, 2, 2, 3, 4, 1, 5, 4, 3, 5, 2, 3, 3, 4, 4, 2, 0, 4, 3, 3, 3, 4, 5, 5, 4, 3, 3, 3, 4, 1, 1, 0, 2, 0, 0, 1, 1, 3, 10, 1, 0, 0, 0, 5, 6, 2, 2, 3, 3, 1, 9, 7, 2, 7, 7, 7, 8, 7, 7, 7, 7, 2, 0, 2, 0, 0, 0, 0, 0, 1, 0, 0, 1, 1, 0, 0, 0, 1, 1, 1, 0, 0, 1, 0, 0, 0, 0, 1, 2, 1, 0, 0, 4, 1, 0, 0, 11, 0, 1, 3, 1, 1, 1, 1, 3, 2, 2, 3, 5, 6, 6, 1, 4, 5, 5, 5, 5, 5, 4, 4, 5, 6, 6, 1, 1, 2, 6, 6, 6, 4, 4, 5, 2, 3, 5, 2, 1, 1, 1, 1, 1, 1, 2, 0, 0, 1, 0, 0, 0, 0, 1, 0, 1, 1, 0, 0, 1, 1, 1, 1, 1, 0, 0, 0, 1, 0, 1, 0, 1, 5, 6, 7, 2, 8, 0, 3, 0, 9, 9, 9, 4, 9, 9, 10, 11, 12, 1, 0, 2, 0, 2, 3, 3, 1, 3, 0, 2, 4, 5, 2, 6, 6, 6, 0, 1, 1, 1, 2, 3, 2, 6, 6, 6, 6, 4, 5, 6, 6, 6, 1, 2, 2, 5, 6, 7, 7, 6, 7, 7, 5, 6, 6, 4, 6, 5, 6, 7, 7, 1, 1, 8, 8, 0, 6, 6, 0, 1, 6, 2, 4, 6, 7, 7, 7, 0, 6, 0, 6, 1, 7, 7, 1, 1, 0, 2, 2, 2, 0, 0, 0, 13]
def zLos : List Nat := [20, 0, 0, 0, 25, 25, 52, 0, 40, 95, 74, 49, 22, 49, 43, 74, 96, 22, 124, 100, 76, 124, 52, 79, 79, 103, 103, 49, 0, 105, 79, 76, 76, 102, 123, 133, 105, 79, 73, 74, 95, 20, 24, 0, 46, 0, 0, 20, 26, 61, 216, 21, 0, 0, 0, 109, 131, 42, 42, 65, 65, 22, 195, 152, 42, 152, 152, 152, 174, 152, 152, 152, 152, 40, 0, 47, 0, 0, 0, 0, 0, 23, 0, 0, 21, 24, 0, 0, 0, 20, 25, 25, 0, 0, 23, 0, 0, 0, 0, 20, 45, 21, 0, 0, 82, 22, 0, 0, 238, 0, 22, 72, 22, 22, 22, 22, 76, 52, 47, 76, 124, 146, 149, 20, 95, 127, 127, 128, 128, 132, 108, 98, 123, 146, 146, 23, 23, 45, 158, 158, 158, 105, 96, 116, 43, 69, 116, 47, 24, 26, 22, 22, 22, 22, 45, 0, 0, 20, 0, 0, 0, 0, 20, 0, 25, 25, 0, 0, 25, 25, 25, 25, 25, 0, 0, 0, 25, 0, 25, 0, 20, 109, 132, 154, 46, 175, 0, 69, 0, 198, 198, 198, 89, 198, 198, 223, 244, 264, 24, 0, 46, 0, 46, 69, 69, 25, 69, 0, 49, 92, 115, 47, 136, 136, 136, 0, 23, 22, 22, 48, 74, 47, 136, 136, 136, 136, 98, 122, 145, 136, 145, 25, 47, 47, 115, 137, 164, 164, 137, 162, 162, 115, 143, 136, 98, 136, 119, 143, 164, 164, 22, 23, 187, 187, 0, 136, 136, 0, 22, 136, 47, 98, 136, 164, 164, 164, 0, 136, 0, 136, 25, 160, 160, 20, 25, 0, 45, 45, 45, 0, 0, 0, 285]
def zY (mi : Nat) : MethodName := zYs.getD mi ⟨"", "", ""⟩
def zB (mi : Nat) : ByteArray := zBs.getD mi ⟨#[]⟩
def zML (mi : Nat) : Nat := zMLs.getD mi 0
def zRet (mi : Nat) : Option FieldType := zRets.getD mi none
def zOC (mi : Nat) : Nat := zOCs.getD mi 99
def zNA (mi : Nat) : Nat := zNAs.getD mi 0
def zFr (mi : Nat) : Nat := zFrs.getD mi 0
def zLo (mi : Nat) : Nat := zLos.getD mi 0
def zNM : Nat := 283
set_option maxRecDepth 100000 in
theorem zc_0 : Cond.code (zY 0) (zB 0) (zML 0) (zRet 0) ∈ lw_tbl := List.mem_of_getElem? (i := 432) rfl
set_option maxRecDepth 100000 in
theorem zc_1 : Cond.code (zY 1) (zB 1) (zML 1) (zRet 1) ∈ lw_tbl := List.mem_of_getElem? (i := 894) rfl
set_option maxRecDepth 100000 in
theorem zc_2 : Cond.code (zY 2) (zB 2) (zML 2) (zRet 2) ∈ lw_tbl := List.mem_of_getElem? (i := 1008) rfl
set_option maxRecDepth 100000 in
theorem zc_3 : Cond.code (zY 3) (zB 3) (zML 3) (zRet 3) ∈ lw_tbl := List.mem_of_getElem? (i := 1012) rfl
set_option maxRecDepth 100000 in
theorem zc_4 : Cond.code (zY 4) (zB 4) (zML 4) (zRet 4) ∈ lw_tbl := List.mem_of_getElem? (i := 1025) rfl
set_option maxRecDepth 100000 in
theorem zc_5 : Cond.code (zY 5) (zB 5) (zML 5) (zRet 5) ∈ lw_tbl := List.mem_of_getElem? (i := 1004) rfl
set_option maxRecDepth 100000 in
theorem zc_6 : Cond.code (zY 6) (zB 6) (zML 6) (zRet 6) ∈ lw_tbl := List.mem_of_getElem? (i := 1000) rfl
set_option maxRecDepth 100000 in
theorem zc_7 : Cond.code (zY 7) (zB 7) (zML 7) (zRet 7) ∈ lw_tbl := List.mem_of_getElem? (i := 1045) rfl
set_option maxRecDepth 100000 in
theorem zc_8 : Cond.code (zY 8) (zB 8) (zML 8) (zRet 8) ∈ lw_tbl := List.mem_of_getElem? (i := 469) rfl
set_option maxRecDepth 100000 in
theorem zc_9 : Cond.code (zY 9) (zB 9) (zML 9) (zRet 9) ∈ lw_tbl := List.mem_of_getElem? (i := 864) rfl
set_option maxRecDepth 100000 in
theorem zc_10 : Cond.code (zY 10) (zB 10) (zML 10) (zRet 10) ∈ lw_tbl := List.mem_of_getElem? (i := 910) rfl
set_option maxRecDepth 100000 in
theorem zc_11 : Cond.code (zY 11) (zB 11) (zML 11) (zRet 11) ∈ lw_tbl := List.mem_of_getElem? (i := 914) rfl
set_option maxRecDepth 100000 in
theorem zc_12 : Cond.code (zY 12) (zB 12) (zML 12) (zRet 12) ∈ lw_tbl := List.mem_of_getElem? (i := 926) rfl
set_option maxRecDepth 100000 in
theorem zc_13 : Cond.code (zY 13) (zB 13) (zML 13) (zRet 13) ∈ lw_tbl := List.mem_of_getElem? (i := 954) rfl
set_option maxRecDepth 100000 in
theorem zc_14 : Cond.code (zY 14) (zB 14) (zML 14) (zRet 14) ∈ lw_tbl := List.mem_of_getElem? (i := 1200) rfl
set_option maxRecDepth 100000 in
theorem zc_15 : Cond.code (zY 15) (zB 15) (zML 15) (zRet 15) ∈ lw_tbl := List.mem_of_getElem? (i := 1091) rfl
set_option maxRecDepth 100000 in
theorem zc_16 : Cond.code (zY 16) (zB 16) (zML 16) (zRet 16) ∈ lw_tbl := List.mem_of_getElem? (i := 1146) rfl
set_option maxRecDepth 100000 in
theorem zc_17 : Cond.code (zY 17) (zB 17) (zML 17) (zRet 17) ∈ lw_tbl := List.mem_of_getElem? (i := 1099) rfl
set_option maxRecDepth 100000 in
theorem zc_18 : Cond.code (zY 18) (zB 18) (zML 18) (zRet 18) ∈ lw_tbl := List.mem_of_getElem? (i := 1058) rfl
set_option maxRecDepth 100000 in
theorem zc_19 : Cond.code (zY 19) (zB 19) (zML 19) (zRet 19) ∈ lw_tbl := List.mem_of_getElem? (i := 1041) rfl
set_option maxRecDepth 100000 in
theorem zc_20 : Cond.code (zY 20) (zB 20) (zML 20) (zRet 20) ∈ lw_tbl := List.mem_of_getElem? (i := 1049) rfl
set_option maxRecDepth 100000 in
theorem zc_21 : Cond.code (zY 21) (zB 21) (zML 21) (zRet 21) ∈ lw_tbl := List.mem_of_getElem? (i := 1067) rfl
set_option maxRecDepth 100000 in
theorem zc_22 : Cond.code (zY 22) (zB 22) (zML 22) (zRet 22) ∈ lw_tbl := List.mem_of_getElem? (i := 1107) rfl
set_option maxRecDepth 100000 in
theorem zc_23 : Cond.code (zY 23) (zB 23) (zML 23) (zRet 23) ∈ lw_tbl := List.mem_of_getElem? (i := 1155) rfl
set_option maxRecDepth 100000 in
theorem zc_24 : Cond.code (zY 24) (zB 24) (zML 24) (zRet 24) ∈ lw_tbl := List.mem_of_getElem? (i := 1103) rfl
set_option maxRecDepth 100000 in
theorem zc_25 : Cond.code (zY 25) (zB 25) (zML 25) (zRet 25) ∈ lw_tbl := List.mem_of_getElem? (i := 1095) rfl
set_option maxRecDepth 100000 in
theorem zc_26 : Cond.code (zY 26) (zB 26) (zML 26) (zRet 26) ∈ lw_tbl := List.mem_of_getElem? (i := 1120) rfl
set_option maxRecDepth 100000 in
theorem zc_27 : Cond.code (zY 27) (zB 27) (zML 27) (zRet 27) ∈ lw_tbl := List.mem_of_getElem? (i := 1124) rfl
set_option maxRecDepth 100000 in
theorem zc_28 : Cond.code (zY 28) (zB 28) (zML 28) (zRet 28) ∈ lw_tbl := List.mem_of_getElem? (i := 1128) rfl
set_option maxRecDepth 100000 in
theorem zc_29 : Cond.code (zY 29) (zB 29) (zML 29) (zRet 29) ∈ lw_tbl := List.mem_of_getElem? (i := 1151) rfl
set_option maxRecDepth 100000 in
theorem zc_30 : Cond.code (zY 30) (zB 30) (zML 30) (zRet 30) ∈ lw_tbl := List.mem_of_getElem? (i := 1163) rfl
set_option maxRecDepth 100000 in
theorem zc_31 : Cond.code (zY 31) (zB 31) (zML 31) (zRet 31) ∈ lw_tbl := List.mem_of_getElem? (i := 1171) rfl
set_option maxRecDepth 100000 in
theorem zc_32 : Cond.code (zY 32) (zB 32) (zML 32) (zRet 32) ∈ lw_tbl := List.mem_of_getElem? (i := 1184) rfl
set_option maxRecDepth 100000 in
theorem zc_33 : Cond.code (zY 33) (zB 33) (zML 33) (zRet 33) ∈ lw_tbl := List.mem_of_getElem? (i := 1179) rfl
set_option maxRecDepth 100000 in
theorem zc_34 : Cond.code (zY 34) (zB 34) (zML 34) (zRet 34) ∈ lw_tbl := List.mem_of_getElem? (i := 1195) rfl
set_option maxRecDepth 100000 in
theorem zc_35 : Cond.code (zY 35) (zB 35) (zML 35) (zRet 35) ∈ lw_tbl := List.mem_of_getElem? (i := 1257) rfl
set_option maxRecDepth 100000 in
theorem zc_36 : Cond.code (zY 36) (zB 36) (zML 36) (zRet 36) ∈ lw_tbl := List.mem_of_getElem? (i := 1261) rfl
set_option maxRecDepth 100000 in
theorem zc_37 : Cond.code (zY 37) (zB 37) (zML 37) (zRet 37) ∈ lw_tbl := List.mem_of_getElem? (i := 1279) rfl
set_option maxRecDepth 100000 in
theorem zc_38 : Cond.code (zY 38) (zB 38) (zML 38) (zRet 38) ∈ lw_tbl := List.mem_of_getElem? (i := 1294) rfl
set_option maxRecDepth 100000 in
theorem zc_39 : Cond.code (zY 39) (zB 39) (zML 39) (zRet 39) ∈ lw_tbl := List.mem_of_getElem? (i := 1311) rfl
set_option maxRecDepth 100000 in
theorem zc_40 : Cond.code (zY 40) (zB 40) (zML 40) (zRet 40) ∈ lw_tbl := List.mem_of_getElem? (i := 1319) rfl
set_option maxRecDepth 100000 in
theorem zc_41 : Cond.code (zY 41) (zB 41) (zML 41) (zRet 41) ∈ lw_tbl := List.mem_of_getElem? (i := 499) rfl
set_option maxRecDepth 100000 in
theorem zc_42 : Cond.code (zY 42) (zB 42) (zML 42) (zRet 42) ∈ lw_tbl := List.mem_of_getElem? (i := 883) rfl
set_option maxRecDepth 100000 in
theorem zc_43 : Cond.code (zY 43) (zB 43) (zML 43) (zRet 43) ∈ lw_tbl := List.mem_of_getElem? (i := 890) rfl
set_option maxRecDepth 100000 in
theorem zc_44 : Cond.code (zY 44) (zB 44) (zML 44) (zRet 44) ∈ lw_tbl := List.mem_of_getElem? (i := 1298) rfl
set_option maxRecDepth 100000 in
theorem zc_45 : Cond.code (zY 45) (zB 45) (zML 45) (zRet 45) ∈ lw_tbl := List.mem_of_getElem? (i := 1303) rfl
set_option maxRecDepth 100000 in
theorem zc_46 : Cond.code (zY 46) (zB 46) (zML 46) (zRet 46) ∈ lw_tbl := List.mem_of_getElem? (i := 922) rfl
set_option maxRecDepth 100000 in
theorem zc_47 : Cond.code (zY 47) (zB 47) (zML 47) (zRet 47) ∈ lw_tbl := List.mem_of_getElem? (i := 210) rfl
set_option maxRecDepth 100000 in
theorem zc_48 : Cond.code (zY 48) (zB 48) (zML 48) (zRet 48) ∈ lw_tbl := List.mem_of_getElem? (i := 859) rfl
set_option maxRecDepth 100000 in
theorem zc_49 : Cond.code (zY 49) (zB 49) (zML 49) (zRet 49) ∈ lw_tbl := List.mem_of_getElem? (i := 197) rfl
set_option maxRecDepth 100000 in
theorem zc_50 : Cond.code (zY 50) (zB 50) (zML 50) (zRet 50) ∈ lw_tbl := List.mem_of_getElem? (i := 674) rfl
set_option maxRecDepth 100000 in
theorem zc_51 : Cond.code (zY 51) (zB 51) (zML 51) (zRet 51) ∈ lw_tbl := List.mem_of_getElem? (i := 688) rfl
set_option maxRecDepth 100000 in
theorem zc_52 : Cond.code (zY 52) (zB 52) (zML 52) (zRet 52) ∈ lw_tbl := List.mem_of_getElem? (i := 692) rfl
set_option maxRecDepth 100000 in
theorem zc_53 : Cond.code (zY 53) (zB 53) (zML 53) (zRet 53) ∈ lw_tbl := List.mem_of_getElem? (i := 696) rfl
set_option maxRecDepth 100000 in
theorem zc_54 : Cond.code (zY 54) (zB 54) (zML 54) (zRet 54) ∈ lw_tbl := List.mem_of_getElem? (i := 758) rfl
set_option maxRecDepth 100000 in
theorem zc_55 : Cond.code (zY 55) (zB 55) (zML 55) (zRet 55) ∈ lw_tbl := List.mem_of_getElem? (i := 706) rfl
set_option maxRecDepth 100000 in
theorem zc_56 : Cond.code (zY 56) (zB 56) (zML 56) (zRet 56) ∈ lw_tbl := List.mem_of_getElem? (i := 766) rfl
set_option maxRecDepth 100000 in
theorem zc_57 : Cond.code (zY 57) (zB 57) (zML 57) (zRet 57) ∈ lw_tbl := List.mem_of_getElem? (i := 848) rfl
set_option maxRecDepth 100000 in
theorem zc_58 : Cond.code (zY 58) (zB 58) (zML 58) (zRet 58) ∈ lw_tbl := List.mem_of_getElem? (i := 771) rfl
set_option maxRecDepth 100000 in
theorem zc_59 : Cond.code (zY 59) (zB 59) (zML 59) (zRet 59) ∈ lw_tbl := List.mem_of_getElem? (i := 785) rfl
set_option maxRecDepth 100000 in
theorem zc_60 : Cond.code (zY 60) (zB 60) (zML 60) (zRet 60) ∈ lw_tbl := List.mem_of_getElem? (i := 804) rfl
set_option maxRecDepth 100000 in
theorem zc_61 : Cond.code (zY 61) (zB 61) (zML 61) (zRet 61) ∈ lw_tbl := List.mem_of_getElem? (i := 794) rfl
set_option maxRecDepth 100000 in
theorem zc_62 : Cond.code (zY 62) (zB 62) (zML 62) (zRet 62) ∈ lw_tbl := List.mem_of_getElem? (i := 701) rfl
set_option maxRecDepth 100000 in
theorem zc_63 : Cond.code (zY 63) (zB 63) (zML 63) (zRet 63) ∈ lw_tbl := List.mem_of_getElem? (i := 762) rfl
set_option maxRecDepth 100000 in
theorem zc_64 : Cond.code (zY 64) (zB 64) (zML 64) (zRet 64) ∈ lw_tbl := List.mem_of_getElem? (i := 781) rfl
set_option maxRecDepth 100000 in
theorem zc_65 : Cond.code (zY 65) (zB 65) (zML 65) (zRet 65) ∈ lw_tbl := List.mem_of_getElem? (i := 777) rfl
set_option maxRecDepth 100000 in
theorem zc_66 : Cond.code (zY 66) (zB 66) (zML 66) (zRet 66) ∈ lw_tbl := List.mem_of_getElem? (i := 799) rfl
set_option maxRecDepth 100000 in
theorem zc_67 : Cond.code (zY 67) (zB 67) (zML 67) (zRet 67) ∈ lw_tbl := List.mem_of_getElem? (i := 809) rfl
set_option maxRecDepth 100000 in
theorem zc_68 : Cond.code (zY 68) (zB 68) (zML 68) (zRet 68) ∈ lw_tbl := List.mem_of_getElem? (i := 816) rfl
set_option maxRecDepth 100000 in
theorem zc_69 : Cond.code (zY 69) (zB 69) (zML 69) (zRet 69) ∈ lw_tbl := List.mem_of_getElem? (i := 821) rfl
set_option maxRecDepth 100000 in
theorem zc_70 : Cond.code (zY 70) (zB 70) (zML 70) (zRet 70) ∈ lw_tbl := List.mem_of_getElem? (i := 828) rfl
set_option maxRecDepth 100000 in
theorem zc_71 : Cond.code (zY 71) (zB 71) (zML 71) (zRet 71) ∈ lw_tbl := List.mem_of_getElem? (i := 834) rfl
set_option maxRecDepth 100000 in
theorem zc_72 : Cond.code (zY 72) (zB 72) (zML 72) (zRet 72) ∈ lw_tbl := List.mem_of_getElem? (i := 843) rfl
set_option maxRecDepth 100000 in
theorem zc_73 : Cond.code (zY 73) (zB 73) (zML 73) (zRet 73) ∈ lw_tbl := List.mem_of_getElem? (i := 203) rfl
set_option maxRecDepth 100000 in
theorem zc_74 : Cond.code (zY 74) (zB 74) (zML 74) (zRet 74) ∈ lw_tbl := List.mem_of_getElem? (i := 678) rfl
set_option maxRecDepth 100000 in
theorem zc_75 : Cond.code (zY 75) (zB 75) (zML 75) (zRet 75) ∈ lw_tbl := List.mem_of_getElem? (i := 852) rfl
set_option maxRecDepth 100000 in
theorem zc_76 : Cond.code (zY 76) (zB 76) (zML 76) (zRet 76) ∈ lw_tbl := List.mem_of_getElem? (i := 1037) rfl
set_option maxRecDepth 100000 in
theorem zc_77 : Cond.code (zY 77) (zB 77) (zML 77) (zRet 77) ∈ lw_tbl := List.mem_of_getElem? (i := 942) rfl
set_option maxRecDepth 100000 in
theorem zc_78 : Cond.code (zY 78) (zB 78) (zML 78) (zRet 78) ∈ lw_tbl := List.mem_of_getElem? (i := 930) rfl
set_option maxRecDepth 100000 in
theorem zc_79 : Cond.code (zY 79) (zB 79) (zML 79) (zRet 79) ∈ lw_tbl := List.mem_of_getElem? (i := 838) rfl
set_option maxRecDepth 100000 in
theorem zc_80 : Cond.code (zY 80) (zB 80) (zML 80) (zRet 80) ∈ lw_tbl := List.mem_of_getElem? (i := 790) rfl
set_option maxRecDepth 100000 in
theorem zc_81 : Cond.code (zY 81) (zB 81) (zML 81) (zRet 81) ∈ lw_tbl := List.mem_of_getElem? (i := 604) rfl
set_option maxRecDepth 100000 in
theorem zc_82 : Cond.code (zY 82) (zB 82) (zML 82) (zRet 82) ∈ lw_tbl := List.mem_of_getElem? (i := 1225) rfl
set_option maxRecDepth 100000 in
theorem zc_83 : Cond.code (zY 83) (zB 83) (zML 83) (zRet 83) ∈ lw_tbl := List.mem_of_getElem? (i := 1229) rfl
set_option maxRecDepth 100000 in
theorem zc_84 : Cond.code (zY 84) (zB 84) (zML 84) (zRet 84) ∈ lw_tbl := List.mem_of_getElem? (i := 1328) rfl
set_option maxRecDepth 100000 in
theorem zc_85 : Cond.code (zY 85) (zB 85) (zML 85) (zRet 85) ∈ lw_tbl := List.mem_of_getElem? (i := 1345) rfl
set_option maxRecDepth 100000 in
theorem zc_86 : Cond.code (zY 86) (zB 86) (zML 86) (zRet 86) ∈ lw_tbl := List.mem_of_getElem? (i := 1237) rfl
set_option maxRecDepth 100000 in
theorem zc_87 : Cond.code (zY 87) (zB 87) (zML 87) (zRet 87) ∈ lw_tbl := List.mem_of_getElem? (i := 1356) rfl
set_option maxRecDepth 100000 in
theorem zc_88 : Cond.code (zY 88) (zB 88) (zML 88) (zRet 88) ∈ lw_tbl := List.mem_of_getElem? (i := 1364) rfl
set_option maxRecDepth 100000 in
theorem zc_89 : Cond.code (zY 89) (zB 89) (zML 89) (zRet 89) ∈ lw_tbl := List.mem_of_getElem? (i := 516) rfl
set_option maxRecDepth 100000 in
theorem zc_90 : Cond.code (zY 90) (zB 90) (zML 90) (zRet 90) ∈ lw_tbl := List.mem_of_getElem? (i := 898) rfl
set_option maxRecDepth 100000 in
theorem zc_91 : Cond.code (zY 91) (zB 91) (zML 91) (zRet 91) ∈ lw_tbl := List.mem_of_getElem? (i := 958) rfl
set_option maxRecDepth 100000 in
theorem zc_92 : Cond.code (zY 92) (zB 92) (zML 92) (zRet 92) ∈ lw_tbl := List.mem_of_getElem? (i := 902) rfl
set_option maxRecDepth 100000 in
theorem zc_93 : Cond.code (zY 93) (zB 93) (zML 93) (zRet 93) ∈ lw_tbl := List.mem_of_getElem? (i := 906) rfl
set_option maxRecDepth 100000 in
theorem zc_94 : Cond.code (zY 94) (zB 94) (zML 94) (zRet 94) ∈ lw_tbl := List.mem_of_getElem? (i := 918) rfl
set_option maxRecDepth 100000 in
theorem zc_95 : Cond.code (zY 95) (zB 95) (zML 95) (zRet 95) ∈ lw_tbl := List.mem_of_getElem? (i := 976) rfl
set_option maxRecDepth 100000 in
theorem zc_96 : Cond.code (zY 96) (zB 96) (zML 96) (zRet 96) ∈ lw_tbl := List.mem_of_getElem? (i := 984) rfl
set_option maxRecDepth 100000 in
theorem zc_97 : Cond.code (zY 97) (zB 97) (zML 97) (zRet 97) ∈ lw_tbl := List.mem_of_getElem? (i := 1241) rfl
set_option maxRecDepth 100000 in
theorem zc_98 : Cond.code (zY 98) (zB 98) (zML 98) (zRet 98) ∈ lw_tbl := List.mem_of_getElem? (i := 1213) rfl
set_option maxRecDepth 100000 in
theorem zc_99 : Cond.code (zY 99) (zB 99) (zML 99) (zRet 99) ∈ lw_tbl := List.mem_of_getElem? (i := 475) rfl
set_option maxRecDepth 100000 in
theorem zc_100 : Cond.code (zY 100) (zB 100) (zML 100) (zRet 100) ∈ lw_tbl := List.mem_of_getElem? (i := 868) rfl
set_option maxRecDepth 100000 in
theorem zc_101 : Cond.code (zY 101) (zB 101) (zML 101) (zRet 101) ∈ lw_tbl := List.mem_of_getElem? (i := 874) rfl
set_option maxRecDepth 100000 in
theorem zc_102 : Cond.code (zY 102) (zB 102) (zML 102) (zRet 102) ∈ lw_tbl := List.mem_of_getElem? (i := 879) rfl
set_option maxRecDepth 100000 in
theorem zc_103 : Cond.code (zY 103) (zB 103) (zML 103) (zRet 103) ∈ lw_tbl := List.mem_of_getElem? (i := 946) rfl
set_option maxRecDepth 100000 in
theorem zc_104 : Cond.code (zY 104) (zB 104) (zML 104) (zRet 104) ∈ lw_tbl := List.mem_of_getElem? (i := 189) rfl
set_option maxRecDepth 100000 in
theorem zc_105 : Cond.code (zY 105) (zB 105) (zML 105) (zRet 105) ∈ lw_tbl := List.mem_of_getElem? (i := 658) rfl
set_option maxRecDepth 100000 in
theorem zc_106 : Cond.code (zY 106) (zB 106) (zML 106) (zRet 106) ∈ lw_tbl := List.mem_of_getElem? (i := 662) rfl
set_option maxRecDepth 100000 in
theorem zc_107 : Cond.code (zY 107) (zB 107) (zML 107) (zRet 107) ∈ lw_tbl := List.mem_of_getElem? (i := 666) rfl
set_option maxRecDepth 100000 in
theorem zc_108 : Cond.code (zY 108) (zB 108) (zML 108) (zRet 108) ∈ lw_tbl := List.mem_of_getElem? (i := 670) rfl
set_option maxRecDepth 100000 in
theorem zc_109 : Cond.code (zY 109) (zB 109) (zML 109) (zRet 109) ∈ lw_tbl := List.mem_of_getElem? (i := 934) rfl
set_option maxRecDepth 100000 in
theorem zc_110 : Cond.code (zY 110) (zB 110) (zML 110) (zRet 110) ∈ lw_tbl := List.mem_of_getElem? (i := 938) rfl
set_option maxRecDepth 100000 in
theorem zc_111 : Cond.code (zY 111) (zB 111) (zML 111) (zRet 111) ∈ lw_tbl := List.mem_of_getElem? (i := 950) rfl
set_option maxRecDepth 100000 in
theorem zc_112 : Cond.code (zY 112) (zB 112) (zML 112) (zRet 112) ∈ lw_tbl := List.mem_of_getElem? (i := 962) rfl
set_option maxRecDepth 100000 in
theorem zc_113 : Cond.code (zY 113) (zB 113) (zML 113) (zRet 113) ∈ lw_tbl := List.mem_of_getElem? (i := 967) rfl
set_option maxRecDepth 100000 in
theorem zc_114 : Cond.code (zY 114) (zB 114) (zML 114) (zRet 114) ∈ lw_tbl := List.mem_of_getElem? (i := 971) rfl
set_option maxRecDepth 100000 in
theorem zc_115 : Cond.code (zY 115) (zB 115) (zML 115) (zRet 115) ∈ lw_tbl := List.mem_of_getElem? (i := 980) rfl
set_option maxRecDepth 100000 in
theorem zc_116 : Cond.code (zY 116) (zB 116) (zML 116) (zRet 116) ∈ lw_tbl := List.mem_of_getElem? (i := 988) rfl
set_option maxRecDepth 100000 in
theorem zc_117 : Cond.code (zY 117) (zB 117) (zML 117) (zRet 117) ∈ lw_tbl := List.mem_of_getElem? (i := 1016) rfl
set_option maxRecDepth 100000 in
theorem zc_118 : Cond.code (zY 118) (zB 118) (zML 118) (zRet 118) ∈ lw_tbl := List.mem_of_getElem? (i := 1021) rfl
set_option maxRecDepth 100000 in
theorem zc_119 : Cond.code (zY 119) (zB 119) (zML 119) (zRet 119) ∈ lw_tbl := List.mem_of_getElem? (i := 1029) rfl
set_option maxRecDepth 100000 in
theorem zc_120 : Cond.code (zY 120) (zB 120) (zML 120) (zRet 120) ∈ lw_tbl := List.mem_of_getElem? (i := 1033) rfl
set_option maxRecDepth 100000 in
theorem zc_121 : Cond.code (zY 121) (zB 121) (zML 121) (zRet 121) ∈ lw_tbl := List.mem_of_getElem? (i := 1054) rfl
set_option maxRecDepth 100000 in
theorem zc_122 : Cond.code (zY 122) (zB 122) (zML 122) (zRet 122) ∈ lw_tbl := List.mem_of_getElem? (i := 1063) rfl
set_option maxRecDepth 100000 in
theorem zc_123 : Cond.code (zY 123) (zB 123) (zML 123) (zRet 123) ∈ lw_tbl := List.mem_of_getElem? (i := 1071) rfl
set_option maxRecDepth 100000 in
theorem zc_124 : Cond.code (zY 124) (zB 124) (zML 124) (zRet 124) ∈ lw_tbl := List.mem_of_getElem? (i := 1078) rfl
set_option maxRecDepth 100000 in
theorem zc_125 : Cond.code (zY 125) (zB 125) (zML 125) (zRet 125) ∈ lw_tbl := List.mem_of_getElem? (i := 1083) rfl
set_option maxRecDepth 100000 in
theorem zc_126 : Cond.code (zY 126) (zB 126) (zML 126) (zRet 126) ∈ lw_tbl := List.mem_of_getElem? (i := 1112) rfl
set_option maxRecDepth 100000 in
theorem zc_127 : Cond.code (zY 127) (zB 127) (zML 127) (zRet 127) ∈ lw_tbl := List.mem_of_getElem? (i := 1116) rfl
set_option maxRecDepth 100000 in
theorem zc_128 : Cond.code (zY 128) (zB 128) (zML 128) (zRet 128) ∈ lw_tbl := List.mem_of_getElem? (i := 1132) rfl
set_option maxRecDepth 100000 in
theorem zc_129 : Cond.code (zY 129) (zB 129) (zML 129) (zRet 129) ∈ lw_tbl := List.mem_of_getElem? (i := 1136) rfl
set_option maxRecDepth 100000 in
theorem zc_130 : Cond.code (zY 130) (zB 130) (zML 130) (zRet 130) ∈ lw_tbl := List.mem_of_getElem? (i := 1159) rfl
set_option maxRecDepth 100000 in
theorem zc_131 : Cond.code (zY 131) (zB 131) (zML 131) (zRet 131) ∈ lw_tbl := List.mem_of_getElem? (i := 1167) rfl
set_option maxRecDepth 100000 in
theorem zc_132 : Cond.code (zY 132) (zB 132) (zML 132) (zRet 132) ∈ lw_tbl := List.mem_of_getElem? (i := 1175) rfl
set_option maxRecDepth 100000 in
theorem zc_133 : Cond.code (zY 133) (zB 133) (zML 133) (zRet 133) ∈ lw_tbl := List.mem_of_getElem? (i := 1188) rfl
set_option maxRecDepth 100000 in
theorem zc_134 : Cond.code (zY 134) (zB 134) (zML 134) (zRet 134) ∈ lw_tbl := List.mem_of_getElem? (i := 1205) rfl
set_option maxRecDepth 100000 in
theorem zc_135 : Cond.code (zY 135) (zB 135) (zML 135) (zRet 135) ∈ lw_tbl := List.mem_of_getElem? (i := 1209) rfl
set_option maxRecDepth 100000 in
theorem zc_136 : Cond.code (zY 136) (zB 136) (zML 136) (zRet 136) ∈ lw_tbl := List.mem_of_getElem? (i := 1217) rfl
set_option maxRecDepth 100000 in
theorem zc_137 : Cond.code (zY 137) (zB 137) (zML 137) (zRet 137) ∈ lw_tbl := List.mem_of_getElem? (i := 1221) rfl
set_option maxRecDepth 100000 in
theorem zc_138 : Cond.code (zY 138) (zB 138) (zML 138) (zRet 138) ∈ lw_tbl := List.mem_of_getElem? (i := 1245) rfl
set_option maxRecDepth 100000 in
theorem zc_139 : Cond.code (zY 139) (zB 139) (zML 139) (zRet 139) ∈ lw_tbl := List.mem_of_getElem? (i := 1266) rfl
set_option maxRecDepth 100000 in
theorem zc_140 : Cond.code (zY 140) (zB 140) (zML 140) (zRet 140) ∈ lw_tbl := List.mem_of_getElem? (i := 1270) rfl
set_option maxRecDepth 100000 in
theorem zc_141 : Cond.code (zY 141) (zB 141) (zML 141) (zRet 141) ∈ lw_tbl := List.mem_of_getElem? (i := 1275) rfl
set_option maxRecDepth 100000 in
theorem zc_142 : Cond.code (zY 142) (zB 142) (zML 142) (zRet 142) ∈ lw_tbl := List.mem_of_getElem? (i := 1283) rfl
set_option maxRecDepth 100000 in
theorem zc_143 : Cond.code (zY 143) (zB 143) (zML 143) (zRet 143) ∈ lw_tbl := List.mem_of_getElem? (i := 1315) rfl
set_option maxRecDepth 100000 in
theorem zc_144 : Cond.code (zY 144) (zB 144) (zML 144) (zRet 144) ∈ lw_tbl := List.mem_of_getElem? (i := 1324) rfl
set_option maxRecDepth 100000 in
theorem zc_145 : Cond.code (zY 145) (zB 145) (zML 145) (zRet 145) ∈ lw_tbl := List.mem_of_getElem? (i := 1333) rfl
set_option maxRecDepth 100000 in
theorem zc_146 : Cond.code (zY 146) (zB 146) (zML 146) (zRet 146) ∈ lw_tbl := List.mem_of_getElem? (i := 1337) rfl
set_option maxRecDepth 100000 in
theorem zc_147 : Cond.code (zY 147) (zB 147) (zML 147) (zRet 147) ∈ lw_tbl := List.mem_of_getElem? (i := 1341) rfl
set_option maxRecDepth 100000 in
theorem zc_148 : Cond.code (zY 148) (zB 148) (zML 148) (zRet 148) ∈ lw_tbl := List.mem_of_getElem? (i := 1352) rfl
set_option maxRecDepth 100000 in
theorem zc_149 : Cond.code (zY 149) (zB 149) (zML 149) (zRet 149) ∈ lw_tbl := List.mem_of_getElem? (i := 1360) rfl
set_option maxRecDepth 100000 in
theorem zc_150 : Cond.code (zY 150) (zB 150) (zML 150) (zRet 150) ∈ lw_tbl := List.mem_of_getElem? (i := 992) rfl
set_option maxRecDepth 100000 in
theorem zc_151 : Cond.code (zY 151) (zB 151) (zML 151) (zRet 151) ∈ lw_tbl := List.mem_of_getElem? (i := 1087) rfl
set_option maxRecDepth 100000 in
theorem zc_152 : Cond.code (zY 152) (zB 152) (zML 152) (zRet 152) ∈ lw_tbl := List.mem_of_getElem? (i := 1233) rfl
set_option maxRecDepth 100000 in
theorem zc_153 : Cond.code (zY 153) (zB 153) (zML 153) (zRet 153) ∈ lw_tbl := List.mem_of_getElem? (i := 1253) rfl
set_option maxRecDepth 100000 in
theorem zc_154 : Cond.code (zY 154) (zB 154) (zML 154) (zRet 154) ∈ lw_tbl := List.mem_of_getElem? (i := 1249) rfl
set_option maxRecDepth 100000 in
theorem zc_155 : Cond.code (zY 155) (zB 155) (zML 155) (zRet 155) ∈ lw_tbl := List.mem_of_getElem? (i := 995) rfl
set_option maxRecDepth 100000 in
theorem zc_156 : Cond.code (zY 156) (zB 156) (zML 156) (zRet 156) ∈ lw_tbl := List.mem_of_getElem? (i := 1142) rfl
set_option maxRecDepth 100000 in
theorem zc_157 : Cond.code (zY 157) (zB 157) (zML 157) (zRet 157) ∈ lw_tbl := List.mem_of_getElem? (i := 1139) rfl
set_option maxRecDepth 100000 in
theorem zc_158 : Cond.code (zY 158) (zB 158) (zML 158) (zRet 158) ∈ lw_tbl := List.mem_of_getElem? (i := 1074) rfl
set_option maxRecDepth 100000 in
theorem zc_159 : Cond.code (zY 159) (zB 159) (zML 159) (zRet 159) ∈ lw_tbl := List.mem_of_getElem? (i := 1191) rfl
set_option maxRecDepth 100000 in
theorem zc_160 : Cond.code (zY 160) (zB 160) (zML 160) (zRet 160) ∈ lw_tbl := List.mem_of_getElem? (i := 1286) rfl
set_option maxRecDepth 100000 in
theorem zc_161 : Cond.code (zY 161) (zB 161) (zML 161) (zRet 161) ∈ lw_tbl := List.mem_of_getElem? (i := 1290) rfl
set_option maxRecDepth 100000 in
theorem zc_162 : Cond.code (zY 162) (zB 162) (zML 162) (zRet 162) ∈ lw_tbl := List.mem_of_getElem? (i := 1370) rfl
set_option maxRecDepth 100000 in
theorem zc_163 : Cond.code (zY 163) (zB 163) (zML 163) (zRet 163) ∈ lw_tbl := List.mem_of_getElem? (i := 1505) rfl
set_option maxRecDepth 100000 in
theorem zc_164 : Cond.code (zY 164) (zB 164) (zML 164) (zRet 164) ∈ lw_tbl := List.mem_of_getElem? (i := 1501) rfl
set_option maxRecDepth 100000 in
theorem zc_165 : Cond.code (zY 165) (zB 165) (zML 165) (zRet 165) ∈ lw_tbl := List.mem_of_getElem? (i := 1509) rfl
set_option maxRecDepth 100000 in
theorem zc_166 : Cond.code (zY 166) (zB 166) (zML 166) (zRet 166) ∈ lw_tbl := List.mem_of_getElem? (i := 1772) rfl
set_option maxRecDepth 100000 in
theorem zc_167 : Cond.code (zY 167) (zB 167) (zML 167) (zRet 167) ∈ lw_tbl := List.mem_of_getElem? (i := 1639) rfl
set_option maxRecDepth 100000 in
theorem zc_168 : Cond.code (zY 168) (zB 168) (zML 168) (zRet 168) ∈ lw_tbl := List.mem_of_getElem? (i := 1635) rfl
set_option maxRecDepth 100000 in
theorem zc_169 : Cond.code (zY 169) (zB 169) (zML 169) (zRet 169) ∈ lw_tbl := List.mem_of_getElem? (i := 1713) rfl
set_option maxRecDepth 100000 in
theorem zc_170 : Cond.code (zY 170) (zB 170) (zML 170) (zRet 170) ∈ lw_tbl := List.mem_of_getElem? (i := 1672) rfl
set_option maxRecDepth 100000 in
theorem zc_171 : Cond.code (zY 171) (zB 171) (zML 171) (zRet 171) ∈ lw_tbl := List.mem_of_getElem? (i := 1728) rfl
set_option maxRecDepth 100000 in
theorem zc_172 : Cond.code (zY 172) (zB 172) (zML 172) (zRet 172) ∈ lw_tbl := List.mem_of_getElem? (i := 1840) rfl
set_option maxRecDepth 100000 in
theorem zc_173 : Cond.code (zY 173) (zB 173) (zML 173) (zRet 173) ∈ lw_tbl := List.mem_of_getElem? (i := 1677) rfl
set_option maxRecDepth 100000 in
theorem zc_174 : Cond.code (zY 174) (zB 174) (zML 174) (zRet 174) ∈ lw_tbl := List.mem_of_getElem? (i := 1801) rfl
set_option maxRecDepth 100000 in
theorem zc_175 : Cond.code (zY 175) (zB 175) (zML 175) (zRet 175) ∈ lw_tbl := List.mem_of_getElem? (i := 1513) rfl
set_option maxRecDepth 100000 in
theorem zc_176 : Cond.code (zY 176) (zB 176) (zML 176) (zRet 176) ∈ lw_tbl := List.mem_of_getElem? (i := 1517) rfl
set_option maxRecDepth 100000 in
theorem zc_177 : Cond.code (zY 177) (zB 177) (zML 177) (zRet 177) ∈ lw_tbl := List.mem_of_getElem? (i := 1533) rfl
set_option maxRecDepth 100000 in
theorem zc_178 : Cond.code (zY 178) (zB 178) (zML 178) (zRet 178) ∈ lw_tbl := List.mem_of_getElem? (i := 1529) rfl
set_option maxRecDepth 100000 in
theorem zc_179 : Cond.code (zY 179) (zB 179) (zML 179) (zRet 179) ∈ lw_tbl := List.mem_of_getElem? (i := 1543) rfl
set_option maxRecDepth 100000 in
theorem zc_180 : Cond.code (zY 180) (zB 180) (zML 180) (zRet 180) ∈ lw_tbl := List.mem_of_getElem? (i := 1566) rfl
set_option maxRecDepth 100000 in
theorem zc_181 : Cond.code (zY 181) (zB 181) (zML 181) (zRet 181) ∈ lw_tbl := List.mem_of_getElem? (i := 1560) rfl
set_option maxRecDepth 100000 in
theorem zc_182 : Cond.code (zY 182) (zB 182) (zML 182) (zRet 182) ∈ lw_tbl := List.mem_of_getElem? (i := 1556) rfl
set_option maxRecDepth 100000 in
theorem zc_183 : Cond.code (zY 183) (zB 183) (zML 183) (zRet 183) ∈ lw_tbl := List.mem_of_getElem? (i := 1552) rfl
set_option maxRecDepth 100000 in
theorem zc_184 : Cond.code (zY 184) (zB 184) (zML 184) (zRet 184) ∈ lw_tbl := List.mem_of_getElem? (i := 1575) rfl
set_option maxRecDepth 100000 in
theorem zc_185 : Cond.code (zY 185) (zB 185) (zML 185) (zRet 185) ∈ lw_tbl := List.mem_of_getElem? (i := 1571) rfl
set_option maxRecDepth 100000 in
theorem zc_186 : Cond.code (zY 186) (zB 186) (zML 186) (zRet 186) ∈ lw_tbl := List.mem_of_getElem? (i := 1521) rfl
set_option maxRecDepth 100000 in
theorem zc_187 : Cond.code (zY 187) (zB 187) (zML 187) (zRet 187) ∈ lw_tbl := List.mem_of_getElem? (i := 1594) rfl
set_option maxRecDepth 100000 in
theorem zc_188 : Cond.code (zY 188) (zB 188) (zML 188) (zRet 188) ∈ lw_tbl := List.mem_of_getElem? (i := 1598) rfl
set_option maxRecDepth 100000 in
theorem zc_189 : Cond.code (zY 189) (zB 189) (zML 189) (zRet 189) ∈ lw_tbl := List.mem_of_getElem? (i := 1590) rfl
set_option maxRecDepth 100000 in
theorem zc_190 : Cond.code (zY 190) (zB 190) (zML 190) (zRet 190) ∈ lw_tbl := List.mem_of_getElem? (i := 1602) rfl
set_option maxRecDepth 100000 in
theorem zc_191 : Cond.code (zY 191) (zB 191) (zML 191) (zRet 191) ∈ lw_tbl := List.mem_of_getElem? (i := 1607) rfl
set_option maxRecDepth 100000 in
theorem zc_192 : Cond.code (zY 192) (zB 192) (zML 192) (zRet 192) ∈ lw_tbl := List.mem_of_getElem? (i := 1622) rfl
set_option maxRecDepth 100000 in
theorem zc_193 : Cond.code (zY 193) (zB 193) (zML 193) (zRet 193) ∈ lw_tbl := List.mem_of_getElem? (i := 1613) rfl
set_option maxRecDepth 100000 in
theorem zc_194 : Cond.code (zY 194) (zB 194) (zML 194) (zRet 194) ∈ lw_tbl := List.mem_of_getElem? (i := 1626) rfl
set_option maxRecDepth 100000 in
theorem zc_195 : Cond.code (zY 195) (zB 195) (zML 195) (zRet 195) ∈ lw_tbl := List.mem_of_getElem? (i := 1580) rfl
set_option maxRecDepth 100000 in
theorem zc_196 : Cond.code (zY 196) (zB 196) (zML 196) (zRet 196) ∈ lw_tbl := List.mem_of_getElem? (i := 1547) rfl
set_option maxRecDepth 100000 in
theorem zc_197 : Cond.code (zY 197) (zB 197) (zML 197) (zRet 197) ∈ lw_tbl := List.mem_of_getElem? (i := 1525) rfl
set_option maxRecDepth 100000 in
theorem zc_198 : Cond.code (zY 198) (zB 198) (zML 198) (zRet 198) ∈ lw_tbl := List.mem_of_getElem? (i := 1647) rfl
set_option maxRecDepth 100000 in
theorem zc_199 : Cond.code (zY 199) (zB 199) (zML 199) (zRet 199) ∈ lw_tbl := List.mem_of_getElem? (i := 1652) rfl
set_option maxRecDepth 100000 in
theorem zc_200 : Cond.code (zY 200) (zB 200) (zML 200) (zRet 200) ∈ lw_tbl := List.mem_of_getElem? (i := 1643) rfl
set_option maxRecDepth 100000 in
theorem zc_201 : Cond.code (zY 201) (zB 201) (zML 201) (zRet 201) ∈ lw_tbl := List.mem_of_getElem? (i := 1656) rfl
set_option maxRecDepth 100000 in
theorem zc_202 : Cond.code (zY 202) (zB 202) (zML 202) (zRet 202) ∈ lw_tbl := List.mem_of_getElem? (i := 1664) rfl
set_option maxRecDepth 100000 in
theorem zc_203 : Cond.code (zY 203) (zB 203) (zML 203) (zRet 203) ∈ lw_tbl := List.mem_of_getElem? (i := 1631) rfl
set_option maxRecDepth 100000 in
theorem zc_204 : Cond.code (zY 204) (zB 204) (zML 204) (zRet 204) ∈ lw_tbl := List.mem_of_getElem? (i := 1660) rfl
set_option maxRecDepth 100000 in
theorem zc_205 : Cond.code (zY 205) (zB 205) (zML 205) (zRet 205) ∈ lw_tbl := List.mem_of_getElem? (i := 1705) rfl
set_option maxRecDepth 100000 in
theorem zc_206 : Cond.code (zY 206) (zB 206) (zML 206) (zRet 206) ∈ lw_tbl := List.mem_of_getElem? (i := 1693) rfl
set_option maxRecDepth 100000 in
theorem zc_207 : Cond.code (zY 207) (zB 207) (zML 207) (zRet 207) ∈ lw_tbl := List.mem_of_getElem? (i := 1697) rfl
set_option maxRecDepth 100000 in
theorem zc_208 : Cond.code (zY 208) (zB 208) (zML 208) (zRet 208) ∈ lw_tbl := List.mem_of_getElem? (i := 1701) rfl
set_option maxRecDepth 100000 in
theorem zc_209 : Cond.code (zY 209) (zB 209) (zML 209) (zRet 209) ∈ lw_tbl := List.mem_of_getElem? (i := 1689) rfl
set_option maxRecDepth 100000 in
theorem zc_210 : Cond.code (zY 210) (zB 210) (zML 210) (zRet 210) ∈ lw_tbl := List.mem_of_getElem? (i := 1685) rfl
set_option maxRecDepth 100000 in
theorem zc_211 : Cond.code (zY 211) (zB 211) (zML 211) (zRet 211) ∈ lw_tbl := List.mem_of_getElem? (i := 1668) rfl
set_option maxRecDepth 100000 in
theorem zc_212 : Cond.code (zY 212) (zB 212) (zML 212) (zRet 212) ∈ lw_tbl := List.mem_of_getElem? (i := 1681) rfl
set_option maxRecDepth 100000 in
theorem zc_213 : Cond.code (zY 213) (zB 213) (zML 213) (zRet 213) ∈ lw_tbl := List.mem_of_getElem? (i := 1709) rfl
set_option maxRecDepth 100000 in
theorem zc_214 : Cond.code (zY 214) (zB 214) (zML 214) (zRet 214) ∈ lw_tbl := List.mem_of_getElem? (i := 1717) rfl
set_option maxRecDepth 100000 in
theorem zc_215 : Cond.code (zY 215) (zB 215) (zML 215) (zRet 215) ∈ lw_tbl := List.mem_of_getElem? (i := 1744) rfl
set_option maxRecDepth 100000 in
theorem zc_216 : Cond.code (zY 216) (zB 216) (zML 216) (zRet 216) ∈ lw_tbl := List.mem_of_getElem? (i := 1740) rfl
set_option maxRecDepth 100000 in
theorem zc_217 : Cond.code (zY 217) (zB 217) (zML 217) (zRet 217) ∈ lw_tbl := List.mem_of_getElem? (i := 1748) rfl
set_option maxRecDepth 100000 in
theorem zc_218 : Cond.code (zY 218) (zB 218) (zML 218) (zRet 218) ∈ lw_tbl := List.mem_of_getElem? (i := 1752) rfl
set_option maxRecDepth 100000 in
theorem zc_219 : Cond.code (zY 219) (zB 219) (zML 219) (zRet 219) ∈ lw_tbl := List.mem_of_getElem? (i := 1736) rfl
set_option maxRecDepth 100000 in
theorem zc_220 : Cond.code (zY 220) (zB 220) (zML 220) (zRet 220) ∈ lw_tbl := List.mem_of_getElem? (i := 1732) rfl
set_option maxRecDepth 100000 in
theorem zc_221 : Cond.code (zY 221) (zB 221) (zML 221) (zRet 221) ∈ lw_tbl := List.mem_of_getElem? (i := 1725) rfl
set_option maxRecDepth 100000 in
theorem zc_222 : Cond.code (zY 222) (zB 222) (zML 222) (zRet 222) ∈ lw_tbl := List.mem_of_getElem? (i := 1721) rfl
set_option maxRecDepth 100000 in
theorem zc_223 : Cond.code (zY 223) (zB 223) (zML 223) (zRet 223) ∈ lw_tbl := List.mem_of_getElem? (i := 1756) rfl
set_option maxRecDepth 100000 in
theorem zc_224 : Cond.code (zY 224) (zB 224) (zML 224) (zRet 224) ∈ lw_tbl := List.mem_of_getElem? (i := 1760) rfl
set_option maxRecDepth 100000 in
theorem zc_225 : Cond.code (zY 225) (zB 225) (zML 225) (zRet 225) ∈ lw_tbl := List.mem_of_getElem? (i := 1764) rfl
set_option maxRecDepth 100000 in
theorem zc_226 : Cond.code (zY 226) (zB 226) (zML 226) (zRet 226) ∈ lw_tbl := List.mem_of_getElem? (i := 1780) rfl
set_option maxRecDepth 100000 in
theorem zc_227 : Cond.code (zY 227) (zB 227) (zML 227) (zRet 227) ∈ lw_tbl := List.mem_of_getElem? (i := 1776) rfl
set_option maxRecDepth 100000 in
theorem zc_228 : Cond.code (zY 228) (zB 228) (zML 228) (zRet 228) ∈ lw_tbl := List.mem_of_getElem? (i := 1768) rfl
set_option maxRecDepth 100000 in
theorem zc_229 : Cond.code (zY 229) (zB 229) (zML 229) (zRet 229) ∈ lw_tbl := List.mem_of_getElem? (i := 1784) rfl
set_option maxRecDepth 100000 in
theorem zc_230 : Cond.code (zY 230) (zB 230) (zML 230) (zRet 230) ∈ lw_tbl := List.mem_of_getElem? (i := 1788) rfl
set_option maxRecDepth 100000 in
theorem zc_231 : Cond.code (zY 231) (zB 231) (zML 231) (zRet 231) ∈ lw_tbl := List.mem_of_getElem? (i := 1792) rfl
set_option maxRecDepth 100000 in
theorem zc_232 : Cond.code (zY 232) (zB 232) (zML 232) (zRet 232) ∈ lw_tbl := List.mem_of_getElem? (i := 1797) rfl
set_option maxRecDepth 100000 in
theorem zc_233 : Cond.code (zY 233) (zB 233) (zML 233) (zRet 233) ∈ lw_tbl := List.mem_of_getElem? (i := 1809) rfl
set_option maxRecDepth 100000 in
theorem zc_234 : Cond.code (zY 234) (zB 234) (zML 234) (zRet 234) ∈ lw_tbl := List.mem_of_getElem? (i := 1817) rfl
set_option maxRecDepth 100000 in
theorem zc_235 : Cond.code (zY 235) (zB 235) (zML 235) (zRet 235) ∈ lw_tbl := List.mem_of_getElem? (i := 1813) rfl
set_option maxRecDepth 100000 in
theorem zc_236 : Cond.code (zY 236) (zB 236) (zML 236) (zRet 236) ∈ lw_tbl := List.mem_of_getElem? (i := 1805) rfl
set_option maxRecDepth 100000 in
theorem zc_237 : Cond.code (zY 237) (zB 237) (zML 237) (zRet 237) ∈ lw_tbl := List.mem_of_getElem? (i := 1821) rfl
set_option maxRecDepth 100000 in
theorem zc_238 : Cond.code (zY 238) (zB 238) (zML 238) (zRet 238) ∈ lw_tbl := List.mem_of_getElem? (i := 1829) rfl
set_option maxRecDepth 100000 in
theorem zc_239 : Cond.code (zY 239) (zB 239) (zML 239) (zRet 239) ∈ lw_tbl := List.mem_of_getElem? (i := 1825) rfl
set_option maxRecDepth 100000 in
theorem zc_240 : Cond.code (zY 240) (zB 240) (zML 240) (zRet 240) ∈ lw_tbl := List.mem_of_getElem? (i := 1833) rfl
set_option maxRecDepth 100000 in
theorem zc_241 : Cond.code (zY 241) (zB 241) (zML 241) (zRet 241) ∈ lw_tbl := List.mem_of_getElem? (i := 1846) rfl
set_option maxRecDepth 100000 in
theorem zc_242 : Cond.code (zY 242) (zB 242) (zML 242) (zRet 242) ∈ lw_tbl := List.mem_of_getElem? (i := 1837) rfl
set_option maxRecDepth 100000 in
theorem zc_243 : Cond.code (zY 243) (zB 243) (zML 243) (zRet 243) ∈ lw_tbl := List.mem_of_getElem? (i := 1850) rfl
set_option maxRecDepth 100000 in
theorem zc_244 : Cond.code (zY 244) (zB 244) (zML 244) (zRet 244) ∈ lw_tbl := List.mem_of_getElem? (i := 1858) rfl
set_option maxRecDepth 100000 in
theorem zc_245 : Cond.code (zY 245) (zB 245) (zML 245) (zRet 245) ∈ lw_tbl := List.mem_of_getElem? (i := 1854) rfl
set_option maxRecDepth 100000 in
theorem zc_246 : Cond.code (zY 246) (zB 246) (zML 246) (zRet 246) ∈ lw_tbl := List.mem_of_getElem? (i := 1870) rfl
set_option maxRecDepth 100000 in
theorem zc_247 : Cond.code (zY 247) (zB 247) (zML 247) (zRet 247) ∈ lw_tbl := List.mem_of_getElem? (i := 1866) rfl
set_option maxRecDepth 100000 in
theorem zc_248 : Cond.code (zY 248) (zB 248) (zML 248) (zRet 248) ∈ lw_tbl := List.mem_of_getElem? (i := 1862) rfl
set_option maxRecDepth 100000 in
theorem zc_249 : Cond.code (zY 249) (zB 249) (zML 249) (zRet 249) ∈ lw_tbl := List.mem_of_getElem? (i := 1883) rfl
set_option maxRecDepth 100000 in
theorem zc_250 : Cond.code (zY 250) (zB 250) (zML 250) (zRet 250) ∈ lw_tbl := List.mem_of_getElem? (i := 1879) rfl
set_option maxRecDepth 100000 in
theorem zc_251 : Cond.code (zY 251) (zB 251) (zML 251) (zRet 251) ∈ lw_tbl := List.mem_of_getElem? (i := 1887) rfl
set_option maxRecDepth 100000 in
theorem zc_252 : Cond.code (zY 252) (zB 252) (zML 252) (zRet 252) ∈ lw_tbl := List.mem_of_getElem? (i := 1874) rfl
set_option maxRecDepth 100000 in
theorem zc_253 : Cond.code (zY 253) (zB 253) (zML 253) (zRet 253) ∈ lw_tbl := List.mem_of_getElem? (i := 1891) rfl
set_option maxRecDepth 100000 in
theorem zc_254 : Cond.code (zY 254) (zB 254) (zML 254) (zRet 254) ∈ lw_tbl := List.mem_of_getElem? (i := 1899) rfl
set_option maxRecDepth 100000 in
theorem zc_255 : Cond.code (zY 255) (zB 255) (zML 255) (zRet 255) ∈ lw_tbl := List.mem_of_getElem? (i := 1895) rfl
set_option maxRecDepth 100000 in
theorem zc_256 : Cond.code (zY 256) (zB 256) (zML 256) (zRet 256) ∈ lw_tbl := List.mem_of_getElem? (i := 1903) rfl
set_option maxRecDepth 100000 in
theorem zc_257 : Cond.code (zY 257) (zB 257) (zML 257) (zRet 257) ∈ lw_tbl := List.mem_of_getElem? (i := 1915) rfl
set_option maxRecDepth 100000 in
theorem zc_258 : Cond.code (zY 258) (zB 258) (zML 258) (zRet 258) ∈ lw_tbl := List.mem_of_getElem? (i := 1919) rfl
set_option maxRecDepth 100000 in
theorem zc_259 : Cond.code (zY 259) (zB 259) (zML 259) (zRet 259) ∈ lw_tbl := List.mem_of_getElem? (i := 1907) rfl
set_option maxRecDepth 100000 in
theorem zc_260 : Cond.code (zY 260) (zB 260) (zML 260) (zRet 260) ∈ lw_tbl := List.mem_of_getElem? (i := 1927) rfl
set_option maxRecDepth 100000 in
theorem zc_261 : Cond.code (zY 261) (zB 261) (zML 261) (zRet 261) ∈ lw_tbl := List.mem_of_getElem? (i := 1935) rfl
set_option maxRecDepth 100000 in
theorem zc_262 : Cond.code (zY 262) (zB 262) (zML 262) (zRet 262) ∈ lw_tbl := List.mem_of_getElem? (i := 1931) rfl
set_option maxRecDepth 100000 in
theorem zc_263 : Cond.code (zY 263) (zB 263) (zML 263) (zRet 263) ∈ lw_tbl := List.mem_of_getElem? (i := 1923) rfl
set_option maxRecDepth 100000 in
theorem zc_264 : Cond.code (zY 264) (zB 264) (zML 264) (zRet 264) ∈ lw_tbl := List.mem_of_getElem? (i := 1939) rfl
set_option maxRecDepth 100000 in
theorem zc_265 : Cond.code (zY 265) (zB 265) (zML 265) (zRet 265) ∈ lw_tbl := List.mem_of_getElem? (i := 1943) rfl
set_option maxRecDepth 100000 in
theorem zc_266 : Cond.code (zY 266) (zB 266) (zML 266) (zRet 266) ∈ lw_tbl := List.mem_of_getElem? (i := 1951) rfl
set_option maxRecDepth 100000 in
theorem zc_267 : Cond.code (zY 267) (zB 267) (zML 267) (zRet 267) ∈ lw_tbl := List.mem_of_getElem? (i := 1947) rfl
set_option maxRecDepth 100000 in
theorem zc_268 : Cond.code (zY 268) (zB 268) (zML 268) (zRet 268) ∈ lw_tbl := List.mem_of_getElem? (i := 1968) rfl
set_option maxRecDepth 100000 in
theorem zc_269 : Cond.code (zY 269) (zB 269) (zML 269) (zRet 269) ∈ lw_tbl := List.mem_of_getElem? (i := 1964) rfl
set_option maxRecDepth 100000 in
theorem zc_270 : Cond.code (zY 270) (zB 270) (zML 270) (zRet 270) ∈ lw_tbl := List.mem_of_getElem? (i := 1958) rfl
set_option maxRecDepth 100000 in
theorem zc_271 : Cond.code (zY 271) (zB 271) (zML 271) (zRet 271) ∈ lw_tbl := List.mem_of_getElem? (i := 1955) rfl
set_option maxRecDepth 100000 in
theorem zc_272 : Cond.code (zY 272) (zB 272) (zML 272) (zRet 272) ∈ lw_tbl := List.mem_of_getElem? (i := 1976) rfl
set_option maxRecDepth 100000 in
theorem zc_273 : Cond.code (zY 273) (zB 273) (zML 273) (zRet 273) ∈ lw_tbl := List.mem_of_getElem? (i := 1981) rfl
set_option maxRecDepth 100000 in
theorem zc_274 : Cond.code (zY 274) (zB 274) (zML 274) (zRet 274) ∈ lw_tbl := List.mem_of_getElem? (i := 1910) rfl
set_option maxRecDepth 100000 in
theorem zc_275 : Cond.code (zY 275) (zB 275) (zML 275) (zRet 275) ∈ lw_tbl := List.mem_of_getElem? (i := 1992) rfl
set_option maxRecDepth 100000 in
theorem zc_276 : Cond.code (zY 276) (zB 276) (zML 276) (zRet 276) ∈ lw_tbl := List.mem_of_getElem? (i := 1985) rfl
set_option maxRecDepth 100000 in
theorem zc_277 : Cond.code (zY 277) (zB 277) (zML 277) (zRet 277) ∈ lw_tbl := List.mem_of_getElem? (i := 1989) rfl
set_option maxRecDepth 100000 in
theorem zc_278 : Cond.code (zY 278) (zB 278) (zML 278) (zRet 278) ∈ lw_tbl := List.mem_of_getElem? (i := 1996) rfl
set_option maxRecDepth 100000 in
theorem zc_279 : Cond.code (zY 279) (zB 279) (zML 279) (zRet 279) ∈ lw_tbl := List.mem_of_getElem? (i := 886) rfl
set_option maxRecDepth 100000 in
theorem zc_280 : Cond.code (zY 280) (zB 280) (zML 280) (zRet 280) ∈ lw_tbl := List.mem_of_getElem? (i := 610) rfl
set_option maxRecDepth 100000 in
theorem zc_281 : Cond.code (zY 281) (zB 281) (zML 281) (zRet 281) ∈ lw_tbl := List.mem_of_getElem? (i := 1348) rfl
