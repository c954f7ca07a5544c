/-! PART 02.a: the state of the whole system, as numbers; what the heap holds for it; the walk's judgement over it -/
/-- the launch, the tables' places, the arrays' classes, the addresses (of the i-th of group g), what may be written -/
abbrev wD : Type := Launch × va_G × (Nat → ClassId) × (Nat → Nat → Nat) × (Nat → Prop)
/-- a method's frame: everything that stays the same while it runs; the last two: the cells and slots that are counted -/
abbrev wX : Type := Program × Env × Room × State × MethodId × Array Value × List Frame × Method × Code × Nat × Nat
/-- the numbers: of group g, number i, slot k; the longs -/
abbrev wSt : Type := (Nat → Nat → Nat → Int32) × (Nat → Int64)
/-- how many there are of each group. 0 the room, 1 the plate, 2 the copies, 3 leaves[], 4 moulds[], 5 books[], 6 plate.lines, 7 plate.years[], 8 plate.read, 9 plate.toCome, 10 its rows, 11 a state's years, 12 copies.years, 13 copies.errors, 14 a leaf, 15 its holes, 16 their places, 17 a mould, 18 a book, 19 its places, 20 the model, 21 .. 37 its arrays -/
def wN (g : Nat) : Nat := match g with
  | 10 => 64
  | 11 => 6
  | 14 => 20
  | 15 => 20
  | 16 => 20
  | 17 => 8
  | 18 => 4
  | 19 => 4
  | g => if g < 38 then 1 else 0
/-- the lengths of the int arrays -/
def wLen (g : Nat) : Nat := match g with
  | 12 => 8
  | 13 => 8
  | 24 => 5
  | 25 => 20
  | 26 => 20
  | 27 => 20
  | 28 => 20
  | 29 => 20
  | 30 => 20
  | 31 => 8
  | 32 => 8
  | 33 => 8
  | 34 => 8
  | 35 => 24
  | 36 => 144
  | _ => 6
def wCt (cy : Nat → ClassId) (E : Nat → Nat → Nat) (s : wSt) (g i : Nat) : va_E := match g with
  | 0 => .inr (5, [.ref (E 1 0), .ref (E 2 0), .ref (E 3 0), .int (s.1 0 i 3), .ref (E 4 0), .int (s.1 0 i 5), .ref (E 5 0), .long (s.2 0)])
  | 1 => .inr (3, [.int (s.1 1 i 0), .int (s.1 1 i 1), .int (s.1 1 i 2), .ref (E 6 0), .ref (E 7 0), .int (s.1 1 i 5), .ref (E 8 0), .ref (E 9 0)])
  | 2 => .inr (0, [.int (s.1 2 i 0), .int (s.1 2 i 1), .ref (E 12 0), .ref (E 13 0), .int (s.1 2 i 4)])
  | 3 => .inl (cy 1, 20, .inr (.inr (.inr (.inr (fun j => some (E 14 j))))))
  | 4 => .inl (cy 2, 8, .inr (.inr (.inr (.inr (fun j => some (E 17 j))))))
  | 5 => .inl (cy 3, 4, .inr (.inr (.inr (.inr (fun j => some (E 18 j))))))
  | 7 => .inl (cy 2, 6, .inr (.inr (.inr (.inr (fun j => some (E 11 j))))))
  | 9 => .inl (cy 4, 64, .inr (.inr (.inr (.inr (fun j => some (E 10 j))))))
  | 11 => .inr (4, [.int (s.1 11 i 0), .int (s.1 11 i 1)])
  | 14 => .inr (2, [.int (s.1 14 i 0), .int (s.1 14 i 1), .int (s.1 14 i 2), .int (s.1 14 i 3), .int (s.1 14 i 4), .int (s.1 14 i 5), .ref (E 15 i)])
  | 15 => .inr (1, [.ref (E 16 i), .int (s.1 15 i 1)])
  | 17 => .inr (4, [.int (s.1 17 i 0), .int (s.1 17 i 1)])
  | 18 => .inr (1, [.ref (E 19 i), .int (s.1 18 i 1)])
  | 20 => .inr (6, [.int (s.1 20 i 0), .long (s.2 1), .int (s.1 20 i 2), .ref (E 21 0), .ref (E 22 0), .ref (E 23 0), .ref (E 24 0), .int (s.1 20 i 7), .ref (E 25 0), .ref (E 26 0), .ref (E 27 0), .ref (E 28 0), .ref (E 29 0), .ref (E 30 0), .int (s.1 20 i 14), .ref (E 31 0), .ref (E 32 0), .int (s.1 20 i 17), .ref (E 33 0), .ref (E 34 0), .ref (E 35 0), .ref (E 36 0), .ref (E 37 0)])
  | g => .inl (cy 0, wLen g, .inl (s.1 g i))
/-- the heap holds the numbers -/
def wInv (w : wD) (s : wSt) (H : Heap) : Prop := ∀ g i : Nat, i < wN g → va_at w.2.1 vwCl (w.2.2.2.1 g i, wCt w.2.2.1 w.2.2.2.1 s g i) H
/-- the addresses are apart, and may be written -/
def wOK (w : wD) : Prop := (∀ g i g' i' : Nat, i < wN g → i' < wN g' → w.2.2.2.1 g i = w.2.2.2.1 g' i' → g = g' ∧ i = i') ∧ ∀ g i : Nat, i < wN g → w.2.2.2.2 (w.2.2.2.1 g i)
def wTys (w : wD) : List (ClassId × FieldType) := [(w.2.2.1 0, .int), (w.2.2.1 1, .object RX2), (w.2.2.1 2, .object RX4), (w.2.2.1 3, .object RX1), (w.2.2.1 4, .array .int)]
/-- the links between nest mates -/
def wNF : List (String × Nat × String × String × String × String) := [(RX5, 77, "PlateRoom$Years", "first", "I", "PlateRoom"), (RX5, 80, "PlateRoom$Years", "last", "I", "PlateRoom"), (RX5, 229, "PlateRoom$Plate", "cut", "I", "PlateRoom"), (RX5, 232, "PlateRoom$Plate", "rub", "I", "PlateRoom"), (RX5, 235, "PlateRoom$Plate", "again", "I", "PlateRoom"), (RX5, 70, "PlateRoom$Plate", "lines", "[I", "PlateRoom"), (RX5, 74, "PlateRoom$Plate", "years", "[LPlateRoom$Years;", "PlateRoom"), (RX5, 100, "PlateRoom$Plate", "stateCount", "I", "PlateRoom"), (RX5, 238, "PlateRoom$Copies", "loss", "I", "PlateRoom"), (RX5, 241, "PlateRoom$Copies", "alone", "I", "PlateRoom"), (RX5, 187, "PlateRoom$Copies", "errors", "[I", "PlateRoom"), (RX5, 223, "PlateRoom$Copies", "mapCount", "I", "PlateRoom"), (RX5, 268, "PlateRoom$Holes", "placeCount", "I", "PlateRoom"), (RX5, 244, "PlateRoom$Leaf", "there", "I", "PlateRoom"), (RX5, 247, "PlateRoom$Leaf", "gone", "I", "PlateRoom"), (RX5, 258, "PlateRoom$Leaf", "worth", "I", "PlateRoom"), (RX5, 263, "PlateRoom$Leaf", "colour", "I", "PlateRoom"), (RX5, 133, "PlateRoom$Leaf", "mould", "I", "PlateRoom"), (RX5, 139, "PlateRoom$Leaf", "imprint", "I", "PlateRoom"), (RX5, 196, "PlateRoom$Leaf", "holes", "LPlateRoom$Holes;", "PlateRoom")]
def wNM : List (String × Nat × MethodName × String) := [(RX5, 9, yX3_init, "PlateRoom"), (RX3, 42, yX4_init, "PlateRoom"), (RX5, 18, yX0_init, "PlateRoom"), (RX5, 52, yX2_init, "PlateRoom"), (RX2, 32, yX1_init, "PlateRoom"), (RX5, 53, yX4_init, "PlateRoom"), (RX5, 54, yX1_init, "PlateRoom"), (RX5, 63, yX3_addState, "PlateRoom"), (RX3, 43, yX4_put, "PlateRoom"), (RX5, 67, yX3_hasState, "PlateRoom"), (RX5, 94, yX3_quarrelOf, "PlateRoom"), (RX3, 58, yX5_has, "PlateRoom"), (RX5, 103, yX3_bestOrder, "PlateRoom"), (RX5, 107, yX2_strike, "PlateRoom"), (RX5, 117, yX2_lookOf, "PlateRoom"), (RX2, 37, yX5_has, "PlateRoom"), (RX5, 120, yX2_look, "PlateRoom"), (RX5, 250, yX3_statesWith, "PlateRoom"), (RX5, 127, yX4_put, "PlateRoom"), (RX5, 169, yX0_addMap, "PlateRoom"), (RX5, 172, yX0_mayComeFrom, "PlateRoom"), (RX5, 175, yX0_costOf, "PlateRoom"), (RX5, 178, yX0_hasMap, "PlateRoom"), (RX5, 181, yX0_cheapest, "PlateRoom"), (RX5, 184, yX0_rivalCount, "PlateRoom"), (RX5, 190, yX0_lifeOf, "PlateRoom"), (RX0, 53, yX5_has, "PlateRoom"), (RX5, 193, yX1_isPlace, "PlateRoom"), (RX5, 200, yX1_bore, "PlateRoom"), (RX5, 206, yX1_isShift, "PlateRoom"), (RX5, 209, yX1_fitting, "PlateRoom"), (RX5, 213, yX1_bestShift, "PlateRoom"), (RX5, 271, yX1_mostFitting, "PlateRoom")]
