/-! classes whose objects stand in the world; the shapes of all cells, in the order in which they are made -/
def m_R0 : String := "TransactionCells$Codes"
def m_T0 : u_T := fun k => match k with
  | 0 => ("TransactionCells$Codes", "acts", "[I", true)
  | _ => ("TransactionCells$Codes", "sizes", "[I", true)
def m_ty0 : Nat → FieldType := fun k => match k with
  | 0 => .array .int
  | _ => .array .int
def m_R1 : String := "TransactionCells$Dealings"
def m_T1 : u_T := fun k => match k with
  | 0 => ("TransactionCells$Dealings", "house", "LTransactionCells$House;", true)
  | 1 => ("TransactionCells$Dealings", "now", "[I", true)
  | 2 => ("TransactionCells$Dealings", "foundSort", "I", false)
  | _ => ("TransactionCells$Dealings", "foundWhat", "I", false)
def m_ty1 : Nat → FieldType := fun k => match k with
  | 0 => .object "TransactionCells$House"
  | 1 => .array .int
  | 2 => .int
  | _ => .int
def m_R2 : String := "TransactionCells$Explorer"
def m_T2 : u_T := fun k => match k with
  | 0 => ("TransactionCells$Explorer", "house", "LTransactionCells$House;", true)
  | 1 => ("TransactionCells$Explorer", "steps", "LTransactionCells$Steps;", true)
  | 2 => ("TransactionCells$Explorer", "now", "[I", true)
  | 3 => ("TransactionCells$Explorer", "before", "[I", true)
  | 4 => ("TransactionCells$Explorer", "met", "[I", true)
  | 5 => ("TransactionCells$Explorer", "hashes", "[I", true)
  | 6 => ("TransactionCells$Explorer", "isStill", "[Z", true)
  | 7 => ("TransactionCells$Explorer", "table", "[I", true)
  | 8 => ("TransactionCells$Explorer", "many", "I", false)
  | 9 => ("TransactionCells$Explorer", "ends", "[I", true)
  | _ => ("TransactionCells$Explorer", "endsMany", "I", false)
def m_ty2 : Nat → FieldType := fun k => match k with
  | 0 => .object "TransactionCells$House"
  | 1 => .object "TransactionCells$Steps"
  | 2 => .array .int
  | 3 => .array .int
  | 4 => .array .int
  | 5 => .array .int
  | 6 => .array .boolean
  | 7 => .array .int
  | 8 => .int
  | 9 => .array .int
  | _ => .int
def m_R3 : String := "TransactionCells$House"
def m_T3 : u_T := fun k => match k with
  | 0 => ("TransactionCells$House", "now", "[I", true)
  | 1 => ("TransactionCells$House", "codes", "LTransactionCells$Codes;", true)
  | 2 => ("TransactionCells$House", "rows", "LTransactionCells$Rows;", true)
  | _ => ("TransactionCells$House", "notes", "LTransactionCells$Notes;", true)
def m_ty3 : Nat → FieldType := fun k => match k with
  | 0 => .array .int
  | 1 => .object "TransactionCells$Codes"
  | 2 => .object "TransactionCells$Rows"
  | _ => .object "TransactionCells$Notes"
def m_R4 : String := "TransactionCells$Notes"
def m_T4 : u_T := fun k => match k with
  | 0 => ("TransactionCells$Notes", "notes", "[I", true)
  | 1 => ("TransactionCells$Notes", "cells", "[I", true)
  | 2 => ("TransactionCells$Notes", "counted", "I", false)
  | _ => ("TransactionCells$Notes", "isClosed", "Z", false)
def m_ty4 : Nat → FieldType := fun k => match k with
  | 0 => .array .int
  | 1 => .array .int
  | 2 => .int
  | _ => .boolean
def m_R5 : String := "TransactionCells$Rows"
def m_T5 : u_T := fun k => match k with
  | 0 => ("TransactionCells$Rows", "lanes", "[I", true)
  | 1 => ("TransactionCells$Rows", "sizes", "[I", true)
  | _ => ("TransactionCells$Rows", "items", "[J", true)
def m_ty5 : Nat → FieldType := fun k => match k with
  | 0 => .array .int
  | 1 => .array .int
  | _ => .array .long
def m_R6 : String := "TransactionCells$Steps"
def m_T6 : u_T := fun k => match k with
  | 0 => ("TransactionCells$Steps", "house", "LTransactionCells$House;", true)
  | 1 => ("TransactionCells$Steps", "now", "[I", true)
  | _ => ("TransactionCells$Steps", "dealings", "LTransactionCells$Dealings;", true)
def m_ty6 : Nat → FieldType := fun k => match k with
  | 0 => .object "TransactionCells$House"
  | 1 => .array .int
  | _ => .object "TransactionCells$Dealings"
def m_R7 : String := "TransactionCells"
def m_T7 : u_T := fun k => match k with
  | 0 => ("TransactionCells", "house", "LTransactionCells$House;", true)
  | 1 => ("TransactionCells", "kept", "LTransactionCells$House;", true)
  | 2 => ("TransactionCells", "steps", "LTransactionCells$Steps;", true)
  | 3 => ("TransactionCells", "isKept", "Z", false)
  | 4 => ("TransactionCells", "explorer", "LTransactionCells$Explorer;", false)
  | _ => ("TransactionCells", "housesLeft", "I", false)
def m_ty7 : Nat → FieldType := fun k => match k with
  | 0 => .object "TransactionCells$House"
  | 1 => .object "TransactionCells$House"
  | 2 => .object "TransactionCells$Steps"
  | 3 => .boolean
  | 4 => .object "TransactionCells$Explorer"
  | _ => .int
def m_R8 : String := "TransactionCellsModel"
def m_T8 : u_T := fun k => match k with
  | 0 => ("TransactionCellsModel", "st", "[I", false)
  | 1 => ("TransactionCellsModel", "way", "I", false)
  | 2 => ("TransactionCellsModel", "begun", "I", false)
  | 3 => ("TransactionCellsModel", "anewEver", "I", false)
  | 4 => ("TransactionCellsModel", "counted", "I", false)
  | 5 => ("TransactionCellsModel", "exploring", "Z", false)
  | 6 => ("TransactionCellsModel", "codeSize", "[I", true)
  | 7 => ("TransactionCellsModel", "actKind", "[I", true)
  | 8 => ("TransactionCellsModel", "actA", "[I", true)
  | 9 => ("TransactionCellsModel", "actB", "[I", true)
  | 10 => ("TransactionCellsModel", "actC", "[I", true)
  | 11 => ("TransactionCellsModel", "hasRow", "[Z", true)
  | 12 => ("TransactionCellsModel", "rowLane", "[I", true)
  | 13 => ("TransactionCellsModel", "rowSize", "[I", true)
  | 14 => ("TransactionCellsModel", "items", "[J", true)
  | 15 => ("TransactionCellsModel", "firstSort", "[I", true)
  | 16 => ("TransactionCellsModel", "firstWhat", "[I", true)
  | 17 => ("TransactionCellsModel", "noted", "I", false)
  | 18 => ("TransactionCellsModel", "oThread", "[I", true)
  | 19 => ("TransactionCellsModel", "oKind", "[I", true)
  | 20 => ("TransactionCellsModel", "oClock", "[I", true)
  | 21 => ("TransactionCellsModel", "oRow", "[I", true)
  | 22 => ("TransactionCellsModel", "vSort", "I", false)
  | 23 => ("TransactionCellsModel", "vWhat", "I", false)
  | 24 => ("TransactionCellsModel", "single", "[I", true)
  | 25 => ("TransactionCellsModel", "budget", "I", false)
  | 26 => ("TransactionCellsModel", "houses", "[I", true)
  | 27 => ("TransactionCellsModel", "houseMany", "I", false)
  | 28 => ("TransactionCellsModel", "hasEnds", "Z", false)
  | 29 => ("TransactionCellsModel", "endMany", "I", false)
  | 30 => ("TransactionCellsModel", "ends", "[I", true)
  | 31 => ("TransactionCellsModel", "foundEnds", "[I", true)
  | 32 => ("TransactionCellsModel", "endsFound", "I", false)
  | 33 => ("TransactionCellsModel", "spare", "[I", false)
  | 34 => ("TransactionCellsModel", "aged", "[I", true)
  | 35 => ("TransactionCellsModel", "nowSort", "[I", true)
  | 36 => ("TransactionCellsModel", "nowWhat", "[I", true)
  | 37 => ("TransactionCellsModel", "isKept", "Z", false)
  | 38 => ("TransactionCellsModel", "numbers", "[I", true)
  | 39 => ("TransactionCellsModel", "keptInts", "[I", true)
  | 40 => ("TransactionCellsModel", "keptItems", "[J", true)
  | _ => ("TransactionCellsModel", "place", "I", false)
def m_ty8 : Nat → FieldType := fun k => match k with
  | 0 => .array .int
  | 1 => .int
  | 2 => .int
  | 3 => .int
  | 4 => .int
  | 5 => .boolean
  | 6 => .array .int
  | 7 => .array .int
  | 8 => .array .int
  | 9 => .array .int
  | 10 => .array .int
  | 11 => .array .boolean
  | 12 => .array .int
  | 13 => .array .int
  | 14 => .array .long
  | 15 => .array .int
  | 16 => .array .int
  | 17 => .int
  | 18 => .array .int
  | 19 => .array .int
  | 20 => .array .int
  | 21 => .array .int
  | 22 => .int
  | 23 => .int
  | 24 => .array .int
  | 25 => .int
  | 26 => .array .int
  | 27 => .int
  | 28 => .boolean
  | 29 => .int
  | 30 => .array .int
  | 31 => .array .int
  | 32 => .int
  | 33 => .array .int
  | 34 => .array .int
  | 35 => .array .int
  | 36 => .array .int
  | 37 => .boolean
  | 38 => .array .int
  | 39 => .array .int
  | 40 => .array .long
  | _ => .int
def m_cl : List vw_C := [(m_R0, m_T0, 2), (m_R1, m_T1, 4), (m_R2, m_T2, 11), (m_R3, m_T3, 4), (m_R4, m_T4, 4), (m_R5, m_T5, 3), (m_R6, m_T6, 3), (m_R7, m_T7, 6), (m_R8, m_T8, 42)]
def m_tys : List (Nat → FieldType) := [m_ty0, m_ty1, m_ty2, m_ty3, m_ty4, m_ty5, m_ty6, m_ty7, m_ty8]
/-- what kind a field is: 0 int, 1 boolean, 2 a reference -/
def m_fk : List (List Nat) := [[2, 2], [2, 2, 0, 0], [2, 2, 2, 2, 2, 2, 2, 2, 0, 2, 0], [2, 2, 2, 2], [2, 2, 0, 1], [2, 2, 2], [2, 2, 2], [2, 2, 2, 1, 2, 0], [2, 0, 0, 0, 0, 1, 2, 2, 2, 2, 2, 2, 2, 2, 2, 2, 2, 0, 2, 2, 2, 2, 0, 0, 2, 0, 2, 0, 1, 0, 2, 2, 0, 2, 2, 2, 2, 1, 2, 2, 2, 0]]
/-- a field that only a constructor writes -/
def m_ff : List (List Bool) := [[true, true], [true, true, false, false], [true, true, true, true, true, true, true, true, false, true, false], [true, true, true, true], [true, true, false, false], [true, true, true], [true, true, true], [true, true, true, false, false, false], [false, false, false, false, false, false, true, true, true, true, true, true, true, true, true, true, true, false, true, true, true, true, false, false, true, false, true, false, false, false, true, true, false, false, true, true, true, false, true, true, true, false]]
/-- the cells: kind (1 object, 2 ints, 3 booleans, 4 longs), then class or length -/
def m_sh : List (Nat × Nat) := [(1, 7), (1, 3), (2, 581), (1, 0), (2, 960), (2, 6), (1, 5), (2, 6), (2, 6), (4, 96), (1, 4), (2, 2100), (2, 16), (1, 3), (2, 581), (1, 0), (2, 960), (2, 6), (1, 5), (2, 6), (2, 6), (4, 96), (1, 4), (2, 2100), (2, 16), (1, 6), (1, 1), (1, 8), (2, 612), (2, 6), (2, 240), (2, 240), (2, 240), (2, 240), (3, 6), (2, 6), (2, 6), (4, 96), (2, 8), (2, 8), (2, 60), (2, 60), (2, 60), (2, 1920), (2, 32), (2, 246000), (2, 7700), (2, 7700), (2, 612), (2, 3), (2, 8), (2, 8), (2, 6), (2, 4000), (4, 96), (1, 2), (2, 581), (2, 232400), (2, 400), (3, 400), (2, 1024), (2, 7600)]
/-- the names of the classes that own methods: the first ones as in m_cl -/
def m_cn : List String := ["TransactionCells$Codes", "TransactionCells$Dealings", "TransactionCells$Explorer", "TransactionCells$House", "TransactionCells$Notes", "TransactionCells$Rows", "TransactionCells$Steps", "TransactionCells", "TransactionCellsModel", "TransactionCellsLaw", "java/lang/Math", "java/util/Arrays"]
