def R_CG : String := "ChanceGame"
def F_CG : u_T := fun k => match k with
  | 0 => ("ChanceGame", "reader", "LChanceGame$Reader;", true)
  | 1 => ("ChanceGame", "text", "LChanceGame$Text;", true)
  | 2 => ("ChanceGame", "values", "LChanceGame$Values;", true)
  | 3 => ("ChanceGame", "found", "LChanceGame$Found;", true)
  | 4 => ("ChanceGame", "goodChoices", "LChanceGame$GoodChoices;", true)
  | 5 => ("ChanceGame", "hasGame", "Z", false)
  | _ => ("ChanceGame", "hasValues", "Z", false)
def t_CG : Nat → FieldType := fun k => match k with
  | 0 => .object "ChanceGame$Reader"
  | 1 => .object "ChanceGame$Text"
  | 2 => .object "ChanceGame$Values"
  | 3 => .object "ChanceGame$Found"
  | 4 => .object "ChanceGame$GoodChoices"
  | 5 => .boolean
  | _ => .boolean
def R_Rd : String := "ChanceGame$Reader"
def F_Rd : u_T := fun k => match k with
  | 0 => ("ChanceGame$Reader", "text", "LChanceGame$Text;", true)
  | 1 => ("ChanceGame$Reader", "game", "LChanceGame$Game;", false)
  | 2 => ("ChanceGame$Reader", "at", "I", false)
  | _ => ("ChanceGame$Reader", "wrongPlace", "I", false)
def t_Rd : Nat → FieldType := fun k => match k with
  | 0 => .object "ChanceGame$Text"
  | 1 => .object "ChanceGame$Game"
  | 2 => .int
  | _ => .int
def R_Tx : String := "ChanceGame$Text"
def F_Tx : u_T := fun k => match k with
  | 0 => ("ChanceGame$Text", "characters", "[C", true)
  | _ => ("ChanceGame$Text", "length", "I", false)
def t_Tx : Nat → FieldType := fun k => match k with
  | 0 => .array .char
  | _ => .int
def R_Gm : String := "ChanceGame$Game"
def F_Gm : u_T := fun k => match k with
  | 0 => ("ChanceGame$Game", "most", "[I", true)
  | 1 => ("ChanceGame$Game", "first", "[I", true)
  | 2 => ("ChanceGame$Game", "commands", "[LChanceGame$Command;", true)
  | 3 => ("ChanceGame$Game", "target", "LChanceGame$Guard;", true)
  | _ => ("ChanceGame$Game", "count", "I", false)
def t_Gm : Nat → FieldType := fun k => match k with
  | 0 => .array .int
  | 1 => .array .int
  | 2 => .array (.object "ChanceGame$Command")
  | 3 => .object "ChanceGame$Guard"
  | _ => .int
def R_Cm : String := "ChanceGame$Command"
def F_Cm : u_T := fun k => match k with
  | 0 => ("ChanceGame$Command", "guard", "LChanceGame$Guard;", true)
  | 1 => ("ChanceGame$Command", "branches", "[LChanceGame$Branch;", true)
  | 2 => ("ChanceGame$Command", "isOfMax", "Z", false)
  | 3 => ("ChanceGame$Command", "count", "I", false)
  | _ => ("ChanceGame$Command", "weight", "I", false)
def t_Cm : Nat → FieldType := fun k => match k with
  | 0 => .object "ChanceGame$Guard"
  | 1 => .array (.object "ChanceGame$Branch")
  | 2 => .boolean
  | 3 => .int
  | _ => .int
def R_Gu : String := "ChanceGame$Guard"
def F_Gu : u_T := fun k => match k with
  | 0 => ("ChanceGame$Guard", "sums", "[I", true)
  | 1 => ("ChanceGame$Guard", "signs", "[C", true)
  | _ => ("ChanceGame$Guard", "count", "I", false)
def t_Gu : Nat → FieldType := fun k => match k with
  | 0 => .array .int
  | 1 => .array .char
  | _ => .int
def R_Br : String := "ChanceGame$Branch"
def F_Br : u_T := fun k => match k with
  | 0 => ("ChanceGame$Branch", "sums", "[I", true)
  | _ => ("ChanceGame$Branch", "weight", "I", false)
def t_Br : Nat → FieldType := fun k => match k with
  | 0 => .array .int
  | _ => .int
def R_Va : String := "ChanceGame$Values"
def F_Va : u_T := fun k => match k with
  | 0 => ("ChanceGame$Values", "found", "LChanceGame$Found;", true)
  | 1 => ("ChanceGame$Values", "attraction", "LChanceGame$Attraction;", true)
  | 2 => ("ChanceGame$Values", "equations", "LChanceGame$Equations;", true)
  | 3 => ("ChanceGame$Values", "chosen", "[I", true)
  | 4 => ("ChanceGame$Values", "positive", "I", false)
  | 5 => ("ChanceGame$Values", "upper", "[J", true)
  | _ => ("ChanceGame$Values", "lower", "[J", true)
def t_Va : Nat → FieldType := fun k => match k with
  | 0 => .object "ChanceGame$Found"
  | 1 => .object "ChanceGame$Attraction"
  | 2 => .object "ChanceGame$Equations"
  | 3 => .array .int
  | 4 => .int
  | 5 => .array .long
  | _ => .array .long
def R_Fo : String := "ChanceGame$Found"
def F_Fo : u_T := fun k => match k with
  | 0 => ("ChanceGame$Found", "game", "LChanceGame$Game;", false)
  | 1 => ("ChanceGame$Found", "count", "I", false)
  | 2 => ("ChanceGame$Found", "mixedState", "I", false)
  | 3 => ("ChanceGame$Found", "targets", "I", false)
  | 4 => ("ChanceGame$Found", "looked", "I", false)
  | 5 => ("ChanceGame$Found", "ofMax", "I", false)
  | 6 => ("ChanceGame$Found", "values", "[[I", true)
  | 7 => ("ChanceGame$Found", "enabled", "[I", true)
  | 8 => ("ChanceGame$Found", "nextStates", "[[I", true)
  | 9 => ("ChanceGame$Found", "nexts", "[[I", true)
  | _ => ("ChanceGame$Found", "coming", "[I", true)
def t_Fo : Nat → FieldType := fun k => match k with
  | 0 => .object "ChanceGame$Game"
  | 1 => .int
  | 2 => .int
  | 3 => .int
  | 4 => .int
  | 5 => .int
  | 6 => .array (.array .int)
  | 7 => .array .int
  | 8 => .array (.array .int)
  | 9 => .array (.array .int)
  | _ => .array .int
def R_At : String := "ChanceGame$Attraction"
def F_At : u_T := fun k => match k with
  | 0 => ("ChanceGame$Attraction", "allowed", "[I", true)
  | _ => ("ChanceGame$Attraction", "nearer", "[I", true)
def t_At : Nat → FieldType := fun k => match k with
  | 0 => .array .int
  | _ => .array .int
def R_Eq : String := "ChanceGame$Equations"
def F_Eq : u_T := fun k => match k with
  | 0 => ("ChanceGame$Equations", "rows", "[[J", true)
  | 1 => ("ChanceGame$Equations", "uppers", "[J", true)
  | _ => ("ChanceGame$Equations", "lower", "J", false)
def t_Eq : Nat → FieldType := fun k => match k with
  | 0 => .array (.array .long)
  | 1 => .array .long
  | _ => .long
def R_Go : String := "ChanceGame$GoodChoices"
def F_Go : u_T := fun k => match k with
  | 0 => ("ChanceGame$GoodChoices", "attraction", "LChanceGame$Attraction;", true)
  | _ => ("ChanceGame$GoodChoices", "chosen", "[I", true)
def t_Go : Nat → FieldType := fun k => match k with
  | 0 => .object "ChanceGame$Attraction"
  | _ => .array .int
def R_Mo : String := "ChanceGameModel"
def F_Mo : u_T := fun k => match k with
  | 0 => ("ChanceGameModel", "thrown", "I", false)
  | 1 => ("ChanceGameModel", "text", "[I", true)
  | 2 => ("ChanceGameModel", "length", "I", false)
  | 3 => ("ChanceGameModel", "at", "I", false)
  | 4 => ("ChanceGameModel", "wrong", "I", false)
  | 5 => ("ChanceGameModel", "value", "I", false)
  | 6 => ("ChanceGameModel", "game", "I", false)
  | 7 => ("ChanceGameModel", "draft", "I", false)
  | 8 => ("ChanceGameModel", "most", "[I", true)
  | 9 => ("ChanceGameModel", "begin", "[I", true)
  | 10 => ("ChanceGameModel", "commands", "[I", true)
  | 11 => ("ChanceGameModel", "isMax", "[Z", true)
  | 12 => ("ChanceGameModel", "branches", "[I", true)
  | 13 => ("ChanceGameModel", "weightOf", "[I", true)
  | 14 => ("ChanceGameModel", "weight", "[I", true)
  | 15 => ("ChanceGameModel", "tests", "[I", true)
  | 16 => ("ChanceGameModel", "sign", "[I", true)
  | 17 => ("ChanceGameModel", "items", "[I", true)
  | 18 => ("ChanceGameModel", "item", "[I", true)
  | 19 => ("ChanceGameModel", "minus", "[Z", true)
  | 20 => ("ChanceGameModel", "count", "I", false)
  | 21 => ("ChanceGameModel", "mixedAt", "I", false)
  | 22 => ("ChanceGameModel", "solved", "Z", false)
  | 23 => ("ChanceGameModel", "values", "[I", true)
  | 24 => ("ChanceGameModel", "inTarget", "[Z", true)
  | 25 => ("ChanceGameModel", "ofMax", "[Z", true)
  | 26 => ("ChanceGameModel", "choices", "[I", true)
  | 27 => ("ChanceGameModel", "choiceCount", "[I", true)
  | 28 => ("ChanceGameModel", "leads", "[I", true)
  | 29 => ("ChanceGameModel", "next", "[I", true)
  | 30 => ("ChanceGameModel", "allowed", "[I", true)
  | 31 => ("ChanceGameModel", "pick", "[I", true)
  | 32 => ("ChanceGameModel", "lost", "[Z", true)
  | 33 => ("ChanceGameModel", "unknown", "[I", true)
  | 34 => ("ChanceGameModel", "unknowns", "I", false)
  | 35 => ("ChanceGameModel", "matrix", "[J", true)
  | 36 => ("ChanceGameModel", "work", "[J", true)
  | 37 => ("ChanceGameModel", "number", "[J", true)
  | 38 => ("ChanceGameModel", "common", "J", false)
  | 39 => ("ChanceGameModel", "high", "[J", true)
  | 40 => ("ChanceGameModel", "low", "[J", true)
  | _ => ("ChanceGameModel", "best", "[I", true)
def t_Mo : Nat → FieldType := fun k => match k with
  | 0 => .int
  | 1 => .array .int
  | 2 => .int
  | 3 => .int
  | 4 => .int
  | 5 => .int
  | 6 => .int
  | 7 => .int
  | 8 => .array .int
  | 9 => .array .int
  | 10 => .array .int
  | 11 => .array .boolean
  | 12 => .array .int
  | 13 => .array .int
  | 14 => .array .int
  | 15 => .array .int
  | 16 => .array .int
  | 17 => .array .int
  | 18 => .array .int
  | 19 => .array .boolean
  | 20 => .int
  | 21 => .int
  | 22 => .boolean
  | 23 => .array .int
  | 24 => .array .boolean
  | 25 => .array .boolean
  | 26 => .array .int
  | 27 => .array .int
  | 28 => .array .int
  | 29 => .array .int
  | 30 => .array .int
  | 31 => .array .int
  | 32 => .array .boolean
  | 33 => .array .int
  | 34 => .int
  | 35 => .array .long
  | 36 => .array .long
  | 37 => .array .long
  | 38 => .long
  | 39 => .array .long
  | 40 => .array .long
  | _ => .array .int
abbrev classes : List vw_C := [(R_CG, F_CG, 7), (R_Rd, F_Rd, 4), (R_Tx, F_Tx, 2), (R_Gm, F_Gm, 5), (R_Cm, F_Cm, 5), (R_Gu, F_Gu, 3), (R_Br, F_Br, 2), (R_Va, F_Va, 7), (R_Fo, F_Fo, 11), (R_At, F_At, 2), (R_Eq, F_Eq, 3), (R_Go, F_Go, 2), (R_Mo, F_Mo, 42)]
abbrev fm_D : Type := (Nat × List Nat) ⊕ (Nat × Nat)
abbrev ks_CG : List Nat := [4, 5, 144, 145, 329, 0, 0]
abbrev ks_Rd : List Nat := [4, 2, 0, 0]
abbrev ks_Tx : List Nat := [4, 0]
abbrev ks_Gm : List Nat := [4, 5, 6, 7, 0]
abbrev ks_Cm : List Nat := [4, 7, 0, 0, 0]
abbrev ks_Gu : List Nat := [4, 5, 0]
abbrev ks_Br : List Nat := [4, 0]
abbrev ks_Va : List Nat := [4, 171, 174, 185, 0, 186, 187]
abbrev ks_Fo : List Nat := [2, 0, 0, 0, 0, 0, 141, 150, 151, 160, 169]
abbrev ks_At : List Nat := [4, 5]
abbrev ks_Eq : List Nat := [4, 13, 1]
abbrev ks_Go : List Nat := [4, 7]
abbrev ks_Mo : List Nat := [0, 4, 0, 0, 0, 0, 0, 0, 5, 6, 7, 8, 9, 10, 11, 12, 13, 14, 15, 16, 0, 0, 0, 17, 18, 19, 20, 21, 22, 23, 24, 25, 26, 27, 0, 28, 29, 30, 1, 31, 32, 33]
def TC_0 : List fm_D := [.inl (0, ks_CG), .inl (1, ks_Rd), .inl (2, ks_Tx), .inr (1, 200), .inl (3, ks_Gm), .inr (0, 3), .inr (0, 3), .inr (6, 10), .inl (5, ks_Gu), .inr (0, 16), .inr (1, 4), .inl (4, ks_Cm), .inl (5, ks_Gu), .inr (0, 16), .inr (1, 4), .inr (7, 4), .inl (6, ks_Br), .inr (0, 12), .inl (6, ks_Br), .inr (0, 12), .inl (6, ks_Br), .inr (0, 12), .inl (6, ks_Br), .inr (0, 12), .inl (4, ks_Cm), .inl (5, ks_Gu), .inr (0, 16), .inr (1, 4), .inr (7, 4), .inl (6, ks_Br), .inr (0, 12), .inl (6, ks_Br), .inr (0, 12), .inl (6, ks_Br), .inr (0, 12), .inl (6, ks_Br), .inr (0, 12), .inl (4, ks_Cm), .inl (5, ks_Gu), .inr (0, 16)]
def TC_1 : List fm_D := [.inr (1, 4), .inr (7, 4), .inl (6, ks_Br), .inr (0, 12), .inl (6, ks_Br), .inr (0, 12), .inl (6, ks_Br), .inr (0, 12), .inl (6, ks_Br), .inr (0, 12), .inl (4, ks_Cm), .inl (5, ks_Gu), .inr (0, 16), .inr (1, 4), .inr (7, 4), .inl (6, ks_Br), .inr (0, 12), .inl (6, ks_Br), .inr (0, 12), .inl (6, ks_Br), .inr (0, 12), .inl (6, ks_Br), .inr (0, 12), .inl (4, ks_Cm), .inl (5, ks_Gu), .inr (0, 16), .inr (1, 4), .inr (7, 4), .inl (6, ks_Br), .inr (0, 12), .inl (6, ks_Br), .inr (0, 12), .inl (6, ks_Br), .inr (0, 12), .inl (6, ks_Br), .inr (0, 12), .inl (4, ks_Cm), .inl (5, ks_Gu), .inr (0, 16), .inr (1, 4)]
def TC_2 : List fm_D := [.inr (7, 4), .inl (6, ks_Br), .inr (0, 12), .inl (6, ks_Br), .inr (0, 12), .inl (6, ks_Br), .inr (0, 12), .inl (6, ks_Br), .inr (0, 12), .inl (4, ks_Cm), .inl (5, ks_Gu), .inr (0, 16), .inr (1, 4), .inr (7, 4), .inl (6, ks_Br), .inr (0, 12), .inl (6, ks_Br), .inr (0, 12), .inl (6, ks_Br), .inr (0, 12), .inl (6, ks_Br), .inr (0, 12), .inl (4, ks_Cm), .inl (5, ks_Gu), .inr (0, 16), .inr (1, 4), .inr (7, 4), .inl (6, ks_Br), .inr (0, 12), .inl (6, ks_Br), .inr (0, 12), .inl (6, ks_Br), .inr (0, 12), .inl (6, ks_Br), .inr (0, 12), .inl (4, ks_Cm), .inl (5, ks_Gu), .inr (0, 16), .inr (1, 4), .inr (7, 4)]
def TC_3 : List fm_D := [.inl (6, ks_Br), .inr (0, 12), .inl (6, ks_Br), .inr (0, 12), .inl (6, ks_Br), .inr (0, 12), .inl (6, ks_Br), .inr (0, 12), .inl (4, ks_Cm), .inl (5, ks_Gu), .inr (0, 16), .inr (1, 4), .inr (7, 4), .inl (6, ks_Br), .inr (0, 12), .inl (6, ks_Br), .inr (0, 12), .inl (6, ks_Br), .inr (0, 12), .inl (6, ks_Br), .inr (0, 12), .inl (7, ks_Va), .inl (8, ks_Fo), .inl (3, ks_Gm), .inr (0, 3), .inr (0, 3), .inr (6, 10), .inl (5, ks_Gu), .inr (0, 16), .inr (1, 4), .inl (4, ks_Cm), .inl (5, ks_Gu), .inr (0, 16), .inr (1, 4), .inr (7, 4), .inl (6, ks_Br), .inr (0, 12), .inl (6, ks_Br), .inr (0, 12), .inl (6, ks_Br)]
def TC_4 : List fm_D := [.inr (0, 12), .inl (6, ks_Br), .inr (0, 12), .inl (4, ks_Cm), .inl (5, ks_Gu), .inr (0, 16), .inr (1, 4), .inr (7, 4), .inl (6, ks_Br), .inr (0, 12), .inl (6, ks_Br), .inr (0, 12), .inl (6, ks_Br), .inr (0, 12), .inl (6, ks_Br), .inr (0, 12), .inl (4, ks_Cm), .inl (5, ks_Gu), .inr (0, 16), .inr (1, 4), .inr (7, 4), .inl (6, ks_Br), .inr (0, 12), .inl (6, ks_Br), .inr (0, 12), .inl (6, ks_Br), .inr (0, 12), .inl (6, ks_Br), .inr (0, 12), .inl (4, ks_Cm), .inl (5, ks_Gu), .inr (0, 16), .inr (1, 4), .inr (7, 4), .inl (6, ks_Br), .inr (0, 12), .inl (6, ks_Br), .inr (0, 12), .inl (6, ks_Br), .inr (0, 12)]
def TC_5 : List fm_D := [.inl (6, ks_Br), .inr (0, 12), .inl (4, ks_Cm), .inl (5, ks_Gu), .inr (0, 16), .inr (1, 4), .inr (7, 4), .inl (6, ks_Br), .inr (0, 12), .inl (6, ks_Br), .inr (0, 12), .inl (6, ks_Br), .inr (0, 12), .inl (6, ks_Br), .inr (0, 12), .inl (4, ks_Cm), .inl (5, ks_Gu), .inr (0, 16), .inr (1, 4), .inr (7, 4), .inl (6, ks_Br), .inr (0, 12), .inl (6, ks_Br), .inr (0, 12), .inl (6, ks_Br), .inr (0, 12), .inl (6, ks_Br), .inr (0, 12), .inl (4, ks_Cm), .inl (5, ks_Gu), .inr (0, 16), .inr (1, 4), .inr (7, 4), .inl (6, ks_Br), .inr (0, 12), .inl (6, ks_Br), .inr (0, 12), .inl (6, ks_Br), .inr (0, 12), .inl (6, ks_Br)]
def TC_6 : List fm_D := [.inr (0, 12), .inl (4, ks_Cm), .inl (5, ks_Gu), .inr (0, 16), .inr (1, 4), .inr (7, 4), .inl (6, ks_Br), .inr (0, 12), .inl (6, ks_Br), .inr (0, 12), .inl (6, ks_Br), .inr (0, 12), .inl (6, ks_Br), .inr (0, 12), .inl (4, ks_Cm), .inl (5, ks_Gu), .inr (0, 16), .inr (1, 4), .inr (7, 4), .inl (6, ks_Br), .inr (0, 12), .inl (6, ks_Br), .inr (0, 12), .inl (6, ks_Br), .inr (0, 12), .inl (6, ks_Br), .inr (0, 12), .inl (4, ks_Cm), .inl (5, ks_Gu), .inr (0, 16), .inr (1, 4), .inr (7, 4), .inl (6, ks_Br), .inr (0, 12), .inl (6, ks_Br), .inr (0, 12), .inl (6, ks_Br), .inr (0, 12), .inl (6, ks_Br), .inr (0, 12)]
def TC_7 : List fm_D := [.inr (4, 8), .inr (0, 3), .inr (0, 3), .inr (0, 3), .inr (0, 3), .inr (0, 3), .inr (0, 3), .inr (0, 3), .inr (0, 3), .inr (0, 8), .inr (4, 8), .inr (0, 10), .inr (0, 10), .inr (0, 10), .inr (0, 10), .inr (0, 10), .inr (0, 10), .inr (0, 10), .inr (0, 10), .inr (4, 8), .inr (0, 40), .inr (0, 40), .inr (0, 40), .inr (0, 40), .inr (0, 40), .inr (0, 40), .inr (0, 40), .inr (0, 40), .inr (0, 3), .inl (9, ks_At), .inr (0, 8), .inr (0, 8), .inl (10, ks_Eq), .inr (5, 8), .inr (3, 9), .inr (3, 9), .inr (3, 9), .inr (3, 9), .inr (3, 9), .inr (3, 9)]
def TC_8 : List fm_D := [.inr (3, 9), .inr (3, 9), .inr (3, 8), .inr (0, 8), .inr (3, 8), .inr (3, 8), .inl (11, ks_Go), .inl (9, ks_At), .inr (0, 8), .inr (0, 8), .inr (0, 8), .inl (12, ks_Mo), .inr (0, 200), .inr (0, 6), .inr (0, 6), .inr (0, 2), .inr (2, 20), .inr (0, 20), .inr (0, 20), .inr (0, 80), .inr (0, 22), .inr (0, 88), .inr (0, 416), .inr (0, 1664), .inr (2, 1664), .inr (0, 24), .inr (2, 8), .inr (2, 8), .inr (0, 80), .inr (0, 8), .inr (0, 320), .inr (0, 3), .inr (0, 8), .inr (0, 8), .inr (2, 8), .inr (0, 8), .inr (3, 72), .inr (3, 64), .inr (3, 8), .inr (3, 8)]
def TC_9 : List fm_D := [.inr (3, 8), .inr (0, 8), .inr (3, 1)]
def TC (k : Nat) : fm_D := if k < 40 then TC_0.getD (k - 0) (.inr (0, 0)) else if k < 80 then TC_1.getD (k - 40) (.inr (0, 0)) else if k < 120 then TC_2.getD (k - 80) (.inr (0, 0)) else if k < 160 then TC_3.getD (k - 120) (.inr (0, 0)) else if k < 200 then TC_4.getD (k - 160) (.inr (0, 0)) else if k < 240 then TC_5.getD (k - 200) (.inr (0, 0)) else if k < 280 then TC_6.getD (k - 240) (.inr (0, 0)) else if k < 320 then TC_7.getD (k - 280) (.inr (0, 0)) else if k < 360 then TC_8.getD (k - 320) (.inr (0, 0)) else if k < 400 then TC_9.getD (k - 360) (.inr (0, 0)) else .inr (0, 0)
def nC : Nat := 363