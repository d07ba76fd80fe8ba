def RAn : String := "ParagraphWalk$Answers"
def TAn : u_T := fun k => match k with
  | 0 => ("ParagraphWalk$Answers", "ring", "[B", true)
  | _ => ("ParagraphWalk$Answers", "told", "[I", true)
def tyAn : Nat → FieldType := fun k => match k with
  | 0 => .array .byte
  | _ => .array .int
theorem nmAn : ∀ a, a < 2 → ∀ b, b < 2 → a ≠ b → (TAn a).2.1 ≠ (TAn b).2.1 := by decide +kernel
theorem tyAn_ok : ∀ k, k < 2 → parseFieldDescriptor (TAn k).2.2.1 = some (tyAn k) := by decide +kernel
theorem in_An : ∀ w ∈ u_ws RAn TAn 2, w ∈ TB := tb_all _ [121, 123] (by decide +kernel) (by decide +kernel)
def RJo : String := "ParagraphWalk$Journey"
def TJo : u_T := fun k => match k with
  | 0 => ("ParagraphWalk$Journey", "begun", "[I", true)
  | 1 => ("ParagraphWalk$Journey", "steps", "I", false)
  | 2 => ("ParagraphWalk$Journey", "left", "I", false)
  | 3 => ("ParagraphWalk$Journey", "end", "I", false)
  | 4 => ("ParagraphWalk$Journey", "place", "I", false)
  | 5 => ("ParagraphWalk$Journey", "raised", "I", false)
  | _ => ("ParagraphWalk$Journey", "result", "J", false)
def tyJo : Nat → FieldType := fun k => match k with
  | 0 => .array .int
  | 1 => .int
  | 2 => .int
  | 3 => .int
  | 4 => .int
  | 5 => .int
  | _ => .long
theorem nmJo : ∀ a, a < 7 → ∀ b, b < 7 → a ≠ b → (TJo a).2.1 ≠ (TJo b).2.1 := by decide +kernel
theorem tyJo_ok : ∀ k, k < 7 → parseFieldDescriptor (TJo k).2.2.1 = some (tyJo k) := by decide +kernel
theorem in_Jo : ∀ w ∈ u_ws RJo TJo 7, w ∈ TB := tb_all _ [168, 170, 172, 174, 176, 178, 180] (by decide +kernel) (by decide +kernel)
def RNw : String := "ParagraphWalk$NodeWalk"
def TNw : u_T := fun k => match k with
  | 0 => ("ParagraphWalk$NodeWalk", "nodes", "LParagraphWalk$Nodes;", true)
  | 1 => ("ParagraphWalk$NodeWalk", "paragraphs", "LParagraphWalk$Paragraphs;", true)
  | 2 => ("ParagraphWalk$NodeWalk", "journey", "LParagraphWalk$Journey;", true)
  | _ => ("ParagraphWalk$NodeWalk", "stepper", "LParagraphWalk$Stepper;", true)
def tyNw : Nat → FieldType := fun k => match k with
  | 0 => .object "ParagraphWalk$Nodes"
  | 1 => .object "ParagraphWalk$Paragraphs"
  | 2 => .object "ParagraphWalk$Journey"
  | _ => .object "ParagraphWalk$Stepper"
theorem nmNw : ∀ a, a < 4 → ∀ b, b < 4 → a ≠ b → (TNw a).2.1 ≠ (TNw b).2.1 := by decide +kernel
theorem tyNw_ok : ∀ k, k < 4 → parseFieldDescriptor (TNw k).2.2.1 = some (tyNw k) := by decide +kernel
theorem in_Nw : ∀ w ∈ u_ws RNw TNw 4, w ∈ TB := tb_all _ [251, 253, 255, 257] (by decide +kernel) (by decide +kernel)
def RNd : String := "ParagraphWalk$Nodes"
def TNd : u_T := fun k => match k with
  | 0 => ("ParagraphWalk$Nodes", "kinds", "[I", true)
  | 1 => ("ParagraphWalk$Nodes", "as", "[I", true)
  | 2 => ("ParagraphWalk$Nodes", "bs", "[I", true)
  | 3 => ("ParagraphWalk$Nodes", "sizes", "[I", true)
  | _ => ("ParagraphWalk$Nodes", "many", "I", false)
def tyNd : Nat → FieldType := fun k => match k with
  | 0 => .array .int
  | 1 => .array .int
  | 2 => .array .int
  | 3 => .array .int
  | _ => .int
theorem nmNd : ∀ a, a < 5 → ∀ b, b < 5 → a ≠ b → (TNd a).2.1 ≠ (TNd b).2.1 := by decide +kernel
theorem tyNd_ok : ∀ k, k < 5 → parseFieldDescriptor (TNd k).2.2.1 = some (tyNd k) := by decide +kernel
theorem in_Nd : ∀ w ∈ u_ws RNd TNd 5, w ∈ TB := tb_all _ [84, 86, 88, 90, 92] (by decide +kernel) (by decide +kernel)
def RPg : String := "ParagraphWalk$Paragraphs"
def TPg : u_T := fun k => match k with
  | 0 => ("ParagraphWalk$Paragraphs", "roots", "[I", true)
  | 1 => ("ParagraphWalk$Paragraphs", "sections", "[I", true)
  | _ => ("ParagraphWalk$Paragraphs", "many", "I", false)
def tyPg : Nat → FieldType := fun k => match k with
  | 0 => .array .int
  | 1 => .array .int
  | _ => .int
theorem nmPg : ∀ a, a < 3 → ∀ b, b < 3 → a ≠ b → (TPg a).2.1 ≠ (TPg b).2.1 := by decide +kernel
theorem tyPg_ok : ∀ k, k < 3 → parseFieldDescriptor (TPg k).2.2.1 = some (tyPg k) := by decide +kernel
theorem in_Pg : ∀ w ∈ u_ws RPg TPg 3, w ∈ TB := tb_all _ [106, 108, 110] (by decide +kernel) (by decide +kernel)
def RSc : String := "ParagraphWalk$Scene"
def TSc : u_T := fun k => match k with
  | 0 => ("ParagraphWalk$Scene", "widths", "[I", true)
  | 1 => ("ParagraphWalk$Scene", "values", "[J", true)
  | 2 => ("ParagraphWalk$Scene", "taken", "[I", true)
  | _ => ("ParagraphWalk$Scene", "cells", "I", false)
def tySc : Nat → FieldType := fun k => match k with
  | 0 => .array .int
  | 1 => .array .long
  | 2 => .array .int
  | _ => .int
theorem nmSc : ∀ a, a < 4 → ∀ b, b < 4 → a ≠ b → (TSc a).2.1 ≠ (TSc b).2.1 := by decide +kernel
theorem tySc_ok : ∀ k, k < 4 → parseFieldDescriptor (TSc k).2.2.1 = some (tySc k) := by decide +kernel
theorem in_Sc : ∀ w ∈ u_ws RSc TSc 4, w ∈ TB := tb_all _ [138, 140, 142, 144] (by decide +kernel) (by decide +kernel)
def RWk : String := "ParagraphWalk$StackWalk"
def TWk : u_T := fun k => match k with
  | 0 => ("ParagraphWalk$StackWalk", "nodes", "LParagraphWalk$Nodes;", true)
  | 1 => ("ParagraphWalk$StackWalk", "paragraphs", "LParagraphWalk$Paragraphs;", true)
  | 2 => ("ParagraphWalk$StackWalk", "journey", "LParagraphWalk$Journey;", true)
  | 3 => ("ParagraphWalk$StackWalk", "stepper", "LParagraphWalk$Stepper;", true)
  | 4 => ("ParagraphWalk$StackWalk", "stack", "[I", true)
  | 5 => ("ParagraphWalk$StackWalk", "depth", "I", false)
  | _ => ("ParagraphWalk$StackWalk", "current", "I", false)
def tyWk : Nat → FieldType := fun k => match k with
  | 0 => .object "ParagraphWalk$Nodes"
  | 1 => .object "ParagraphWalk$Paragraphs"
  | 2 => .object "ParagraphWalk$Journey"
  | 3 => .object "ParagraphWalk$Stepper"
  | 4 => .array .int
  | 5 => .int
  | _ => .int
theorem nmWk : ∀ a, a < 7 → ∀ b, b < 7 → a ≠ b → (TWk a).2.1 ≠ (TWk b).2.1 := by decide +kernel
theorem tyWk_ok : ∀ k, k < 7 → parseFieldDescriptor (TWk k).2.2.1 = some (tyWk k) := by decide +kernel
theorem in_Wk : ∀ w ∈ u_ws RWk TWk 7, w ∈ TB := tb_all _ [226, 228, 230, 232, 234, 236, 238] (by decide +kernel) (by decide +kernel)
def RSp : String := "ParagraphWalk$Stepper"
def TSp : u_T := fun k => match k with
  | 0 => ("ParagraphWalk$Stepper", "nodes", "LParagraphWalk$Nodes;", true)
  | 1 => ("ParagraphWalk$Stepper", "paragraphs", "LParagraphWalk$Paragraphs;", true)
  | 2 => ("ParagraphWalk$Stepper", "answers", "LParagraphWalk$Answers;", true)
  | 3 => ("ParagraphWalk$Stepper", "scene", "LParagraphWalk$Scene;", true)
  | 4 => ("ParagraphWalk$Stepper", "journey", "LParagraphWalk$Journey;", true)
  | 5 => ("ParagraphWalk$Stepper", "dividedByZero", "Z", false)
  | _ => ("ParagraphWalk$Stepper", "target", "I", false)
def tySp : Nat → FieldType := fun k => match k with
  | 0 => .object "ParagraphWalk$Nodes"
  | 1 => .object "ParagraphWalk$Paragraphs"
  | 2 => .object "ParagraphWalk$Answers"
  | 3 => .object "ParagraphWalk$Scene"
  | 4 => .object "ParagraphWalk$Journey"
  | 5 => .boolean
  | _ => .int
theorem nmSp : ∀ a, a < 7 → ∀ b, b < 7 → a ≠ b → (TSp a).2.1 ≠ (TSp b).2.1 := by decide +kernel
theorem tySp_ok : ∀ k, k < 7 → parseFieldDescriptor (TSp k).2.2.1 = some (tySp k) := by decide +kernel
theorem in_Sp : ∀ w ∈ u_ws RSp TSp 7, w ∈ TB := tb_all _ [200, 202, 204, 206, 208, 210, 212] (by decide +kernel) (by decide +kernel)
def RPw : String := "ParagraphWalk"
def TPw : u_T := fun k => match k with
  | 0 => ("ParagraphWalk", "steps", "I", true)
  | 1 => ("ParagraphWalk", "nodes", "LParagraphWalk$Nodes;", true)
  | 2 => ("ParagraphWalk", "paragraphs", "LParagraphWalk$Paragraphs;", true)
  | 3 => ("ParagraphWalk", "answers", "LParagraphWalk$Answers;", true)
  | 4 => ("ParagraphWalk", "scene", "LParagraphWalk$Scene;", true)
  | 5 => ("ParagraphWalk", "latest", "LParagraphWalk$Journey;", true)
  | 6 => ("ParagraphWalk", "walk", "LParagraphWalk$StackWalk;", true)
  | 7 => ("ParagraphWalk", "stackScene", "LParagraphWalk$Scene;", true)
  | 8 => ("ParagraphWalk", "stackJourney", "LParagraphWalk$Journey;", true)
  | 9 => ("ParagraphWalk", "stackTrial", "LParagraphWalk$StackWalk;", true)
  | 10 => ("ParagraphWalk", "nodeScene", "LParagraphWalk$Scene;", true)
  | 11 => ("ParagraphWalk", "nodeJourney", "LParagraphWalk$Journey;", true)
  | _ => ("ParagraphWalk", "nodeTrial", "LParagraphWalk$NodeWalk;", true)
def tyPw : Nat → FieldType := fun k => match k with
  | 0 => .int
  | 1 => .object "ParagraphWalk$Nodes"
  | 2 => .object "ParagraphWalk$Paragraphs"
  | 3 => .object "ParagraphWalk$Answers"
  | 4 => .object "ParagraphWalk$Scene"
  | 5 => .object "ParagraphWalk$Journey"
  | 6 => .object "ParagraphWalk$StackWalk"
  | 7 => .object "ParagraphWalk$Scene"
  | 8 => .object "ParagraphWalk$Journey"
  | 9 => .object "ParagraphWalk$StackWalk"
  | 10 => .object "ParagraphWalk$Scene"
  | 11 => .object "ParagraphWalk$Journey"
  | _ => .object "ParagraphWalk$NodeWalk"
theorem nmPw : ∀ a, a < 13 → ∀ b, b < 13 → a ≠ b → (TPw a).2.1 ≠ (TPw b).2.1 := by decide +kernel
theorem tyPw_ok : ∀ k, k < 13 → parseFieldDescriptor (TPw k).2.2.1 = some (tyPw k) := by decide +kernel
theorem in_Pw : ∀ w ∈ u_ws RPw TPw 13, w ∈ TB := tb_all _ [273, 275, 277, 279, 281, 283, 285, 287, 289, 291, 293, 295, 297] (by decide +kernel) (by decide +kernel)
def RMo : String := "ParagraphWalkModel"
def TMo : u_T := fun k => match k with
  | 0 => ("ParagraphWalkModel", "thrown", "I", false)
  | 1 => ("ParagraphWalkModel", "steps", "J", true)
  | 2 => ("ParagraphWalkModel", "cells", "I", false)
  | 3 => ("ParagraphWalkModel", "nodes", "I", false)
  | 4 => ("ParagraphWalkModel", "paragraphs", "I", false)
  | 5 => ("ParagraphWalkModel", "waiting", "I", false)
  | 6 => ("ParagraphWalkModel", "digits", "[I", true)
  | 7 => ("ParagraphWalkModel", "says", "[J", true)
  | 8 => ("ParagraphWalkModel", "kind", "[I", true)
  | 9 => ("ParagraphWalkModel", "one", "[I", true)
  | 10 => ("ParagraphWalkModel", "two", "[I", true)
  | 11 => ("ParagraphWalkModel", "weight", "[I", true)
  | 12 => ("ParagraphWalkModel", "answers", "[I", true)
  | 13 => ("ParagraphWalkModel", "answer", "[I", true)
  | 14 => ("ParagraphWalkModel", "root", "[I", true)
  | 15 => ("ParagraphWalkModel", "section", "[I", true)
  | 16 => ("ParagraphWalkModel", "at", "I", false)
  | 17 => ("ParagraphWalkModel", "high", "I", false)
  | 18 => ("ParagraphWalkModel", "begun", "I", false)
  | 19 => ("ParagraphWalkModel", "raised", "I", false)
  | 20 => ("ParagraphWalkModel", "next", "I", false)
  | 21 => ("ParagraphWalkModel", "isSpent", "Z", false)
  | 22 => ("ParagraphWalkModel", "result", "J", false)
  | 23 => ("ParagraphWalkModel", "pile", "[I", true)
  | 24 => ("ParagraphWalkModel", "order", "[I", true)
  | 25 => ("ParagraphWalkModel", "todo", "[I", true)
  | 26 => ("ParagraphWalkModel", "values", "[J", true)
  | _ => ("ParagraphWalkModel", "fails", "Z", false)
def tyMo : Nat → FieldType := fun k => match k with
  | 0 => .int
  | 1 => .long
  | 2 => .int
  | 3 => .int
  | 4 => .int
  | 5 => .int
  | 6 => .array .int
  | 7 => .array .long
  | 8 => .array .int
  | 9 => .array .int
  | 10 => .array .int
  | 11 => .array .int
  | 12 => .array .int
  | 13 => .array .int
  | 14 => .array .int
  | 15 => .array .int
  | 16 => .int
  | 17 => .int
  | 18 => .int
  | 19 => .int
  | 20 => .int
  | 21 => .boolean
  | 22 => .long
  | 23 => .array .int
  | 24 => .array .int
  | 25 => .array .int
  | 26 => .array .long
  | _ => .boolean
theorem nmMo : ∀ a, a < 28 → ∀ b, b < 28 → a ≠ b → (TMo a).2.1 ≠ (TMo b).2.1 := by decide +kernel
theorem tyMo_ok : ∀ k, k < 28 → parseFieldDescriptor (TMo k).2.2.1 = some (tyMo k) := by decide +kernel
theorem in_Mo : ∀ w ∈ u_ws RMo TMo 28, w ∈ TB := tb_all _ [715, 717, 719, 721, 723, 725, 727, 729, 731, 733, 735, 737, 739, 741, 743, 745, 747, 749, 751, 753, 755, 757, 759, 761, 763, 765, 767, 769] (by decide +kernel) (by decide +kernel)
def RLw : String := "ParagraphWalkLaw"
def RMa : String := "java/lang/Math"
abbrev vwCl : List vw_C := [(RAn, TAn, 2), (RJo, TJo, 7), (RNw, TNw, 4), (RNd, TNd, 5), (RPg, TPg, 3), (RSc, TSc, 4), (RWk, TWk, 7), (RSp, TSp, 7), (RPw, TPw, 13), (RMo, TMo, 28)]
def nwL : List Cond := [.methodLinkNest "ParagraphWalk" 19 ⟨"ParagraphWalk$Nodes", "<init>", "()V"⟩ "ParagraphWalk", .fieldLinkNest "ParagraphWalk" 177 "ParagraphWalk$Nodes" "many" "I" "ParagraphWalk", .methodLinkNest "ParagraphWalk" 26 ⟨"ParagraphWalk$Paragraphs", "<init>", "()V"⟩ "ParagraphWalk", .fieldLinkNest "ParagraphWalk" 180 "ParagraphWalk$Paragraphs" "many" "I" "ParagraphWalk", .methodLinkNest "ParagraphWalk" 33 ⟨"ParagraphWalk$Answers", "<init>", "()V"⟩ "ParagraphWalk", .methodLinkNest "ParagraphWalk" 40 ⟨"ParagraphWalk$Scene", "<init>", "()V"⟩ "ParagraphWalk", .fieldLinkNest "ParagraphWalk" 92 "ParagraphWalk$Scene" "cells" "I" "ParagraphWalk", .methodLinkNest "ParagraphWalk" 47 ⟨"ParagraphWalk$Journey", "<init>", "()V"⟩ "ParagraphWalk", .fieldLinkNest "ParagraphWalk" 185 "ParagraphWalk$Journey" "steps" "I" "ParagraphWalk", .fieldLinkNest "ParagraphWalk$NodeWalk" 28 "ParagraphWalk$Journey" "end" "I" "ParagraphWalk", .fieldLinkNest "ParagraphWalk$StackWalk" 39 "ParagraphWalk$Journey" "end" "I" "ParagraphWalk", .fieldLinkNest "ParagraphWalk" 130 "ParagraphWalk$Journey" "end" "I" "ParagraphWalk", .fieldLinkNest "ParagraphWalk" 164 "ParagraphWalk$Journey" "place" "I" "ParagraphWalk", .fieldLinkNest "ParagraphWalk" 167 "ParagraphWalk$Journey" "raised" "I" "ParagraphWalk", .fieldLinkNest "ParagraphWalk" 173 "ParagraphWalk$Journey" "result" "J" "ParagraphWalk", .fieldLinkNest "ParagraphWalk$NodeWalk" 52 "ParagraphWalk$Stepper" "target" "I" "ParagraphWalk", .fieldLinkNest "ParagraphWalk$StackWalk" 96 "ParagraphWalk$Stepper" "target" "I" "ParagraphWalk", .fieldLinkNest "ParagraphWalk$Scene" 30 "ParagraphWalk" "TENS" "[J" "ParagraphWalk", .fieldLinkNest "ParagraphWalk$Nodes" 24 "ParagraphWalk" "NEEDS_OF_A" "[I" "ParagraphWalk", .fieldLinkNest "ParagraphWalk$Nodes" 31 "ParagraphWalk" "NEEDS_OF_B" "[I" "ParagraphWalk"]
theorem nw_0 : Cond.methodLinkNest "ParagraphWalk" 19 ⟨"ParagraphWalk$Nodes", "<init>", "()V"⟩ "ParagraphWalk" ∈ nwL := List.mem_of_getElem? (i := 0) rfl
theorem nw_1 : Cond.fieldLinkNest "ParagraphWalk" 177 "ParagraphWalk$Nodes" "many" "I" "ParagraphWalk" ∈ nwL := List.mem_of_getElem? (i := 1) rfl
theorem nw_2 : Cond.methodLinkNest "ParagraphWalk" 26 ⟨"ParagraphWalk$Paragraphs", "<init>", "()V"⟩ "ParagraphWalk" ∈ nwL := List.mem_of_getElem? (i := 2) rfl
theorem nw_3 : Cond.fieldLinkNest "ParagraphWalk" 180 "ParagraphWalk$Paragraphs" "many" "I" "ParagraphWalk" ∈ nwL := List.mem_of_getElem? (i := 3) rfl
theorem nw_4 : Cond.methodLinkNest "ParagraphWalk" 33 ⟨"ParagraphWalk$Answers", "<init>", "()V"⟩ "ParagraphWalk" ∈ nwL := List.mem_of_getElem? (i := 4) rfl
theorem nw_5 : Cond.methodLinkNest "ParagraphWalk" 40 ⟨"ParagraphWalk$Scene", "<init>", "()V"⟩ "ParagraphWalk" ∈ nwL := List.mem_of_getElem? (i := 5) rfl
theorem nw_6 : Cond.fieldLinkNest "ParagraphWalk" 92 "ParagraphWalk$Scene" "cells" "I" "ParagraphWalk" ∈ nwL := List.mem_of_getElem? (i := 6) rfl
theorem nw_7 : Cond.methodLinkNest "ParagraphWalk" 47 ⟨"ParagraphWalk$Journey", "<init>", "()V"⟩ "ParagraphWalk" ∈ nwL := List.mem_of_getElem? (i := 7) rfl
theorem nw_8 : Cond.fieldLinkNest "ParagraphWalk" 185 "ParagraphWalk$Journey" "steps" "I" "ParagraphWalk" ∈ nwL := List.mem_of_getElem? (i := 8) rfl
theorem nw_9 : Cond.fieldLinkNest "ParagraphWalk$NodeWalk" 28 "ParagraphWalk$Journey" "end" "I" "ParagraphWalk" ∈ nwL := List.mem_of_getElem? (i := 9) rfl
theorem nw_10 : Cond.fieldLinkNest "ParagraphWalk$StackWalk" 39 "ParagraphWalk$Journey" "end" "I" "ParagraphWalk" ∈ nwL := List.mem_of_getElem? (i := 10) rfl
theorem nw_11 : Cond.fieldLinkNest "ParagraphWalk" 130 "ParagraphWalk$Journey" "end" "I" "ParagraphWalk" ∈ nwL := List.mem_of_getElem? (i := 11) rfl
theorem nw_12 : Cond.fieldLinkNest "ParagraphWalk" 164 "ParagraphWalk$Journey" "place" "I" "ParagraphWalk" ∈ nwL := List.mem_of_getElem? (i := 12) rfl
theorem nw_13 : Cond.fieldLinkNest "ParagraphWalk" 167 "ParagraphWalk$Journey" "raised" "I" "ParagraphWalk" ∈ nwL := List.mem_of_getElem? (i := 13) rfl
theorem nw_14 : Cond.fieldLinkNest "ParagraphWalk" 173 "ParagraphWalk$Journey" "result" "J" "ParagraphWalk" ∈ nwL := List.mem_of_getElem? (i := 14) rfl
theorem nw_15 : Cond.fieldLinkNest "ParagraphWalk$NodeWalk" 52 "ParagraphWalk$Stepper" "target" "I" "ParagraphWalk" ∈ nwL := List.mem_of_getElem? (i := 15) rfl
theorem nw_16 : Cond.fieldLinkNest "ParagraphWalk$StackWalk" 96 "ParagraphWalk$Stepper" "target" "I" "ParagraphWalk" ∈ nwL := List.mem_of_getElem? (i := 16) rfl
theorem nw_17 : Cond.fieldLinkNest "ParagraphWalk$Scene" 30 "ParagraphWalk" "TENS" "[J" "ParagraphWalk" ∈ nwL := List.mem_of_getElem? (i := 17) rfl
theorem nw_18 : Cond.fieldLinkNest "ParagraphWalk$Nodes" 24 "ParagraphWalk" "NEEDS_OF_A" "[I" "ParagraphWalk" ∈ nwL := List.mem_of_getElem? (i := 18) rfl
theorem nw_19 : Cond.fieldLinkNest "ParagraphWalk$Nodes" 31 "ParagraphWalk" "NEEDS_OF_B" "[I" "ParagraphWalk" ∈ nwL := List.mem_of_getElem? (i := 19) rfl
def KK (dC : Nat → ClassId) (dI : Nat → Nat → Nat) (cI cL cB : ClassId) (U : State) : Prop := va_K (dC, dI) vwCl [(cI, .int), (cL, .long), (cB, .byte)] U ∧ ∀ w ∈ nwL, va_Nw w U
theorem nwL_warm {s U : State} (hW : s.WarmedH U.vm) (h : ∀ w ∈ nwL, va_Nw w s) : ∀ w ∈ nwL, va_Nw w U := by
  intro w hw
  have h1 := h w hw
  simp only [nwL, List.mem_cons, List.not_mem_nil, or_false] at hw
  rcases hw with rfl | rfl | rfl | rfl | rfl | rfl | rfl | rfl | rfl | rfl | rfl | rfl | rfl | rfl | rfl | rfl | rfl | rfl | rfl | rfl <;> first | exact va_Nw.warmF hW h1 | exact va_Nw.warmM hW h1
theorem nwL_tab : ∀ w ∈ nwL, w.onTables = true := by decide +kernel
theorem KK_w {dC : Nat → ClassId} {dI : Nat → Nat → Nat} {cI cL cB : ClassId} {s U : State} (hW : s.WarmedH U.vm) (h : KK dC dI cI cL cB s) : KK dC dI cI cL cB U := ⟨va_K.moved hW.alike h.1, nwL_warm hW h.2⟩
theorem KK_c {dC : Nat → ClassId} {dI : Nat → Nat → Nat} {cI cL cB : ClassId} {U : State} {g : JFrame} {mk : MethodId} {a : Array Value} (h : KK dC dI cI cL cB U) : KK dC dI cI cL cB (U.calling g mk a) := ⟨va_K.moved (u := U) (U := U.calling g mk a) (Vm.Alike.refl U.vm) h.1, fun w hw => va_Nw.same (u := U) (U := U.calling g mk a) (nwL_tab w hw) rfl (h.2 w hw)⟩
def tNA : Nat → Int32 := fun j => ([0, 1, 2, 2, 2, 2, 2, 2, 2, 1, 3, 2, 2, 3, 2, 7, 8, 0, 0, 0, 0, 0, 3, 2, 2, 9] : List Int32).getD j 0
def tNB : Nat → Int32 := fun j => ([0, 0, 2, 2, 2, 2, 2, 2, 2, 2, 3, 3, 4, 3, 5, 6, 3, 0, 2, 0, 0, 0, 0, 0, 0, 9] : List Int32).getD j 0
def tTN : Nat → Int64 := fun j => ([1, 10, 100, 1000, 10000, 100000, 1000000, 10000000, 100000000, 1000000000, 10000000000, 100000000000, 1000000000000, 10000000000000, 100000000000000, 1000000000000000, 10000000000000000, 100000000000000000, 1000000000000000000] : List Int64).getD j 0
