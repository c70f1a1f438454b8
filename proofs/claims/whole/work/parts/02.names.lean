def RX0 : String := "IllLight$Coast"
def TX0 : u_T := fun k => match k with
  | 0 => ("IllLight$Coast", "wide", "I", false)
  | 1 => ("IllLight$Coast", "high", "I", false)
  | 2 => ("IllLight$Coast", "lamp", "I", false)
  | 3 => ("IllLight$Coast", "limit", "I", false)
  | 4 => ("IllLight$Coast", "rocks", "J", false)
  | 5 => ("IllLight$Coast", "guards", "I", false)
  | 6 => ("IllLight$Coast", "guardSpot", "[I", true)
  | 7 => ("IllLight$Coast", "guardRange", "[I", true)
  | 8 => ("IllLight$Coast", "ships", "I", false)
  | 9 => ("IllLight$Coast", "spot", "[I", true)
  | 10 => ("IllLight$Coast", "cargo", "[I", true)
  | 11 => ("IllLight$Coast", "children", "[I", true)
  | 12 => ("IllLight$Coast", "men", "[I", true)
  | 13 => ("IllLight$Coast", "kind", "[I", true)
  | 14 => ("IllLight$Coast", "first", "[I", true)
  | _ => ("IllLight$Coast", "second", "[I", true)
def tyX0 : Nat → FieldType := fun k => match k with
  | 0 => .int
  | 1 => .int
  | 2 => .int
  | 3 => .int
  | 4 => .long
  | 5 => .int
  | 6 => .array .int
  | 7 => .array .int
  | 8 => .int
  | 9 => .array .int
  | 10 => .array .int
  | 11 => .array .int
  | 12 => .array .int
  | 13 => .array .int
  | 14 => .array .int
  | _ => .array .int
abbrev wsX00 : List Cond := u_ws RX0 TX0 16
theorem nmX0 : ∀ a, a < 16 → ∀ b, b < 16 → a ≠ b → (TX0 a).2.1 ≠ (TX0 b).2.1 := by decide +kernel
theorem tyX0_ok : ∀ k, k < 16 → parseFieldDescriptor (TX0 k).2.2.1 = some (tyX0 k) := by decide +kernel
def RX1 : String := "IllLight$Course"
def TX1 : u_T := fun k => match k with
  | 0 => ("IllLight$Course", "coast", "LIllLight$Coast;", true)
  | 1 => ("IllLight$Course", "hour", "I", false)
  | 2 => ("IllLight$Course", "gone", "I", false)
  | 3 => ("IllLight$Course", "struck", "I", false)
  | 4 => ("IllLight$Course", "caught", "I", false)
  | _ => ("IllLight$Course", "seed", "I", false)
def tyX1 : Nat → FieldType := fun k => match k with
  | 0 => .object "IllLight$Coast"
  | 1 => .int
  | 2 => .int
  | 3 => .int
  | 4 => .int
  | _ => .int
abbrev wsX10 : List Cond := u_ws RX1 TX1 6
theorem nmX1 : ∀ a, a < 6 → ∀ b, b < 6 → a ≠ b → (TX1 a).2.1 ≠ (TX1 b).2.1 := by decide +kernel
theorem tyX1_ok : ∀ k, k < 6 → parseFieldDescriptor (TX1 k).2.2.1 = some (tyX1 k) := by decide +kernel
def RX2 : String := "IllLight$Log"
def TX2 : u_T := fun k => match k with
  | 0 => ("IllLight$Log", "men", "I", false)
  | 1 => ("IllLight$Log", "odds", "[I", true)
  | 2 => ("IllLight$Log", "limit", "I", false)
  | 3 => ("IllLight$Log", "errors", "I", false)
  | 4 => ("IllLight$Log", "facts", "I", false)
  | 5 => ("IllLight$Log", "lit", "[I", true)
  | _ => ("IllLight$Log", "hour", "[I", true)
def tyX2 : Nat → FieldType := fun k => match k with
  | 0 => .int
  | 1 => .array .int
  | 2 => .int
  | 3 => .int
  | 4 => .int
  | 5 => .array .int
  | _ => .array .int
abbrev wsX20 : List Cond := u_ws RX2 TX2 7
theorem nmX2 : ∀ a, a < 7 → ∀ b, b < 7 → a ≠ b → (TX2 a).2.1 ≠ (TX2 b).2.1 := by decide +kernel
theorem tyX2_ok : ∀ k, k < 7 → parseFieldDescriptor (TX2 k).2.2.1 = some (tyX2 k) := by decide +kernel
def RX3 : String := "IllLight$Night"
def TX3 : u_T := fun k => match k with
  | 0 => ("IllLight$Night", "deeds", "I", false)
  | 1 => ("IllLight$Night", "kind", "[I", true)
  | _ => ("IllLight$Night", "numbers", "[I", true)
def tyX3 : Nat → FieldType := fun k => match k with
  | 0 => .int
  | 1 => .array .int
  | _ => .array .int
abbrev wsX30 : List Cond := u_ws RX3 TX3 3
theorem nmX3 : ∀ a, a < 3 → ∀ b, b < 3 → a ≠ b → (TX3 a).2.1 ≠ (TX3 b).2.1 := by decide +kernel
theorem tyX3_ok : ∀ k, k < 3 → parseFieldDescriptor (TX3 k).2.2.1 = some (tyX3 k) := by decide +kernel
def RX4 : String := "IllLight$Reader"
def TX4 : u_T := fun k => match k with
  | 0 => ("IllLight$Reader", "coast", "LIllLight$Coast;", true)
  | 1 => ("IllLight$Reader", "night", "LIllLight$Night;", true)
  | 2 => ("IllLight$Reader", "log", "LIllLight$Log;", true)
  | 3 => ("IllLight$Reader", "fault", "I", false)
  | 4 => ("IllLight$Reader", "place", "I", false)
  | 5 => ("IllLight$Reader", "numbers", "[I", true)
  | 6 => ("IllLight$Reader", "token", "I", false)
  | 7 => ("IllLight$Reader", "from", "I", false)
  | 8 => ("IllLight$Reader", "to", "I", false)
  | 9 => ("IllLight$Reader", "farColumn", "I", false)
  | 10 => ("IllLight$Reader", "farRow", "I", false)
  | _ => ("IllLight$Reader", "farShip", "I", false)
def tyX4 : Nat → FieldType := fun k => match k with
  | 0 => .object "IllLight$Coast"
  | 1 => .object "IllLight$Night"
  | 2 => .object "IllLight$Log"
  | 3 => .int
  | 4 => .int
  | 5 => .array .int
  | 6 => .int
  | 7 => .int
  | 8 => .int
  | 9 => .int
  | 10 => .int
  | _ => .int
abbrev wsX40 : List Cond := u_ws RX4 TX4 12
theorem nmX4 : ∀ a, a < 12 → ∀ b, b < 12 → a ≠ b → (TX4 a).2.1 ≠ (TX4 b).2.1 := by decide +kernel
theorem tyX4_ok : ∀ k, k < 12 → parseFieldDescriptor (TX4 k).2.2.1 = some (tyX4 k) := by decide +kernel
def RX6 : String := "IllLight$Sea"
def TX6 : u_T := fun k => match k with
  | 0 => ("IllLight$Sea", "board", "J", false)
  | 1 => ("IllLight$Sea", "safeIfLit", "J", false)
  | 2 => ("IllLight$Sea", "safeIfDark", "J", false)
  | 3 => ("IllLight$Sea", "from", "J", false)
  | 4 => ("IllLight$Sea", "goal", "J", false)
  | 5 => ("IllLight$Sea", "cells", "I", false)
  | _ => ("IllLight$Sea", "seen", "[J", true)
def tyX6 : Nat → FieldType := fun k => match k with
  | 0 => .long
  | 1 => .long
  | 2 => .long
  | 3 => .long
  | 4 => .long
  | 5 => .int
  | _ => .array .long
abbrev wsX60 : List Cond := u_ws RX6 TX6 7
theorem nmX6 : ∀ a, a < 7 → ∀ b, b < 7 → a ≠ b → (TX6 a).2.1 ≠ (TX6 b).2.1 := by decide +kernel
theorem tyX6_ok : ∀ k, k < 7 → parseFieldDescriptor (TX6 k).2.2.1 = some (tyX6 k) := by decide +kernel
def RX7 : String := "IllLight$Told"
def TX7 : u_T := fun k => match k with
  | 0 => ("IllLight$Told", "tape", "[I", true)
  | 1 => ("IllLight$Told", "length", "I", false)
  | 2 => ("IllLight$Told", "fault", "I", false)
  | 3 => ("IllLight$Told", "place", "I", false)
  | 4 => ("IllLight$Told", "held", "[I", true)
  | 5 => ("IllLight$Told", "coasts", "[LIllLight$Coast;", true)
  | 6 => ("IllLight$Told", "nights", "[LIllLight$Night;", true)
  | _ => ("IllLight$Told", "logs", "[LIllLight$Log;", true)
def tyX7 : Nat → FieldType := fun k => match k with
  | 0 => .array .int
  | 1 => .int
  | 2 => .int
  | 3 => .int
  | 4 => .array .int
  | 5 => .array (.object "IllLight$Coast")
  | 6 => .array (.object "IllLight$Night")
  | _ => .array (.object "IllLight$Log")
abbrev wsX70 : List Cond := u_ws RX7 TX7 8
theorem nmX7 : ∀ a, a < 8 → ∀ b, b < 8 → a ≠ b → (TX7 a).2.1 ≠ (TX7 b).2.1 := by decide +kernel
theorem tyX7_ok : ∀ k, k < 8 → parseFieldDescriptor (TX7 k).2.2.1 = some (tyX7 k) := by decide +kernel
def RX8 : String := "IllLight"
def TX8 : u_T := fun k => match k with
  | 0 => ("IllLight", "now", "LIllLight$Told;", true)
  | 1 => ("IllLight", "images", "[LIllLight$Told;", true)
  | 2 => ("IllLight", "kept", "[Z", true)
  | 3 => ("IllLight", "reader", "LIllLight$Reader;", true)
  | 4 => ("IllLight", "course", "LIllLight$Course;", true)
  | 5 => ("IllLight", "trial", "LIllLight$Coast;", true)
  | _ => ("IllLight", "sea", "LIllLight$Sea;", true)
def tyX8 : Nat → FieldType := fun k => match k with
  | 0 => .object "IllLight$Told"
  | 1 => .array (.object "IllLight$Told")
  | 2 => .array .boolean
  | 3 => .object "IllLight$Reader"
  | 4 => .object "IllLight$Course"
  | 5 => .object "IllLight$Coast"
  | _ => .object "IllLight$Sea"
abbrev wsX80 : List Cond := u_ws RX8 TX8 7
theorem nmX8 : ∀ a, a < 7 → ∀ b, b < 7 → a ≠ b → (TX8 a).2.1 ≠ (TX8 b).2.1 := by decide +kernel
theorem tyX8_ok : ∀ k, k < 7 → parseFieldDescriptor (TX8 k).2.2.1 = some (tyX8 k) := by decide +kernel
def RX9 : String := "IllLightModel"
def TX9 : u_T := fun k => match k with
  | 0 => ("IllLightModel", "all", "[I", true)
  | 1 => ("IllLightModel", "has", "[Z", true)
  | 2 => ("IllLightModel", "size", "I", false)
  | 3 => ("IllLightModel", "next", "I", false)
  | 4 => ("IllLightModel", "where", "I", false)
  | 5 => ("IllLightModel", "token", "I", false)
  | 6 => ("IllLightModel", "number", "I", false)
  | 7 => ("IllLightModel", "word", "I", false)
  | 8 => ("IllLightModel", "wrong", "Z", false)
  | 9 => ("IllLightModel", "right", "I", false)
  | 10 => ("IllLightModel", "low", "I", false)
  | 11 => ("IllLightModel", "farShip", "I", false)
  | 12 => ("IllLightModel", "read", "[I", true)
  | 13 => ("IllLightModel", "c0", "I", false)
  | 14 => ("IllLightModel", "wide", "I", false)
  | 15 => ("IllLightModel", "high", "I", false)
  | 16 => ("IllLightModel", "ships", "I", false)
  | 17 => ("IllLightModel", "men", "[I", true)
  | 18 => ("IllLightModel", "cargo", "[I", true)
  | 19 => ("IllLightModel", "aboard", "I", false)
  | 20 => ("IllLightModel", "n0", "I", false)
  | 21 => ("IllLightModel", "cells", "[I", true)
  | 22 => ("IllLightModel", "gone", "I", false)
  | 23 => ("IllLightModel", "struck", "I", false)
  | 24 => ("IllLightModel", "caught", "I", false)
  | 25 => ("IllLightModel", "hour", "I", false)
  | 26 => ("IllLightModel", "done", "I", false)
  | 27 => ("IllLightModel", "first", "[I", true)
  | 28 => ("IllLightModel", "now", "[Z", true)
  | 29 => ("IllLightModel", "then", "[Z", true)
  | 30 => ("IllLightModel", "l0", "I", false)
  | 31 => ("IllLightModel", "fit", "I", false)
  | 32 => ("IllLightModel", "been", "[Z", true)
  | 33 => ("IllLightModel", "beenThen", "[Z", true)
  | 34 => ("IllLightModel", "some", "J", false)
  | 35 => ("IllLightModel", "whole", "J", false)
  | _ => ("IllLightModel", "x0", "I", false)
def tyX9 : Nat → FieldType := fun k => match k with
  | 0 => .array .int
  | 1 => .array .boolean
  | 2 => .int
  | 3 => .int
  | 4 => .int
  | 5 => .int
  | 6 => .int
  | 7 => .int
  | 8 => .boolean
  | 9 => .int
  | 10 => .int
  | 11 => .int
  | 12 => .array .int
  | 13 => .int
  | 14 => .int
  | 15 => .int
  | 16 => .int
  | 17 => .array .int
  | 18 => .array .int
  | 19 => .int
  | 20 => .int
  | 21 => .array .int
  | 22 => .int
  | 23 => .int
  | 24 => .int
  | 25 => .int
  | 26 => .int
  | 27 => .array .int
  | 28 => .array .boolean
  | 29 => .array .boolean
  | 30 => .int
  | 31 => .int
  | 32 => .array .boolean
  | 33 => .array .boolean
  | 34 => .long
  | 35 => .long
  | _ => .int
abbrev wsX90 : List Cond := u_ws RX9 TX9 37
theorem nmX9 : ∀ a, a < 37 → ∀ b, b < 37 → a ≠ b → (TX9 a).2.1 ≠ (TX9 b).2.1 := by decide +kernel
theorem tyX9_ok : ∀ k, k < 37 → parseFieldDescriptor (TX9 k).2.2.1 = some (tyX9 k) := by decide +kernel
abbrev vwCl : List vw_C := [(RX0, TX0, 16), (RX1, TX1, 6), (RX2, TX2, 7), (RX3, TX3, 3), (RX4, TX4, 12), (RX6, TX6, 7), (RX7, TX7, 8), (RX8, TX8, 7), (RX9, TX9, 37)]
