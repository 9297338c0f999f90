/-- the kinds of the rows of references that WrongHole has -/
abbrev KS (cs : Nat → ClassId) : List (ClassId × FieldType) := [(cs 5, .object "WrongHole$Rule"), (cs 6, .object "WrongHole$Worn")]
