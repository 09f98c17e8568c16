/-- which entries are which literals; which entries are nest mates' methods; the class of which there are rows -/
abbrev mm_N : Type := List (String × Nat × String × Nat) × List (String × Nat × MethodName × String) × String
