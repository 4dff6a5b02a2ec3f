/-- the array classes: int, byte, long, boolean, Block, int rows -/
abbrev TY (t : Nat → ClassId) : List (ClassId × FieldType) := [(t 0, .int), (t 1, .byte), (t 2, .long), (t 3, .boolean), (t 4, .object "MemoryMap$Block"), (t 5, .array .int)]
