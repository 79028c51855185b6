def wk (T : List Nat) (e : Nat) : Nat := (0 :: T).idxOf e
