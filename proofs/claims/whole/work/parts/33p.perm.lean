/-! the same, with the number of parts said -/
theorem pmn {rest : va_W} (sg sg' : List va_W) (is : List Nat) (n : Nat) (h1 : is.map (fun i => sg[i]?) = sg'.map some) (hn : sg.length = n) (h2 : is.Perm (List.range n)) : (fl sg rest).Perm (fl sg' rest) := pmf sg sg' is h1 (by rw [hn]; exact h2)
