theorem sim_all : ∃ Rel : Nat → St → St → Prop, LawSim Rel ∧ Rel 0 st_C st_M := sorry
