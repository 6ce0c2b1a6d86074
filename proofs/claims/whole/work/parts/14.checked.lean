theorem ok_of {j : Nat} (h : j < 185) : o_all j = true ∧ o_m j = true ∧ o_cw j := oq_185 j h
