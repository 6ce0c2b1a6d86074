/-! equations of the methods, printed by program (wip/whole/gen/eqs.py) -/
/- 60: GranuleHall.ask(III)I -/
set_option maxRecDepth 20000 in
theorem e_60_0 (a0 : Nat) (i1 : Int32) (i2 : Int32) (i3 : Int32) (M : mM) : ev 60 0 [some (.inr a0), some (.inl i1), some (.inl i2), some (.inl i3), none, none] [] M = if h_k M a0 = 7 then (if (h_r M a0 3) = 0 then (if (a_rec M 7 [.inr a0, .inl 4] = true ∧ ([] : List mV).length ≤ 8) then (c_I (ev 75 0 [some (.inr a0), some (.inl 4)] [] M) fun v_2 M_1 => some (some (.inl v_2), M_1)) else none) else (if i1 < 0 then (ev 60 19 [some (.inr a0), some (.inl i1), some (.inl i2), some (.inl i3), some (.inr (h_r M a0 3)), none] [] M) else (if i2 ≤ i1 then (ev 60 19 [some (.inr a0), some (.inl i1), some (.inl i2), some (.inl i3), some (.inr (h_r M a0 3)), none] [] M) else (if (2048 : Int32) < i2 then (ev 60 19 [some (.inr a0), some (.inl i1), some (.inl i2), some (.inl i3), some (.inr (h_r M a0 3)), none] [] M) else (ev 60 20 [some (.inr a0), some (.inl i1), some (.inl i2), some (.inl i3), some (.inr (h_r M a0 3)), none] [.inl 1] M))))) else none := by
  refine (ev_ns c_60 1 (ip' := 1) (ls' := [some (.inr a0), some (.inl i1), some (.inl i2), some (.inl i3), none, none]) (st' := [.inr a0]) (M' := M) rfl).trans ?_
  refine (ev_g (h_k M a0 = 7) (ip' := 2) (ls' := [some (.inr a0), some (.inl i1), some (.inl i2), some (.inl i3), none, none]) (st' := [.inr (h_r M a0 3)]) (M' := M) c_60 rfl).trans (t_i ?_ rfl)
  refine (ev_ns c_60 2 (ip' := 4) (ls' := [some (.inr a0), some (.inl i1), some (.inl i2), some (.inl i3), some (.inr (h_r M a0 3)), none]) (st' := [.inr (h_r M a0 3)]) (M' := M) rfl).trans ?_
  refine (ev_i ((h_r M a0 3) = 0) (i1 := 5) (l1 := [some (.inr a0), some (.inl i1), some (.inl i2), some (.inl i3), some (.inr (h_r M a0 3)), none]) (s1 := []) (M1 := M) (i2 := 9) (l2 := [some (.inr a0), some (.inl i1), some (.inl i2), some (.inl i3), some (.inr (h_r M a0 3)), none]) (s2 := []) (M2 := M) c_60 rfl).trans (t_i ?_ ?_)
  · skip
    refine (ev_ns c_60 2 (ip' := 7) (ls' := [some (.inr a0), some (.inl i1), some (.inl i2), some (.inl i3), some (.inr (h_r M a0 3)), none]) (st' := [.inl 4, .inr a0]) (M' := M) rfl).trans ?_
    refine (ev_gI (a_rec M 7 [.inr a0, .inl 4] = true ∧ ([] : List mV).length ≤ 8) (as := [.inr a0, .inl 4]) (rr := []) c_60 c_75 rfl).trans (t_i (t_cI ?_) rfl)
    intro v_2 M_1
    exact ev_d c_60 rfl
  · skip
    refine (ev_ns c_60 1 (ip' := 10) (ls' := [some (.inr a0), some (.inl i1), some (.inl i2), some (.inl i3), some (.inr (h_r M a0 3)), none]) (st' := [.inl i1]) (M' := M) rfl).trans ?_
    refine (ev_i (i1 < 0) (i1 := 19) (l1 := [some (.inr a0), some (.inl i1), some (.inl i2), some (.inl i3), some (.inr (h_r M a0 3)), none]) (s1 := []) (M1 := M) (i2 := 11) (l2 := [some (.inr a0), some (.inl i1), some (.inl i2), some (.inl i3), some (.inr (h_r M a0 3)), none]) (s2 := []) (M2 := M) c_60 rfl).trans (t_i ?_ ?_)
    · skip
      exact rfl
    · skip
      refine (ev_ns c_60 2 (ip' := 13) (ls' := [some (.inr a0), some (.inl i1), some (.inl i2), some (.inl i3), some (.inr (h_r M a0 3)), none]) (st' := [.inl i2, .inl i1]) (M' := M) rfl).trans ?_
      refine (ev_i (i2 ≤ i1) (i1 := 19) (l1 := [some (.inr a0), some (.inl i1), some (.inl i2), some (.inl i3), some (.inr (h_r M a0 3)), none]) (s1 := []) (M1 := M) (i2 := 14) (l2 := [some (.inr a0), some (.inl i1), some (.inl i2), some (.inl i3), some (.inr (h_r M a0 3)), none]) (s2 := []) (M2 := M) c_60 rfl).trans (t_i ?_ ?_)
      · skip
        exact rfl
      · skip
        refine (ev_ns c_60 2 (ip' := 16) (ls' := [some (.inr a0), some (.inl i1), some (.inl i2), some (.inl i3), some (.inr (h_r M a0 3)), none]) (st' := [.inl 2048, .inl i2]) (M' := M) rfl).trans ?_
        refine (ev_i ((2048 : Int32) < i2) (i1 := 19) (l1 := [some (.inr a0), some (.inl i1), some (.inl i2), some (.inl i3), some (.inr (h_r M a0 3)), none]) (s1 := []) (M1 := M) (i2 := 17) (l2 := [some (.inr a0), some (.inl i1), some (.inl i2), some (.inl i3), some (.inr (h_r M a0 3)), none]) (s2 := []) (M2 := M) c_60 rfl).trans (t_i ?_ ?_)
        · skip
          exact rfl
        · skip
          exact ev_ns c_60 2 (ip' := 20) (ls' := [some (.inr a0), some (.inl i1), some (.inl i2), some (.inl i3), some (.inr (h_r M a0 3)), none]) (st' := [.inl 1]) (M' := M) rfl
set_option maxRecDepth 20000 in
theorem e_60_19 (a0 : Nat) (i1 : Int32) (i2 : Int32) (i3 : Int32) (a4 : Nat) (M : mM) : ev 60 19 [some (.inr a0), some (.inl i1), some (.inl i2), some (.inl i3), some (.inr a4), none] [] M = ev 60 20 [some (.inr a0), some (.inl i1), some (.inl i2), some (.inl i3), some (.inr a4), none] [.inl 0] M := by
  exact ev_ns c_60 1 (ip' := 20) (ls' := [some (.inr a0), some (.inl i1), some (.inl i2), some (.inl i3), some (.inr a4), none]) (st' := [.inl 0]) (M' := M) rfl
set_option maxRecDepth 20000 in
theorem e_60_20 (a0 : Nat) (i1 : Int32) (i2 : Int32) (i3 : Int32) (a4 : Nat) (s0 : Int32) (M : mM) : ev 60 20 [some (.inr a0), some (.inl i1), some (.inl i2), some (.inl i3), some (.inr a4), none] [.inl s0] M = if s0 = 0 then (ev 60 28 [some (.inr a0), some (.inl i1), some (.inl i2), some (.inl i3), some (.inr a4), some (.inl s0)] [] M) else (if i3 = 0 then (ev 60 31 [some (.inr a0), some (.inl i1), some (.inl i2), some (.inl i3), some (.inr a4), some (.inl s0)] [] M) else (if i3 = 1 then (ev 60 31 [some (.inr a0), some (.inl i1), some (.inl i2), some (.inl i3), some (.inr a4), some (.inl s0)] [] M) else (ev 60 28 [some (.inr a0), some (.inl i1), some (.inl i2), some (.inl i3), some (.inr a4), some (.inl s0)] [] M))) := by
  refine (ev_ns c_60 2 (ip' := 22) (ls' := [some (.inr a0), some (.inl i1), some (.inl i2), some (.inl i3), some (.inr a4), some (.inl s0)]) (st' := [.inl s0]) (M' := M) rfl).trans ?_
  refine (ev_i (s0 = 0) (i1 := 28) (l1 := [some (.inr a0), some (.inl i1), some (.inl i2), some (.inl i3), some (.inr a4), some (.inl s0)]) (s1 := []) (M1 := M) (i2 := 23) (l2 := [some (.inr a0), some (.inl i1), some (.inl i2), some (.inl i3), some (.inr a4), some (.inl s0)]) (s2 := []) (M2 := M) c_60 rfl).trans (t_i ?_ ?_)
  · skip
    exact rfl
  · skip
    refine (ev_ns c_60 1 (ip' := 24) (ls' := [some (.inr a0), some (.inl i1), some (.inl i2), some (.inl i3), some (.inr a4), some (.inl s0)]) (st' := [.inl i3]) (M' := M) rfl).trans ?_
    refine (ev_i (i3 = 0) (i1 := 31) (l1 := [some (.inr a0), some (.inl i1), some (.inl i2), some (.inl i3), some (.inr a4), some (.inl s0)]) (s1 := []) (M1 := M) (i2 := 25) (l2 := [some (.inr a0), some (.inl i1), some (.inl i2), some (.inl i3), some (.inr a4), some (.inl s0)]) (s2 := []) (M2 := M) c_60 rfl).trans (t_i ?_ ?_)
    · skip
      exact rfl
    · skip
      refine (ev_ns c_60 2 (ip' := 27) (ls' := [some (.inr a0), some (.inl i1), some (.inl i2), some (.inl i3), some (.inr a4), some (.inl s0)]) (st' := [.inl 1, .inl i3]) (M' := M) rfl).trans ?_
      refine (ev_i (i3 = 1) (i1 := 31) (l1 := [some (.inr a0), some (.inl i1), some (.inl i2), some (.inl i3), some (.inr a4), some (.inl s0)]) (s1 := []) (M1 := M) (i2 := 28) (l2 := [some (.inr a0), some (.inl i1), some (.inl i2), some (.inl i3), some (.inr a4), some (.inl s0)]) (s2 := []) (M2 := M) c_60 rfl).trans (t_i ?_ ?_)
      · skip
        exact rfl
      · skip
        exact rfl
set_option maxRecDepth 20000 in
theorem e_60_28 (a0 : Nat) (i1 : Int32) (i2 : Int32) (i3 : Int32) (a4 : Nat) (i5 : Int32) (M : mM) : ev 60 28 [some (.inr a0), some (.inl i1), some (.inl i2), some (.inl i3), some (.inr a4), some (.inl i5)] [] M = if (a_rec M 7 [.inr a0] = true ∧ ([] : List mV).length ≤ 8) then (c_I (ev 77 0 [some (.inr a0)] [] M) fun v_2 M_1 => some (some (.inl v_2), M_1)) else none := by
  refine (ev_ns c_60 1 (ip' := 29) (ls' := [some (.inr a0), some (.inl i1), some (.inl i2), some (.inl i3), some (.inr a4), some (.inl i5)]) (st' := [.inr a0]) (M' := M) rfl).trans ?_
  refine (ev_gI (a_rec M 7 [.inr a0] = true ∧ ([] : List mV).length ≤ 8) (as := [.inr a0]) (rr := []) c_60 c_77 rfl).trans (t_i (t_cI ?_) rfl)
  intro v_2 M_1
  exact ev_d c_60 rfl
set_option maxRecDepth 20000 in
theorem e_60_31 (a0 : Nat) (i1 : Int32) (i2 : Int32) (i3 : Int32) (a4 : Nat) (i5 : Int32) (M : mM) : ev 60 31 [some (.inr a0), some (.inl i1), some (.inl i2), some (.inl i3), some (.inr a4), some (.inl i5)] [] M = if h_k M a4 = 5 then (if h_k (h_si M a4 4 2) a4 = 5 then (if h_k (h_si (h_si M a4 4 2) a4 6 i1) a4 = 5 then (if h_k (h_si (h_si (h_si M a4 4 2) a4 6 i1) a4 7 i2) a4 = 5 then (if (a_rec (h_si (h_si (h_si (h_si M a4 4 2) a4 6 i1) a4 7 i2) a4 8 i3) 7 [.inr a0, .inr a4, .inl 3, .inl i1, .inl i2, .inl i3] = true ∧ ([] : List mV).length ≤ 8) then (c_I (ev 78 0 [some (.inr a0), some (.inr a4), some (.inl 3), some (.inl i1), some (.inl i2), some (.inl i3), none] [] (h_si (h_si (h_si (h_si M a4 4 2) a4 6 i1) a4 7 i2) a4 8 i3)) fun v_2 M_1 => some (some (.inl v_2), M_1)) else none) else none) else none) else none) else none := by
  refine (ev_ns c_60 2 (ip' := 33) (ls' := [some (.inr a0), some (.inl i1), some (.inl i2), some (.inl i3), some (.inr a4), some (.inl i5)]) (st' := [.inl 2, .inr a4]) (M' := M) rfl).trans ?_
  refine (ev_g (h_k M a4 = 5) (ip' := 34) (ls' := [some (.inr a0), some (.inl i1), some (.inl i2), some (.inl i3), some (.inr a4), some (.inl i5)]) (st' := []) (M' := h_si M a4 4 2) c_60 rfl).trans (t_i ?_ rfl)
  refine (ev_ns c_60 2 (ip' := 36) (ls' := [some (.inr a0), some (.inl i1), some (.inl i2), some (.inl i3), some (.inr a4), some (.inl i5)]) (st' := [.inl i1, .inr a4]) (M' := h_si M a4 4 2) rfl).trans ?_
  refine (ev_g (h_k (h_si M a4 4 2) a4 = 5) (ip' := 37) (ls' := [some (.inr a0), some (.inl i1), some (.inl i2), some (.inl i3), some (.inr a4), some (.inl i5)]) (st' := []) (M' := h_si (h_si M a4 4 2) a4 6 i1) c_60 rfl).trans (t_i ?_ rfl)
  refine (ev_ns c_60 2 (ip' := 39) (ls' := [some (.inr a0), some (.inl i1), some (.inl i2), some (.inl i3), some (.inr a4), some (.inl i5)]) (st' := [.inl i2, .inr a4]) (M' := h_si (h_si M a4 4 2) a4 6 i1) rfl).trans ?_
  refine (ev_g (h_k (h_si (h_si M a4 4 2) a4 6 i1) a4 = 5) (ip' := 40) (ls' := [some (.inr a0), some (.inl i1), some (.inl i2), some (.inl i3), some (.inr a4), some (.inl i5)]) (st' := []) (M' := h_si (h_si (h_si M a4 4 2) a4 6 i1) a4 7 i2) c_60 rfl).trans (t_i ?_ rfl)
  refine (ev_ns c_60 2 (ip' := 42) (ls' := [some (.inr a0), some (.inl i1), some (.inl i2), some (.inl i3), some (.inr a4), some (.inl i5)]) (st' := [.inl i3, .inr a4]) (M' := h_si (h_si (h_si M a4 4 2) a4 6 i1) a4 7 i2) rfl).trans ?_
  refine (ev_g (h_k (h_si (h_si (h_si M a4 4 2) a4 6 i1) a4 7 i2) a4 = 5) (ip' := 43) (ls' := [some (.inr a0), some (.inl i1), some (.inl i2), some (.inl i3), some (.inr a4), some (.inl i5)]) (st' := []) (M' := h_si (h_si (h_si (h_si M a4 4 2) a4 6 i1) a4 7 i2) a4 8 i3) c_60 rfl).trans (t_i ?_ rfl)
  refine (ev_ns c_60 6 (ip' := 49) (ls' := [some (.inr a0), some (.inl i1), some (.inl i2), some (.inl i3), some (.inr a4), some (.inl i5)]) (st' := [.inl i3, .inl i2, .inl i1, .inl 3, .inr a4, .inr a0]) (M' := h_si (h_si (h_si (h_si M a4 4 2) a4 6 i1) a4 7 i2) a4 8 i3) rfl).trans ?_
  refine (ev_gI (a_rec (h_si (h_si (h_si (h_si M a4 4 2) a4 6 i1) a4 7 i2) a4 8 i3) 7 [.inr a0, .inr a4, .inl 3, .inl i1, .inl i2, .inl i3] = true ∧ ([] : List mV).length ≤ 8) (as := [.inr a0, .inr a4, .inl 3, .inl i1, .inl i2, .inl i3]) (rr := []) c_60 c_78 rfl).trans (t_i (t_cI ?_) rfl)
  intro v_2 M_1
  exact ev_d c_60 rfl
/- 61: GranuleHall.call(I)I -/
set_option maxRecDepth 20000 in
theorem e_61_0 (a0 : Nat) (i1 : Int32) (M : mM) : ev 61 0 [some (.inr a0), some (.inl i1), none, none, none, none] [] M = if h_k M a0 = 7 then (if (h_r M a0 3) = 0 then (if (a_rec M 7 [.inr a0, .inl 4] = true ∧ ([] : List mV).length ≤ 8) then (c_I (ev 75 0 [some (.inr a0), some (.inl 4)] [] M) fun v_2 M_1 => some (some (.inl v_2), M_1)) else none) else (if (a_rec M 0 [.inl i1] = true ∧ ([] : List mV).length ≤ 8) then (c_I (ev 84 0 [some (.inl i1)] [] M) fun v_4 M_3 => if v_4 = 0 then (if (a_rec M_3 7 [.inr a0] = true ∧ ([] : List mV).length ≤ 8) then (c_I (ev 77 0 [some (.inr a0)] [] M_3) fun v_6 M_5 => some (some (.inl v_6), M_5)) else none) else (if h_k M_3 (h_r M a0 3) = 5 then (if (a_rec M_3 0 [.inr (h_r M_3 (h_r M a0 3) 1), .inl i1] = true ∧ ([] : List mV).length ≤ 8) then (c_R (ev 95 0 [some (.inr (h_r M_3 (h_r M a0 3) 1)), some (.inl i1), none, none, none] [] M_3) fun u_8 M_7 => if u_8 = 0 then (if (a_rec M_7 7 [.inr a0, .inr (h_r M a0 3), .inl i1, .inl 0] = true ∧ ([] : List mV).length ≤ 8) then (c_I (ev 96 0 [some (.inr a0), some (.inr (h_r M a0 3)), some (.inl i1), some (.inl 0)] [] M_7) fun v_10 M_9 => some (some (.inl v_10), M_9)) else none) else (if h_k M_7 (h_r M a0 3) = 5 then (if h_k (h_si M_7 (h_r M a0 3) 4 1) (h_r M a0 3) = 5 then (if (a_rec (h_si (h_si M_7 (h_r M a0 3) 4 1) (h_r M a0 3) 5 i1) 7 [.inr a0, .inr (h_r M a0 3), .inl 2, .inl 0, .inl 0, .inl 0] = true ∧ ([] : List mV).length ≤ 8) then (c_I (ev 78 0 [some (.inr a0), some (.inr (h_r M a0 3)), some (.inl 2), some (.inl 0), some (.inl 0), some (.inl 0), none] [] (h_si (h_si M_7 (h_r M a0 3) 4 1) (h_r M a0 3) 5 i1)) fun v_12 M_11 => if (a_rec M_11 5 [.inr (h_r M a0 3)] = true ∧ ([] : List mV).length ≤ 8) then (c_R (ev 26 0 [some (.inr (h_r M a0 3))] [] M_11) fun u_14 M_13 => if u_14 = 0 then (ev 61 50 [some (.inr a0), some (.inl i1), some (.inr (h_r M a0 3)), some (.inr u_8), some (.inl v_12), some (.inr u_14)] [] M_13) else (if (a_rec M_13 0 [.inr u_8, .inr u_14] = true ∧ ([] : List mV).length ≤ 8) then (c_V (ev 94 0 [some (.inr u_8), some (.inr u_14)] [] M_13) fun M_15 => ev 61 50 [some (.inr a0), some (.inl i1), some (.inr (h_r M a0 3)), some (.inr u_8), some (.inl v_12), some (.inr u_14)] [] M_15) else none)) else none) else none) else none) else none)) else none) else none)) else none)) else none := by
  refine (ev_ns c_61 1 (ip' := 1) (ls' := [some (.inr a0), some (.inl i1), none, none, none, none]) (st' := [.inr a0]) (M' := M) rfl).trans ?_
  refine (ev_g (h_k M a0 = 7) (ip' := 2) (ls' := [some (.inr a0), some (.inl i1), none, none, none, none]) (st' := [.inr (h_r M a0 3)]) (M' := M) c_61 rfl).trans (t_i ?_ rfl)
  refine (ev_ns c_61 2 (ip' := 4) (ls' := [some (.inr a0), some (.inl i1), some (.inr (h_r M a0 3)), none, none, none]) (st' := [.inr (h_r M a0 3)]) (M' := M) rfl).trans ?_
  refine (ev_i ((h_r M a0 3) = 0) (i1 := 5) (l1 := [some (.inr a0), some (.inl i1), some (.inr (h_r M a0 3)), none, none, none]) (s1 := []) (M1 := M) (i2 := 9) (l2 := [some (.inr a0), some (.inl i1), some (.inr (h_r M a0 3)), none, none, none]) (s2 := []) (M2 := M) c_61 rfl).trans (t_i ?_ ?_)
  · skip
    refine (ev_ns c_61 2 (ip' := 7) (ls' := [some (.inr a0), some (.inl i1), some (.inr (h_r M a0 3)), none, none, none]) (st' := [.inl 4, .inr a0]) (M' := M) rfl).trans ?_
    refine (ev_gI (a_rec M 7 [.inr a0, .inl 4] = true ∧ ([] : List mV).length ≤ 8) (as := [.inr a0, .inl 4]) (rr := []) c_61 c_75 rfl).trans (t_i (t_cI ?_) rfl)
    intro v_2 M_1
    exact ev_d c_61 rfl
  · skip
    refine (ev_ns c_61 1 (ip' := 10) (ls' := [some (.inr a0), some (.inl i1), some (.inr (h_r M a0 3)), none, none, none]) (st' := [.inl i1]) (M' := M) rfl).trans ?_
    refine (ev_gI (a_rec M 0 [.inl i1] = true ∧ ([] : List mV).length ≤ 8) (as := [.inl i1]) (rr := []) c_61 c_84 rfl).trans (t_i (t_cI ?_) rfl)
    intro v_4 M_3
    refine (ev_i (v_4 = 0) (i1 := 12) (l1 := [some (.inr a0), some (.inl i1), some (.inr (h_r M a0 3)), none, none, none]) (s1 := []) (M1 := M_3) (i2 := 15) (l2 := [some (.inr a0), some (.inl i1), some (.inr (h_r M a0 3)), none, none, none]) (s2 := []) (M2 := M_3) c_61 rfl).trans (t_i ?_ ?_)
    · skip
      refine (ev_ns c_61 1 (ip' := 13) (ls' := [some (.inr a0), some (.inl i1), some (.inr (h_r M a0 3)), none, none, none]) (st' := [.inr a0]) (M' := M_3) rfl).trans ?_
      refine (ev_gI (a_rec M_3 7 [.inr a0] = true ∧ ([] : List mV).length ≤ 8) (as := [.inr a0]) (rr := []) c_61 c_77 rfl).trans (t_i (t_cI ?_) rfl)
      intro v_6 M_5
      exact ev_d c_61 rfl
    · skip
      refine (ev_ns c_61 1 (ip' := 16) (ls' := [some (.inr a0), some (.inl i1), some (.inr (h_r M a0 3)), none, none, none]) (st' := [.inr (h_r M a0 3)]) (M' := M_3) rfl).trans ?_
      refine (ev_g (h_k M_3 (h_r M a0 3) = 5) (ip' := 17) (ls' := [some (.inr a0), some (.inl i1), some (.inr (h_r M a0 3)), none, none, none]) (st' := [.inr (h_r M_3 (h_r M a0 3) 1)]) (M' := M_3) c_61 rfl).trans (t_i ?_ rfl)
      refine (ev_ns c_61 1 (ip' := 18) (ls' := [some (.inr a0), some (.inl i1), some (.inr (h_r M a0 3)), none, none, none]) (st' := [.inl i1, .inr (h_r M_3 (h_r M a0 3) 1)]) (M' := M_3) rfl).trans ?_
      refine (ev_gR (a_rec M_3 0 [.inr (h_r M_3 (h_r M a0 3) 1), .inl i1] = true ∧ ([] : List mV).length ≤ 8) (as := [.inr (h_r M_3 (h_r M a0 3) 1), .inl i1]) (rr := []) c_61 c_95 rfl).trans (t_i (t_cR ?_) rfl)
      intro u_8 M_7
      refine (ev_ns c_61 2 (ip' := 21) (ls' := [some (.inr a0), some (.inl i1), some (.inr (h_r M a0 3)), some (.inr u_8), none, none]) (st' := [.inr u_8]) (M' := M_7) rfl).trans ?_
      refine (ev_i (u_8 = 0) (i1 := 22) (l1 := [some (.inr a0), some (.inl i1), some (.inr (h_r M a0 3)), some (.inr u_8), none, none]) (s1 := []) (M1 := M_7) (i2 := 28) (l2 := [some (.inr a0), some (.inl i1), some (.inr (h_r M a0 3)), some (.inr u_8), none, none]) (s2 := []) (M2 := M_7) c_61 rfl).trans (t_i ?_ ?_)
      · skip
        refine (ev_ns c_61 4 (ip' := 26) (ls' := [some (.inr a0), some (.inl i1), some (.inr (h_r M a0 3)), some (.inr u_8), none, none]) (st' := [.inl 0, .inl i1, .inr (h_r M a0 3), .inr a0]) (M' := M_7) rfl).trans ?_
        refine (ev_gI (a_rec M_7 7 [.inr a0, .inr (h_r M a0 3), .inl i1, .inl 0] = true ∧ ([] : List mV).length ≤ 8) (as := [.inr a0, .inr (h_r M a0 3), .inl i1, .inl 0]) (rr := []) c_61 c_96 rfl).trans (t_i (t_cI ?_) rfl)
        intro v_10 M_9
        exact ev_d c_61 rfl
      · skip
        refine (ev_ns c_61 2 (ip' := 30) (ls' := [some (.inr a0), some (.inl i1), some (.inr (h_r M a0 3)), some (.inr u_8), none, none]) (st' := [.inl 1, .inr (h_r M a0 3)]) (M' := M_7) rfl).trans ?_
        refine (ev_g (h_k M_7 (h_r M a0 3) = 5) (ip' := 31) (ls' := [some (.inr a0), some (.inl i1), some (.inr (h_r M a0 3)), some (.inr u_8), none, none]) (st' := []) (M' := h_si M_7 (h_r M a0 3) 4 1) c_61 rfl).trans (t_i ?_ rfl)
        refine (ev_ns c_61 2 (ip' := 33) (ls' := [some (.inr a0), some (.inl i1), some (.inr (h_r M a0 3)), some (.inr u_8), none, none]) (st' := [.inl i1, .inr (h_r M a0 3)]) (M' := h_si M_7 (h_r M a0 3) 4 1) rfl).trans ?_
        refine (ev_g (h_k (h_si M_7 (h_r M a0 3) 4 1) (h_r M a0 3) = 5) (ip' := 34) (ls' := [some (.inr a0), some (.inl i1), some (.inr (h_r M a0 3)), some (.inr u_8), none, none]) (st' := []) (M' := h_si (h_si M_7 (h_r M a0 3) 4 1) (h_r M a0 3) 5 i1) c_61 rfl).trans (t_i ?_ rfl)
        refine (ev_ns c_61 6 (ip' := 40) (ls' := [some (.inr a0), some (.inl i1), some (.inr (h_r M a0 3)), some (.inr u_8), none, none]) (st' := [.inl 0, .inl 0, .inl 0, .inl 2, .inr (h_r M a0 3), .inr a0]) (M' := h_si (h_si M_7 (h_r M a0 3) 4 1) (h_r M a0 3) 5 i1) rfl).trans ?_
        refine (ev_gI (a_rec (h_si (h_si M_7 (h_r M a0 3) 4 1) (h_r M a0 3) 5 i1) 7 [.inr a0, .inr (h_r M a0 3), .inl 2, .inl 0, .inl 0, .inl 0] = true ∧ ([] : List mV).length ≤ 8) (as := [.inr a0, .inr (h_r M a0 3), .inl 2, .inl 0, .inl 0, .inl 0]) (rr := []) c_61 c_78 rfl).trans (t_i (t_cI ?_) rfl)
        intro v_12 M_11
        refine (ev_ns c_61 2 (ip' := 43) (ls' := [some (.inr a0), some (.inl i1), some (.inr (h_r M a0 3)), some (.inr u_8), some (.inl v_12), none]) (st' := [.inr (h_r M a0 3)]) (M' := M_11) rfl).trans ?_
        refine (ev_gR (a_rec M_11 5 [.inr (h_r M a0 3)] = true ∧ ([] : List mV).length ≤ 8) (as := [.inr (h_r M a0 3)]) (rr := []) c_61 c_26 rfl).trans (t_i (t_cR ?_) rfl)
        intro u_14 M_13
        refine (ev_ns c_61 2 (ip' := 46) (ls' := [some (.inr a0), some (.inl i1), some (.inr (h_r M a0 3)), some (.inr u_8), some (.inl v_12), some (.inr u_14)]) (st' := [.inr u_14]) (M' := M_13) rfl).trans ?_
        refine (ev_i (u_14 = 0) (i1 := 50) (l1 := [some (.inr a0), some (.inl i1), some (.inr (h_r M a0 3)), some (.inr u_8), some (.inl v_12), some (.inr u_14)]) (s1 := []) (M1 := M_13) (i2 := 47) (l2 := [some (.inr a0), some (.inl i1), some (.inr (h_r M a0 3)), some (.inr u_8), some (.inl v_12), some (.inr u_14)]) (s2 := []) (M2 := M_13) c_61 rfl).trans (t_i ?_ ?_)
        · skip
          exact rfl
        · skip
          refine (ev_ns c_61 2 (ip' := 49) (ls' := [some (.inr a0), some (.inl i1), some (.inr (h_r M a0 3)), some (.inr u_8), some (.inl v_12), some (.inr u_14)]) (st' := [.inr u_14, .inr u_8]) (M' := M_13) rfl).trans ?_
          refine (ev_gV (a_rec M_13 0 [.inr u_8, .inr u_14] = true ∧ ([] : List mV).length ≤ 8) (as := [.inr u_8, .inr u_14]) (rr := []) c_61 c_94 rfl).trans (t_i (t_cV ?_) rfl)
          intro M_15
          exact rfl
set_option maxRecDepth 20000 in
theorem e_61_50 (a0 : Nat) (i1 : Int32) (a2 : Nat) (a3 : Nat) (i4 : Int32) (a5 : Nat) (M : mM) : ev 61 50 [some (.inr a0), some (.inl i1), some (.inr a2), some (.inr a3), some (.inl i4), some (.inr a5)] [] M = some (some (.inl i4), M) := by
  refine (ev_ns c_61 1 (ip' := 51) (ls' := [some (.inr a0), some (.inl i1), some (.inr a2), some (.inr a3), some (.inl i4), some (.inr a5)]) (st' := [.inl i4]) (M' := M) rfl).trans ?_
  exact ev_d c_61 rfl
/- 62: GranuleHall.measure(I)I -/
set_option maxRecDepth 20000 in
theorem e_62_0 (a0 : Nat) (i1 : Int32) (M : mM) : ev 62 0 [some (.inr a0), some (.inl i1), none] [] M = if h_k M a0 = 7 then (if (h_r M a0 3) = 0 then (if (a_rec M 7 [.inr a0, .inl 4] = true ∧ ([] : List mV).length ≤ 8) then (c_I (ev 75 0 [some (.inr a0), some (.inl 4)] [] M) fun v_2 M_1 => some (some (.inl v_2), M_1)) else none) else (if (a_rec M 0 [.inl i1] = true ∧ ([] : List mV).length ≤ 8) then (c_I (ev 82 0 [some (.inl i1)] [] M) fun v_4 M_3 => if v_4 = 0 then (if (a_rec M_3 7 [.inr a0] = true ∧ ([] : List mV).length ≤ 8) then (c_I (ev 77 0 [some (.inr a0)] [] M_3) fun v_6 M_5 => some (some (.inl v_6), M_5)) else none) else (if h_k M_3 (h_r M a0 3) = 5 then (if h_k M_3 (h_r M_3 (h_r M a0 3) 1) = 4 then (if (h_k M_3 (h_r M_3 (h_r M_3 (h_r M a0 3) 1) 2) = 11 ∨ h_k M_3 (h_r M_3 (h_r M_3 (h_r M a0 3) 1) 2) = 12 ∨ h_k M_3 (h_r M_3 (h_r M_3 (h_r M a0 3) 1) 2) = 13) ∧ h_in i1 (h_l M_3 (h_r M_3 (h_r M_3 (h_r M a0 3) 1) 2)) then (if h_k M_3 (h_r M a0 3) = 5 then (if ((h_k M_3 (h_r M_3 (h_r M_3 (h_r M_3 (h_r M a0 3) 1) 2) (i1).toNatClampNeg) = 9 ∨ h_k M_3 (h_r M_3 (h_r M_3 (h_r M_3 (h_r M a0 3) 1) 2) (i1).toNatClampNeg) = 14) ∧ h_k M_3 (h_r M_3 (h_r M a0 3) 3) = 9) ∧ (¬ (0 : Int32) < 0 ∧ ¬ (0 : Int32) < 0 ∧ ¬ (8 : Int32) < 0) ∧ (0 + 8 ≤ h_l M_3 (h_r M_3 (h_r M_3 (h_r M_3 (h_r M a0 3) 1) 2) (i1).toNatClampNeg) ∧ 0 + 8 ≤ h_l M_3 (h_r M_3 (h_r M a0 3) 3)) ∧ ([] : List mV).length ≤ 8 then (if (a_rec (h_cp M_3 (h_r M_3 (h_r M_3 (h_r M_3 (h_r M a0 3) 1) 2) (i1).toNatClampNeg) 0 (h_r M_3 (h_r M a0 3) 3) 0 8) 7 [.inr a0, .inl 0] = true ∧ ([] : List mV).length ≤ 8) then (c_I (ev 73 0 [some (.inr a0), some (.inl 0)] [] (h_cp M_3 (h_r M_3 (h_r M_3 (h_r M_3 (h_r M a0 3) 1) 2) (i1).toNatClampNeg) 0 (h_r M_3 (h_r M a0 3) 3) 0 8)) fun v_8 M_7 => some (some (.inl v_8), M_7)) else none) else none) else none) else none) else none) else none)) else none)) else none := by
  refine (ev_ns c_62 1 (ip' := 1) (ls' := [some (.inr a0), some (.inl i1), none]) (st' := [.inr a0]) (M' := M) rfl).trans ?_
  refine (ev_g (h_k M a0 = 7) (ip' := 2) (ls' := [some (.inr a0), some (.inl i1), none]) (st' := [.inr (h_r M a0 3)]) (M' := M) c_62 rfl).trans (t_i ?_ rfl)
  refine (ev_ns c_62 2 (ip' := 4) (ls' := [some (.inr a0), some (.inl i1), some (.inr (h_r M a0 3))]) (st' := [.inr (h_r M a0 3)]) (M' := M) rfl).trans ?_
  refine (ev_i ((h_r M a0 3) = 0) (i1 := 5) (l1 := [some (.inr a0), some (.inl i1), some (.inr (h_r M a0 3))]) (s1 := []) (M1 := M) (i2 := 9) (l2 := [some (.inr a0), some (.inl i1), some (.inr (h_r M a0 3))]) (s2 := []) (M2 := M) c_62 rfl).trans (t_i ?_ ?_)
  · skip
    refine (ev_ns c_62 2 (ip' := 7) (ls' := [some (.inr a0), some (.inl i1), some (.inr (h_r M a0 3))]) (st' := [.inl 4, .inr a0]) (M' := M) rfl).trans ?_
    refine (ev_gI (a_rec M 7 [.inr a0, .inl 4] = true ∧ ([] : List mV).length ≤ 8) (as := [.inr a0, .inl 4]) (rr := []) c_62 c_75 rfl).trans (t_i (t_cI ?_) rfl)
    intro v_2 M_1
    exact ev_d c_62 rfl
  · skip
    refine (ev_ns c_62 1 (ip' := 10) (ls' := [some (.inr a0), some (.inl i1), some (.inr (h_r M a0 3))]) (st' := [.inl i1]) (M' := M) rfl).trans ?_
    refine (ev_gI (a_rec M 0 [.inl i1] = true ∧ ([] : List mV).length ≤ 8) (as := [.inl i1]) (rr := []) c_62 c_82 rfl).trans (t_i (t_cI ?_) rfl)
    intro v_4 M_3
    refine (ev_i (v_4 = 0) (i1 := 12) (l1 := [some (.inr a0), some (.inl i1), some (.inr (h_r M a0 3))]) (s1 := []) (M1 := M_3) (i2 := 15) (l2 := [some (.inr a0), some (.inl i1), some (.inr (h_r M a0 3))]) (s2 := []) (M2 := M_3) c_62 rfl).trans (t_i ?_ ?_)
    · skip
      refine (ev_ns c_62 1 (ip' := 13) (ls' := [some (.inr a0), some (.inl i1), some (.inr (h_r M a0 3))]) (st' := [.inr a0]) (M' := M_3) rfl).trans ?_
      refine (ev_gI (a_rec M_3 7 [.inr a0] = true ∧ ([] : List mV).length ≤ 8) (as := [.inr a0]) (rr := []) c_62 c_77 rfl).trans (t_i (t_cI ?_) rfl)
      intro v_6 M_5
      exact ev_d c_62 rfl
    · skip
      refine (ev_ns c_62 1 (ip' := 16) (ls' := [some (.inr a0), some (.inl i1), some (.inr (h_r M a0 3))]) (st' := [.inr (h_r M a0 3)]) (M' := M_3) rfl).trans ?_
      refine (ev_g (h_k M_3 (h_r M a0 3) = 5) (ip' := 17) (ls' := [some (.inr a0), some (.inl i1), some (.inr (h_r M a0 3))]) (st' := [.inr (h_r M_3 (h_r M a0 3) 1)]) (M' := M_3) c_62 rfl).trans (t_i ?_ rfl)
      refine (ev_g (h_k M_3 (h_r M_3 (h_r M a0 3) 1) = 4) (ip' := 18) (ls' := [some (.inr a0), some (.inl i1), some (.inr (h_r M a0 3))]) (st' := [.inr (h_r M_3 (h_r M_3 (h_r M a0 3) 1) 2)]) (M' := M_3) c_62 rfl).trans (t_i ?_ rfl)
      refine (ev_ns c_62 1 (ip' := 19) (ls' := [some (.inr a0), some (.inl i1), some (.inr (h_r M a0 3))]) (st' := [.inl i1, .inr (h_r M_3 (h_r M_3 (h_r M a0 3) 1) 2)]) (M' := M_3) rfl).trans ?_
      refine (ev_g ((h_k M_3 (h_r M_3 (h_r M_3 (h_r M a0 3) 1) 2) = 11 ∨ h_k M_3 (h_r M_3 (h_r M_3 (h_r M a0 3) 1) 2) = 12 ∨ h_k M_3 (h_r M_3 (h_r M_3 (h_r M a0 3) 1) 2) = 13) ∧ h_in i1 (h_l M_3 (h_r M_3 (h_r M_3 (h_r M a0 3) 1) 2))) (ip' := 20) (ls' := [some (.inr a0), some (.inl i1), some (.inr (h_r M a0 3))]) (st' := [.inr (h_r M_3 (h_r M_3 (h_r M_3 (h_r M a0 3) 1) 2) (i1).toNatClampNeg)]) (M' := M_3) c_62 rfl).trans (t_i ?_ rfl)
      refine (ev_ns c_62 2 (ip' := 22) (ls' := [some (.inr a0), some (.inl i1), some (.inr (h_r M a0 3))]) (st' := [.inr (h_r M a0 3), .inl 0, .inr (h_r M_3 (h_r M_3 (h_r M_3 (h_r M a0 3) 1) 2) (i1).toNatClampNeg)]) (M' := M_3) rfl).trans ?_
      refine (ev_g (h_k M_3 (h_r M a0 3) = 5) (ip' := 23) (ls' := [some (.inr a0), some (.inl i1), some (.inr (h_r M a0 3))]) (st' := [.inr (h_r M_3 (h_r M a0 3) 3), .inl 0, .inr (h_r M_3 (h_r M_3 (h_r M_3 (h_r M a0 3) 1) 2) (i1).toNatClampNeg)]) (M' := M_3) c_62 rfl).trans (t_i ?_ rfl)
      refine (ev_ns c_62 2 (ip' := 25) (ls' := [some (.inr a0), some (.inl i1), some (.inr (h_r M a0 3))]) (st' := [.inl 8, .inl 0, .inr (h_r M_3 (h_r M a0 3) 3), .inl 0, .inr (h_r M_3 (h_r M_3 (h_r M_3 (h_r M a0 3) 1) 2) (i1).toNatClampNeg)]) (M' := M_3) rfl).trans ?_
      refine (ev_g (((h_k M_3 (h_r M_3 (h_r M_3 (h_r M_3 (h_r M a0 3) 1) 2) (i1).toNatClampNeg) = 9 ∨ h_k M_3 (h_r M_3 (h_r M_3 (h_r M_3 (h_r M a0 3) 1) 2) (i1).toNatClampNeg) = 14) ∧ h_k M_3 (h_r M_3 (h_r M a0 3) 3) = 9) ∧ (¬ (0 : Int32) < 0 ∧ ¬ (0 : Int32) < 0 ∧ ¬ (8 : Int32) < 0) ∧ (0 + 8 ≤ h_l M_3 (h_r M_3 (h_r M_3 (h_r M_3 (h_r M a0 3) 1) 2) (i1).toNatClampNeg) ∧ 0 + 8 ≤ h_l M_3 (h_r M_3 (h_r M a0 3) 3)) ∧ ([] : List mV).length ≤ 8) (ip' := 26) (ls' := [some (.inr a0), some (.inl i1), some (.inr (h_r M a0 3))]) (st' := []) (M' := h_cp M_3 (h_r M_3 (h_r M_3 (h_r M_3 (h_r M a0 3) 1) 2) (i1).toNatClampNeg) 0 (h_r M_3 (h_r M a0 3) 3) 0 8) c_62 rfl).trans (t_i ?_ rfl)
      refine (ev_ns c_62 2 (ip' := 28) (ls' := [some (.inr a0), some (.inl i1), some (.inr (h_r M a0 3))]) (st' := [.inl 0, .inr a0]) (M' := h_cp M_3 (h_r M_3 (h_r M_3 (h_r M_3 (h_r M a0 3) 1) 2) (i1).toNatClampNeg) 0 (h_r M_3 (h_r M a0 3) 3) 0 8) rfl).trans ?_
      refine (ev_gI (a_rec (h_cp M_3 (h_r M_3 (h_r M_3 (h_r M_3 (h_r M a0 3) 1) 2) (i1).toNatClampNeg) 0 (h_r M_3 (h_r M a0 3) 3) 0 8) 7 [.inr a0, .inl 0] = true ∧ ([] : List mV).length ≤ 8) (as := [.inr a0, .inl 0]) (rr := []) c_62 c_73 rfl).trans (t_i (t_cI ?_) rfl)
      intro v_8 M_7
      exact ev_d c_62 rfl
/- 63: GranuleHall.extend(I)I -/
set_option maxRecDepth 20000 in
theorem e_63_0 (a0 : Nat) (i1 : Int32) (M : mM) : ev 63 0 [some (.inr a0), some (.inl i1), none, none] [] M = if h_k M a0 = 7 then (if (h_r M a0 3) = 0 then (if (a_rec M 7 [.inr a0, .inl 4] = true ∧ ([] : List mV).length ≤ 8) then (c_I (ev 75 0 [some (.inr a0), some (.inl 4)] [] M) fun v_2 M_1 => some (some (.inl v_2), M_1)) else none) else (if (a_rec M 0 [.inl i1] = true ∧ ([] : List mV).length ≤ 8) then (c_I (ev 82 0 [some (.inl i1)] [] M) fun v_4 M_3 => if v_4 = 0 then (ev 63 14 [some (.inr a0), some (.inl i1), some (.inr (h_r M a0 3)), none] [] M_3) else (if i1 = 0 then (ev 63 14 [some (.inr a0), some (.inl i1), some (.inr (h_r M a0 3)), none] [] M_3) else (if h_k M_3 (h_r M a0 3) = 5 then (if h_k M_3 (h_r M_3 (h_r M a0 3) 1) = 4 then (if (h_k M_3 (h_r M_3 (h_r M_3 (h_r M a0 3) 1) 2) = 11 ∨ h_k M_3 (h_r M_3 (h_r M_3 (h_r M a0 3) 1) 2) = 12 ∨ h_k M_3 (h_r M_3 (h_r M_3 (h_r M a0 3) 1) 2) = 13) ∧ h_in i1 (h_l M_3 (h_r M_3 (h_r M_3 (h_r M a0 3) 1) 2)) then (if h_k M_3 a0 = 7 then (if (a_rec M_3 1 [.inr (h_r M_3 a0 1), .inr (h_r M_3 (h_r M_3 (h_r M_3 (h_r M a0 3) 1) 2) (i1).toNatClampNeg)] = true ∧ ([] : List mV).length ≤ 8) then (c_V (ev 2 0 [some (.inr (h_r M_3 a0 1)), some (.inr (h_r M_3 (h_r M_3 (h_r M_3 (h_r M a0 3) 1) 2) (i1).toNatClampNeg))] [] M_3) fun M_5 => if h_k M_5 a0 = 7 then (if h_k M_5 (h_r M a0 3) = 5 then (if (a_rec M_5 1 [.inr (h_r M_5 a0 1), .inr (h_r M_5 (h_r M a0 3) 3), .inl 8] = true ∧ ([] : List mV).length ≤ 8) then (c_V (ev 4 0 [some (.inr (h_r M_5 a0 1)), some (.inr (h_r M_5 (h_r M a0 3) 3)), some (.inl 8), none] [] M_5) fun M_6 => if h_k M_6 a0 = 7 then (if (a_rec M_6 1 [.inr (h_r M_6 a0 1), .inr (h_r M_3 (h_r M_3 (h_r M_3 (h_r M a0 3) 1) 2) (i1).toNatClampNeg), .inl 0, .inl 8] = true ∧ ([] : List mV).length ≤ 8) then (c_V (ev 5 0 [some (.inr (h_r M_6 a0 1)), some (.inr (h_r M_3 (h_r M_3 (h_r M_3 (h_r M a0 3) 1) 2) (i1).toNatClampNeg)), some (.inl 0), some (.inl 8), none, none, none] [] M_6) fun M_7 => if (a_rec M_7 7 [.inr a0, .inl 0] = true ∧ ([] : List mV).length ≤ 8) then (c_I (ev 73 0 [some (.inr a0), some (.inl 0)] [] M_7) fun v_9 M_8 => some (some (.inl v_9), M_8)) else none) else none) else none) else none) else none) else none) else none) else none) else none) else none) else none))) else none)) else none := by
  refine (ev_ns c_63 1 (ip' := 1) (ls' := [some (.inr a0), some (.inl i1), none, none]) (st' := [.inr a0]) (M' := M) rfl).trans ?_
  refine (ev_g (h_k M a0 = 7) (ip' := 2) (ls' := [some (.inr a0), some (.inl i1), none, none]) (st' := [.inr (h_r M a0 3)]) (M' := M) c_63 rfl).trans (t_i ?_ rfl)
  refine (ev_ns c_63 2 (ip' := 4) (ls' := [some (.inr a0), some (.inl i1), some (.inr (h_r M a0 3)), none]) (st' := [.inr (h_r M a0 3)]) (M' := M) rfl).trans ?_
  refine (ev_i ((h_r M a0 3) = 0) (i1 := 5) (l1 := [some (.inr a0), some (.inl i1), some (.inr (h_r M a0 3)), none]) (s1 := []) (M1 := M) (i2 := 9) (l2 := [some (.inr a0), some (.inl i1), some (.inr (h_r M a0 3)), none]) (s2 := []) (M2 := M) c_63 rfl).trans (t_i ?_ ?_)
  · skip
    refine (ev_ns c_63 2 (ip' := 7) (ls' := [some (.inr a0), some (.inl i1), some (.inr (h_r M a0 3)), none]) (st' := [.inl 4, .inr a0]) (M' := M) rfl).trans ?_
    refine (ev_gI (a_rec M 7 [.inr a0, .inl 4] = true ∧ ([] : List mV).length ≤ 8) (as := [.inr a0, .inl 4]) (rr := []) c_63 c_75 rfl).trans (t_i (t_cI ?_) rfl)
    intro v_2 M_1
    exact ev_d c_63 rfl
  · skip
    refine (ev_ns c_63 1 (ip' := 10) (ls' := [some (.inr a0), some (.inl i1), some (.inr (h_r M a0 3)), none]) (st' := [.inl i1]) (M' := M) rfl).trans ?_
    refine (ev_gI (a_rec M 0 [.inl i1] = true ∧ ([] : List mV).length ≤ 8) (as := [.inl i1]) (rr := []) c_63 c_82 rfl).trans (t_i (t_cI ?_) rfl)
    intro v_4 M_3
    refine (ev_i (v_4 = 0) (i1 := 14) (l1 := [some (.inr a0), some (.inl i1), some (.inr (h_r M a0 3)), none]) (s1 := []) (M1 := M_3) (i2 := 12) (l2 := [some (.inr a0), some (.inl i1), some (.inr (h_r M a0 3)), none]) (s2 := []) (M2 := M_3) c_63 rfl).trans (t_i ?_ ?_)
    · skip
      exact rfl
    · skip
      refine (ev_ns c_63 1 (ip' := 13) (ls' := [some (.inr a0), some (.inl i1), some (.inr (h_r M a0 3)), none]) (st' := [.inl i1]) (M' := M_3) rfl).trans ?_
      refine (ev_i (i1 = 0) (i1 := 14) (l1 := [some (.inr a0), some (.inl i1), some (.inr (h_r M a0 3)), none]) (s1 := []) (M1 := M_3) (i2 := 17) (l2 := [some (.inr a0), some (.inl i1), some (.inr (h_r M a0 3)), none]) (s2 := []) (M2 := M_3) c_63 rfl).trans (t_i ?_ ?_)
      · skip
        exact rfl
      · skip
        refine (ev_ns c_63 1 (ip' := 18) (ls' := [some (.inr a0), some (.inl i1), some (.inr (h_r M a0 3)), none]) (st' := [.inr (h_r M a0 3)]) (M' := M_3) rfl).trans ?_
        refine (ev_g (h_k M_3 (h_r M a0 3) = 5) (ip' := 19) (ls' := [some (.inr a0), some (.inl i1), some (.inr (h_r M a0 3)), none]) (st' := [.inr (h_r M_3 (h_r M a0 3) 1)]) (M' := M_3) c_63 rfl).trans (t_i ?_ rfl)
        refine (ev_g (h_k M_3 (h_r M_3 (h_r M a0 3) 1) = 4) (ip' := 20) (ls' := [some (.inr a0), some (.inl i1), some (.inr (h_r M a0 3)), none]) (st' := [.inr (h_r M_3 (h_r M_3 (h_r M a0 3) 1) 2)]) (M' := M_3) c_63 rfl).trans (t_i ?_ rfl)
        refine (ev_ns c_63 1 (ip' := 21) (ls' := [some (.inr a0), some (.inl i1), some (.inr (h_r M a0 3)), none]) (st' := [.inl i1, .inr (h_r M_3 (h_r M_3 (h_r M a0 3) 1) 2)]) (M' := M_3) rfl).trans ?_
        refine (ev_g ((h_k M_3 (h_r M_3 (h_r M_3 (h_r M a0 3) 1) 2) = 11 ∨ h_k M_3 (h_r M_3 (h_r M_3 (h_r M a0 3) 1) 2) = 12 ∨ h_k M_3 (h_r M_3 (h_r M_3 (h_r M a0 3) 1) 2) = 13) ∧ h_in i1 (h_l M_3 (h_r M_3 (h_r M_3 (h_r M a0 3) 1) 2))) (ip' := 22) (ls' := [some (.inr a0), some (.inl i1), some (.inr (h_r M a0 3)), none]) (st' := [.inr (h_r M_3 (h_r M_3 (h_r M_3 (h_r M a0 3) 1) 2) (i1).toNatClampNeg)]) (M' := M_3) c_63 rfl).trans (t_i ?_ rfl)
        refine (ev_ns c_63 2 (ip' := 24) (ls' := [some (.inr a0), some (.inl i1), some (.inr (h_r M a0 3)), some (.inr (h_r M_3 (h_r M_3 (h_r M_3 (h_r M a0 3) 1) 2) (i1).toNatClampNeg))]) (st' := [.inr a0]) (M' := M_3) rfl).trans ?_
        refine (ev_g (h_k M_3 a0 = 7) (ip' := 25) (ls' := [some (.inr a0), some (.inl i1), some (.inr (h_r M a0 3)), some (.inr (h_r M_3 (h_r M_3 (h_r M_3 (h_r M a0 3) 1) 2) (i1).toNatClampNeg))]) (st' := [.inr (h_r M_3 a0 1)]) (M' := M_3) c_63 rfl).trans (t_i ?_ rfl)
        refine (ev_ns c_63 1 (ip' := 26) (ls' := [some (.inr a0), some (.inl i1), some (.inr (h_r M a0 3)), some (.inr (h_r M_3 (h_r M_3 (h_r M_3 (h_r M a0 3) 1) 2) (i1).toNatClampNeg))]) (st' := [.inr (h_r M_3 (h_r M_3 (h_r M_3 (h_r M a0 3) 1) 2) (i1).toNatClampNeg), .inr (h_r M_3 a0 1)]) (M' := M_3) rfl).trans ?_
        refine (ev_gV (a_rec M_3 1 [.inr (h_r M_3 a0 1), .inr (h_r M_3 (h_r M_3 (h_r M_3 (h_r M a0 3) 1) 2) (i1).toNatClampNeg)] = true ∧ ([] : List mV).length ≤ 8) (as := [.inr (h_r M_3 a0 1), .inr (h_r M_3 (h_r M_3 (h_r M_3 (h_r M a0 3) 1) 2) (i1).toNatClampNeg)]) (rr := []) c_63 c_2 rfl).trans (t_i (t_cV ?_) rfl)
        intro M_5
        refine (ev_ns c_63 1 (ip' := 28) (ls' := [some (.inr a0), some (.inl i1), some (.inr (h_r M a0 3)), some (.inr (h_r M_3 (h_r M_3 (h_r M_3 (h_r M a0 3) 1) 2) (i1).toNatClampNeg))]) (st' := [.inr a0]) (M' := M_5) rfl).trans ?_
        refine (ev_g (h_k M_5 a0 = 7) (ip' := 29) (ls' := [some (.inr a0), some (.inl i1), some (.inr (h_r M a0 3)), some (.inr (h_r M_3 (h_r M_3 (h_r M_3 (h_r M a0 3) 1) 2) (i1).toNatClampNeg))]) (st' := [.inr (h_r M_5 a0 1)]) (M' := M_5) c_63 rfl).trans (t_i ?_ rfl)
        refine (ev_ns c_63 1 (ip' := 30) (ls' := [some (.inr a0), some (.inl i1), some (.inr (h_r M a0 3)), some (.inr (h_r M_3 (h_r M_3 (h_r M_3 (h_r M a0 3) 1) 2) (i1).toNatClampNeg))]) (st' := [.inr (h_r M a0 3), .inr (h_r M_5 a0 1)]) (M' := M_5) rfl).trans ?_
        refine (ev_g (h_k M_5 (h_r M a0 3) = 5) (ip' := 31) (ls' := [some (.inr a0), some (.inl i1), some (.inr (h_r M a0 3)), some (.inr (h_r M_3 (h_r M_3 (h_r M_3 (h_r M a0 3) 1) 2) (i1).toNatClampNeg))]) (st' := [.inr (h_r M_5 (h_r M a0 3) 3), .inr (h_r M_5 a0 1)]) (M' := M_5) c_63 rfl).trans (t_i ?_ rfl)
        refine (ev_ns c_63 1 (ip' := 32) (ls' := [some (.inr a0), some (.inl i1), some (.inr (h_r M a0 3)), some (.inr (h_r M_3 (h_r M_3 (h_r M_3 (h_r M a0 3) 1) 2) (i1).toNatClampNeg))]) (st' := [.inl 8, .inr (h_r M_5 (h_r M a0 3) 3), .inr (h_r M_5 a0 1)]) (M' := M_5) rfl).trans ?_
        refine (ev_gV (a_rec M_5 1 [.inr (h_r M_5 a0 1), .inr (h_r M_5 (h_r M a0 3) 3), .inl 8] = true ∧ ([] : List mV).length ≤ 8) (as := [.inr (h_r M_5 a0 1), .inr (h_r M_5 (h_r M a0 3) 3), .inl 8]) (rr := []) c_63 c_4 rfl).trans (t_i (t_cV ?_) rfl)
        intro M_6
        refine (ev_ns c_63 1 (ip' := 34) (ls' := [some (.inr a0), some (.inl i1), some (.inr (h_r M a0 3)), some (.inr (h_r M_3 (h_r M_3 (h_r M_3 (h_r M a0 3) 1) 2) (i1).toNatClampNeg))]) (st' := [.inr a0]) (M' := M_6) rfl).trans ?_
        refine (ev_g (h_k M_6 a0 = 7) (ip' := 35) (ls' := [some (.inr a0), some (.inl i1), some (.inr (h_r M a0 3)), some (.inr (h_r M_3 (h_r M_3 (h_r M_3 (h_r M a0 3) 1) 2) (i1).toNatClampNeg))]) (st' := [.inr (h_r M_6 a0 1)]) (M' := M_6) c_63 rfl).trans (t_i ?_ rfl)
        refine (ev_ns c_63 3 (ip' := 38) (ls' := [some (.inr a0), some (.inl i1), some (.inr (h_r M a0 3)), some (.inr (h_r M_3 (h_r M_3 (h_r M_3 (h_r M a0 3) 1) 2) (i1).toNatClampNeg))]) (st' := [.inl 8, .inl 0, .inr (h_r M_3 (h_r M_3 (h_r M_3 (h_r M a0 3) 1) 2) (i1).toNatClampNeg), .inr (h_r M_6 a0 1)]) (M' := M_6) rfl).trans ?_
        refine (ev_gV (a_rec M_6 1 [.inr (h_r M_6 a0 1), .inr (h_r M_3 (h_r M_3 (h_r M_3 (h_r M a0 3) 1) 2) (i1).toNatClampNeg), .inl 0, .inl 8] = true ∧ ([] : List mV).length ≤ 8) (as := [.inr (h_r M_6 a0 1), .inr (h_r M_3 (h_r M_3 (h_r M_3 (h_r M a0 3) 1) 2) (i1).toNatClampNeg), .inl 0, .inl 8]) (rr := []) c_63 c_5 rfl).trans (t_i (t_cV ?_) rfl)
        intro M_7
        refine (ev_ns c_63 2 (ip' := 41) (ls' := [some (.inr a0), some (.inl i1), some (.inr (h_r M a0 3)), some (.inr (h_r M_3 (h_r M_3 (h_r M_3 (h_r M a0 3) 1) 2) (i1).toNatClampNeg))]) (st' := [.inl 0, .inr a0]) (M' := M_7) rfl).trans ?_
        refine (ev_gI (a_rec M_7 7 [.inr a0, .inl 0] = true ∧ ([] : List mV).length ≤ 8) (as := [.inr a0, .inl 0]) (rr := []) c_63 c_73 rfl).trans (t_i (t_cI ?_) rfl)
        intro v_9 M_8
        exact ev_d c_63 rfl
set_option maxRecDepth 20000 in
theorem e_63_14 (a0 : Nat) (i1 : Int32) (a2 : Nat) (M : mM) : ev 63 14 [some (.inr a0), some (.inl i1), some (.inr a2), none] [] M = if (a_rec M 7 [.inr a0] = true ∧ ([] : List mV).length ≤ 8) then (c_I (ev 77 0 [some (.inr a0)] [] M) fun v_2 M_1 => some (some (.inl v_2), M_1)) else none := by
  refine (ev_ns c_63 1 (ip' := 15) (ls' := [some (.inr a0), some (.inl i1), some (.inr a2), none]) (st' := [.inr a0]) (M' := M) rfl).trans ?_
  refine (ev_gI (a_rec M 7 [.inr a0] = true ∧ ([] : List mV).length ≤ 8) (as := [.inr a0]) (rr := []) c_63 c_77 rfl).trans (t_i (t_cI ?_) rfl)
  intro v_2 M_1
  exact ev_d c_63 rfl
/- 64: GranuleHall.attest(I)I -/
set_option maxRecDepth 20000 in
theorem e_64_0 (a0 : Nat) (i1 : Int32) (M : mM) : ev 64 0 [some (.inr a0), some (.inl i1), none, none] [] M = if h_k M a0 = 7 then (if (h_r M a0 3) = 0 then (if (a_rec M 7 [.inr a0, .inl 4] = true ∧ ([] : List mV).length ≤ 8) then (c_I (ev 75 0 [some (.inr a0), some (.inl 4)] [] M) fun v_2 M_1 => some (some (.inl v_2), M_1)) else none) else (if (a_rec M 0 [.inl i1] = true ∧ ([] : List mV).length ≤ 8) then (c_I (ev 84 0 [some (.inl i1)] [] M) fun v_4 M_3 => if v_4 = 0 then (if (a_rec M_3 7 [.inr a0] = true ∧ ([] : List mV).length ≤ 8) then (c_I (ev 77 0 [some (.inr a0)] [] M_3) fun v_6 M_5 => some (some (.inl v_6), M_5)) else none) else (if h_k M_3 (h_r M a0 3) = 5 then (if (a_rec M_3 0 [.inr (h_r M_3 (h_r M a0 3) 1), .inl i1] = true ∧ ([] : List mV).length ≤ 8) then (c_R (ev 95 0 [some (.inr (h_r M_3 (h_r M a0 3) 1)), some (.inl i1), none, none, none] [] M_3) fun u_8 M_7 => if u_8 = 0 then (if (a_rec M_7 7 [.inr a0, .inr (h_r M a0 3), .inl i1, .inl 1] = true ∧ ([] : List mV).length ≤ 8) then (c_I (ev 96 0 [some (.inr a0), some (.inr (h_r M a0 3)), some (.inl i1), some (.inl 1)] [] M_7) fun v_10 M_9 => some (some (.inl v_10), M_9)) else none) else (if h_k M_7 u_8 = 3 then (if (a_rec M_7 7 [.inr a0, .inr (h_r M a0 3), .inr (h_r M_7 u_8 1)] = true ∧ ([] : List mV).length ≤ 8) then (c_V (ev 97 0 [some (.inr a0), some (.inr (h_r M a0 3)), some (.inr (h_r M_7 u_8 1)), none, none] [] M_7) fun M_11 => if (a_rec M_11 7 [.inr a0, .inl 0] = true ∧ ([] : List mV).length ≤ 8) then (c_I (ev 73 0 [some (.inr a0), some (.inl 0)] [] M_11) fun v_13 M_12 => some (some (.inl v_13), M_12)) else none) else none) else none)) else none) else none)) else none)) else none := by
  refine (ev_ns c_64 1 (ip' := 1) (ls' := [some (.inr a0), some (.inl i1), none, none]) (st' := [.inr a0]) (M' := M) rfl).trans ?_
  refine (ev_g (h_k M a0 = 7) (ip' := 2) (ls' := [some (.inr a0), some (.inl i1), none, none]) (st' := [.inr (h_r M a0 3)]) (M' := M) c_64 rfl).trans (t_i ?_ rfl)
  refine (ev_ns c_64 2 (ip' := 4) (ls' := [some (.inr a0), some (.inl i1), some (.inr (h_r M a0 3)), none]) (st' := [.inr (h_r M a0 3)]) (M' := M) rfl).trans ?_
  refine (ev_i ((h_r M a0 3) = 0) (i1 := 5) (l1 := [some (.inr a0), some (.inl i1), some (.inr (h_r M a0 3)), none]) (s1 := []) (M1 := M) (i2 := 9) (l2 := [some (.inr a0), some (.inl i1), some (.inr (h_r M a0 3)), none]) (s2 := []) (M2 := M) c_64 rfl).trans (t_i ?_ ?_)
  · skip
    refine (ev_ns c_64 2 (ip' := 7) (ls' := [some (.inr a0), some (.inl i1), some (.inr (h_r M a0 3)), none]) (st' := [.inl 4, .inr a0]) (M' := M) rfl).trans ?_
    refine (ev_gI (a_rec M 7 [.inr a0, .inl 4] = true ∧ ([] : List mV).length ≤ 8) (as := [.inr a0, .inl 4]) (rr := []) c_64 c_75 rfl).trans (t_i (t_cI ?_) rfl)
    intro v_2 M_1
    exact ev_d c_64 rfl
  · skip
    refine (ev_ns c_64 1 (ip' := 10) (ls' := [some (.inr a0), some (.inl i1), some (.inr (h_r M a0 3)), none]) (st' := [.inl i1]) (M' := M) rfl).trans ?_
    refine (ev_gI (a_rec M 0 [.inl i1] = true ∧ ([] : List mV).length ≤ 8) (as := [.inl i1]) (rr := []) c_64 c_84 rfl).trans (t_i (t_cI ?_) rfl)
    intro v_4 M_3
    refine (ev_i (v_4 = 0) (i1 := 12) (l1 := [some (.inr a0), some (.inl i1), some (.inr (h_r M a0 3)), none]) (s1 := []) (M1 := M_3) (i2 := 15) (l2 := [some (.inr a0), some (.inl i1), some (.inr (h_r M a0 3)), none]) (s2 := []) (M2 := M_3) c_64 rfl).trans (t_i ?_ ?_)
    · skip
      refine (ev_ns c_64 1 (ip' := 13) (ls' := [some (.inr a0), some (.inl i1), some (.inr (h_r M a0 3)), none]) (st' := [.inr a0]) (M' := M_3) rfl).trans ?_
      refine (ev_gI (a_rec M_3 7 [.inr a0] = true ∧ ([] : List mV).length ≤ 8) (as := [.inr a0]) (rr := []) c_64 c_77 rfl).trans (t_i (t_cI ?_) rfl)
      intro v_6 M_5
      exact ev_d c_64 rfl
    · skip
      refine (ev_ns c_64 1 (ip' := 16) (ls' := [some (.inr a0), some (.inl i1), some (.inr (h_r M a0 3)), none]) (st' := [.inr (h_r M a0 3)]) (M' := M_3) rfl).trans ?_
      refine (ev_g (h_k M_3 (h_r M a0 3) = 5) (ip' := 17) (ls' := [some (.inr a0), some (.inl i1), some (.inr (h_r M a0 3)), none]) (st' := [.inr (h_r M_3 (h_r M a0 3) 1)]) (M' := M_3) c_64 rfl).trans (t_i ?_ rfl)
      refine (ev_ns c_64 1 (ip' := 18) (ls' := [some (.inr a0), some (.inl i1), some (.inr (h_r M a0 3)), none]) (st' := [.inl i1, .inr (h_r M_3 (h_r M a0 3) 1)]) (M' := M_3) rfl).trans ?_
      refine (ev_gR (a_rec M_3 0 [.inr (h_r M_3 (h_r M a0 3) 1), .inl i1] = true ∧ ([] : List mV).length ≤ 8) (as := [.inr (h_r M_3 (h_r M a0 3) 1), .inl i1]) (rr := []) c_64 c_95 rfl).trans (t_i (t_cR ?_) rfl)
      intro u_8 M_7
      refine (ev_ns c_64 2 (ip' := 21) (ls' := [some (.inr a0), some (.inl i1), some (.inr (h_r M a0 3)), some (.inr u_8)]) (st' := [.inr u_8]) (M' := M_7) rfl).trans ?_
      refine (ev_i (u_8 = 0) (i1 := 22) (l1 := [some (.inr a0), some (.inl i1), some (.inr (h_r M a0 3)), some (.inr u_8)]) (s1 := []) (M1 := M_7) (i2 := 28) (l2 := [some (.inr a0), some (.inl i1), some (.inr (h_r M a0 3)), some (.inr u_8)]) (s2 := []) (M2 := M_7) c_64 rfl).trans (t_i ?_ ?_)
      · skip
        refine (ev_ns c_64 4 (ip' := 26) (ls' := [some (.inr a0), some (.inl i1), some (.inr (h_r M a0 3)), some (.inr u_8)]) (st' := [.inl 1, .inl i1, .inr (h_r M a0 3), .inr a0]) (M' := M_7) rfl).trans ?_
        refine (ev_gI (a_rec M_7 7 [.inr a0, .inr (h_r M a0 3), .inl i1, .inl 1] = true ∧ ([] : List mV).length ≤ 8) (as := [.inr a0, .inr (h_r M a0 3), .inl i1, .inl 1]) (rr := []) c_64 c_96 rfl).trans (t_i (t_cI ?_) rfl)
        intro v_10 M_9
        exact ev_d c_64 rfl
      · skip
        refine (ev_ns c_64 3 (ip' := 31) (ls' := [some (.inr a0), some (.inl i1), some (.inr (h_r M a0 3)), some (.inr u_8)]) (st' := [.inr u_8, .inr (h_r M a0 3), .inr a0]) (M' := M_7) rfl).trans ?_
        refine (ev_g (h_k M_7 u_8 = 3) (ip' := 32) (ls' := [some (.inr a0), some (.inl i1), some (.inr (h_r M a0 3)), some (.inr u_8)]) (st' := [.inr (h_r M_7 u_8 1), .inr (h_r M a0 3), .inr a0]) (M' := M_7) c_64 rfl).trans (t_i ?_ rfl)
        refine (ev_gV (a_rec M_7 7 [.inr a0, .inr (h_r M a0 3), .inr (h_r M_7 u_8 1)] = true ∧ ([] : List mV).length ≤ 8) (as := [.inr a0, .inr (h_r M a0 3), .inr (h_r M_7 u_8 1)]) (rr := []) c_64 c_97 rfl).trans (t_i (t_cV ?_) rfl)
        intro M_11
        refine (ev_ns c_64 2 (ip' := 35) (ls' := [some (.inr a0), some (.inl i1), some (.inr (h_r M a0 3)), some (.inr u_8)]) (st' := [.inl 0, .inr a0]) (M' := M_11) rfl).trans ?_
        refine (ev_gI (a_rec M_11 7 [.inr a0, .inl 0] = true ∧ ([] : List mV).length ≤ 8) (as := [.inr a0, .inl 0]) (rr := []) c_64 c_73 rfl).trans (t_i (t_cI ?_) rfl)
        intro v_13 M_12
        exact ev_d c_64 rfl
/- 65: GranuleHall.granule(II)I -/
set_option maxRecDepth 20000 in
theorem e_65_0 (a0 : Nat) (i1 : Int32) (i2 : Int32) (M : mM) : ev 65 0 [some (.inr a0), some (.inl i1), some (.inl i2), none] [] M = if (a_rec M 7 [.inr a0, .inl i1] = true ∧ ([] : List mV).length ≤ 8) then (c_R (ev 79 0 [some (.inr a0), some (.inl i1)] [] M) fun u_2 M_1 => if u_2 = 0 then (some (some (.inl (-1)), M_1)) else (if (i2 : Int32) = 0 then (if h_k M_1 u_2 = 3 then (some (some (.inl (h_i M_1 u_2 2)), M_1)) else none) else (if (i2 : Int32) = 1 then (if h_k M_1 u_2 = 3 then (if (h_r M_1 u_2 3) = 0 then (ev 65 22 [some (.inr a0), some (.inl i1), some (.inl i2), some (.inr u_2)] [.inl (-1)] M_1) else (if h_k M_1 u_2 = 3 then (if h_k M_1 (h_r M_1 u_2 3) = 4 then (if h_k M_1 (h_r M_1 (h_r M_1 u_2 3) 0) = 3 then (ev 65 22 [some (.inr a0), some (.inl i1), some (.inl i2), some (.inr u_2)] [.inl (h_i M_1 (h_r M_1 (h_r M_1 u_2 3) 0) 0)] M_1) else none) else none) else none)) else none) else (if (i2 : Int32) = 2 then (if h_k M_1 u_2 = 3 then (some (some (.inl (h_i M_1 u_2 4)), M_1)) else none) else (some (some (.inl (-1)), M_1)))))) else none := by
  refine (ev_ns c_65 2 (ip' := 2) (ls' := [some (.inr a0), some (.inl i1), some (.inl i2), none]) (st' := [.inl i1, .inr a0]) (M' := M) rfl).trans ?_
  refine (ev_gR (a_rec M 7 [.inr a0, .inl i1] = true ∧ ([] : List mV).length ≤ 8) (as := [.inr a0, .inl i1]) (rr := []) c_65 c_79 rfl).trans (t_i (t_cR ?_) rfl)
  intro u_2 M_1
  refine (ev_ns c_65 2 (ip' := 5) (ls' := [some (.inr a0), some (.inl i1), some (.inl i2), some (.inr u_2)]) (st' := [.inr u_2]) (M' := M_1) rfl).trans ?_
  refine (ev_i (u_2 = 0) (i1 := 6) (l1 := [some (.inr a0), some (.inl i1), some (.inl i2), some (.inr u_2)]) (s1 := []) (M1 := M_1) (i2 := 8) (l2 := [some (.inr a0), some (.inl i1), some (.inl i2), some (.inr u_2)]) (s2 := []) (M2 := M_1) c_65 rfl).trans (t_i ?_ ?_)
  · skip
    refine (ev_ns c_65 1 (ip' := 7) (ls' := [some (.inr a0), some (.inl i1), some (.inl i2), some (.inr u_2)]) (st' := [.inl (-1)]) (M' := M_1) rfl).trans ?_
    exact ev_d c_65 rfl
  · skip
    refine (ev_ns c_65 1 (ip' := 9) (ls' := [some (.inr a0), some (.inl i1), some (.inl i2), some (.inr u_2)]) (st' := [.inl i2]) (M' := M_1) rfl).trans ?_
    refine (ev_sw c_65 (x := i2) (ls := [some (.inr a0), some (.inl i1), some (.inl i2), some (.inr u_2)]) (r := []) (M := M_1) (d := 26) (ts := [10, 13, 23]) rfl).trans ?_
    refine t_i ?_ ?_
    · skip
      refine (ev_ns c_65 1 (ip' := 11) (ls' := [some (.inr a0), some (.inl i1), some (.inl i2), some (.inr u_2)]) (st' := [.inr u_2]) (M' := M_1) rfl).trans ?_
      refine (ev_g (h_k M_1 u_2 = 3) (ip' := 12) (ls' := [some (.inr a0), some (.inl i1), some (.inl i2), some (.inr u_2)]) (st' := [.inl (h_i M_1 u_2 2)]) (M' := M_1) c_65 rfl).trans (t_i ?_ rfl)
      exact ev_d c_65 rfl
    refine t_i ?_ ?_
    · skip
      refine (ev_ns c_65 1 (ip' := 14) (ls' := [some (.inr a0), some (.inl i1), some (.inl i2), some (.inr u_2)]) (st' := [.inr u_2]) (M' := M_1) rfl).trans ?_
      refine (ev_g (h_k M_1 u_2 = 3) (ip' := 15) (ls' := [some (.inr a0), some (.inl i1), some (.inl i2), some (.inr u_2)]) (st' := [.inr (h_r M_1 u_2 3)]) (M' := M_1) c_65 rfl).trans (t_i ?_ rfl)
      refine (ev_i ((h_r M_1 u_2 3) = 0) (i1 := 16) (l1 := [some (.inr a0), some (.inl i1), some (.inl i2), some (.inr u_2)]) (s1 := []) (M1 := M_1) (i2 := 18) (l2 := [some (.inr a0), some (.inl i1), some (.inl i2), some (.inr u_2)]) (s2 := []) (M2 := M_1) c_65 rfl).trans (t_i ?_ ?_)
      · skip
        exact ev_ns c_65 2 (ip' := 22) (ls' := [some (.inr a0), some (.inl i1), some (.inl i2), some (.inr u_2)]) (st' := [.inl (-1)]) (M' := M_1) rfl
      · skip
        refine (ev_ns c_65 1 (ip' := 19) (ls' := [some (.inr a0), some (.inl i1), some (.inl i2), some (.inr u_2)]) (st' := [.inr u_2]) (M' := M_1) rfl).trans ?_
        refine (ev_g (h_k M_1 u_2 = 3) (ip' := 20) (ls' := [some (.inr a0), some (.inl i1), some (.inl i2), some (.inr u_2)]) (st' := [.inr (h_r M_1 u_2 3)]) (M' := M_1) c_65 rfl).trans (t_i ?_ rfl)
        refine (ev_g (h_k M_1 (h_r M_1 u_2 3) = 4) (ip' := 21) (ls' := [some (.inr a0), some (.inl i1), some (.inl i2), some (.inr u_2)]) (st' := [.inr (h_r M_1 (h_r M_1 u_2 3) 0)]) (M' := M_1) c_65 rfl).trans (t_i ?_ rfl)
        refine (ev_g (h_k M_1 (h_r M_1 (h_r M_1 u_2 3) 0) = 3) (ip' := 22) (ls' := [some (.inr a0), some (.inl i1), some (.inl i2), some (.inr u_2)]) (st' := [.inl (h_i M_1 (h_r M_1 (h_r M_1 u_2 3) 0) 0)]) (M' := M_1) c_65 rfl).trans (t_i ?_ rfl)
        exact rfl
    refine t_i ?_ ?_
    · skip
      refine (ev_ns c_65 1 (ip' := 24) (ls' := [some (.inr a0), some (.inl i1), some (.inl i2), some (.inr u_2)]) (st' := [.inr u_2]) (M' := M_1) rfl).trans ?_
      refine (ev_g (h_k M_1 u_2 = 3) (ip' := 25) (ls' := [some (.inr a0), some (.inl i1), some (.inl i2), some (.inr u_2)]) (st' := [.inl (h_i M_1 u_2 4)]) (M' := M_1) c_65 rfl).trans (t_i ?_ rfl)
      exact ev_d c_65 rfl
    refine (ev_ns c_65 1 (ip' := 27) (ls' := [some (.inr a0), some (.inl i1), some (.inl i2), some (.inr u_2)]) (st' := [.inl (-1)]) (M' := M_1) rfl).trans ?_
    exact ev_d c_65 rfl
set_option maxRecDepth 20000 in
theorem e_65_22 (a0 : Nat) (i1 : Int32) (i2 : Int32) (a3 : Nat) (s0 : Int32) (M : mM) : ev 65 22 [some (.inr a0), some (.inl i1), some (.inl i2), some (.inr a3)] [.inl s0] M = some (some (.inl s0), M) := by
  exact ev_d c_65 rfl
/- 66: GranuleHall.realm(II)I -/
set_option maxRecDepth 20000 in
theorem e_66_0 (a0 : Nat) (i1 : Int32) (i2 : Int32) (M : mM) : ev 66 0 [some (.inr a0), some (.inl i1), some (.inl i2), none, none] [] M = if (a_rec M 7 [.inr a0, .inl i1] = true ∧ ([] : List mV).length ≤ 8) then (c_R (ev 79 0 [some (.inr a0), some (.inl i1)] [] M) fun u_2 M_1 => if u_2 = 0 then (ev 66 10 [some (.inr a0), some (.inl i1), some (.inl i2), some (.inr u_2), none] [.inr 0] M_1) else (if (a_rec M_1 3 [.inr u_2] = true ∧ ([] : List mV).length ≤ 8) then (c_R (ev 20 0 [some (.inr u_2)] [] M_1) fun u_4 M_3 => ev 66 10 [some (.inr a0), some (.inl i1), some (.inl i2), some (.inr u_2), none] [.inr u_4] M_3) else none)) else none := by
  refine (ev_ns c_66 2 (ip' := 2) (ls' := [some (.inr a0), some (.inl i1), some (.inl i2), none, none]) (st' := [.inl i1, .inr a0]) (M' := M) rfl).trans ?_
  refine (ev_gR (a_rec M 7 [.inr a0, .inl i1] = true ∧ ([] : List mV).length ≤ 8) (as := [.inr a0, .inl i1]) (rr := []) c_66 c_79 rfl).trans (t_i (t_cR ?_) rfl)
  intro u_2 M_1
  refine (ev_ns c_66 2 (ip' := 5) (ls' := [some (.inr a0), some (.inl i1), some (.inl i2), some (.inr u_2), none]) (st' := [.inr u_2]) (M' := M_1) rfl).trans ?_
  refine (ev_i (u_2 = 0) (i1 := 6) (l1 := [some (.inr a0), some (.inl i1), some (.inl i2), some (.inr u_2), none]) (s1 := []) (M1 := M_1) (i2 := 8) (l2 := [some (.inr a0), some (.inl i1), some (.inl i2), some (.inr u_2), none]) (s2 := []) (M2 := M_1) c_66 rfl).trans (t_i ?_ ?_)
  · skip
    exact ev_ns c_66 2 (ip' := 10) (ls' := [some (.inr a0), some (.inl i1), some (.inl i2), some (.inr u_2), none]) (st' := [.inr 0]) (M' := M_1) rfl
  · skip
    refine (ev_ns c_66 1 (ip' := 9) (ls' := [some (.inr a0), some (.inl i1), some (.inl i2), some (.inr u_2), none]) (st' := [.inr u_2]) (M' := M_1) rfl).trans ?_
    refine (ev_gR (a_rec M_1 3 [.inr u_2] = true ∧ ([] : List mV).length ≤ 8) (as := [.inr u_2]) (rr := []) c_66 c_20 rfl).trans (t_i (t_cR ?_) rfl)
    intro u_4 M_3
    exact rfl
set_option maxRecDepth 20000 in
theorem e_66_10 (a0 : Nat) (i1 : Int32) (i2 : Int32) (a3 : Nat) (t0 : Nat) (M : mM) : ev 66 10 [some (.inr a0), some (.inl i1), some (.inl i2), some (.inr a3), none] [.inr t0] M = if t0 = 0 then (some (some (.inl (-1)), M)) else (if (i2 : Int32) = 0 then (if h_k M t0 = 4 then (some (some (.inl (h_i M t0 3)), M)) else none) else (if (i2 : Int32) = 1 then (if h_k M t0 = 4 then (if h_k M (h_r M t0 1) = 6 then (if h_k M (h_r M (h_r M t0 1) 0) = 3 then (some (some (.inl (h_i M (h_r M (h_r M t0 1) 0) 0)), M)) else none) else none) else none) else (if (i2 : Int32) = 2 then (if h_k M t0 = 4 then (some (some (.inl (h_i M t0 4)), M)) else none) else (if (i2 : Int32) = 3 then (if h_k M t0 = 4 then (some (some (.inl (h_i M t0 6)), M)) else none) else (if (i2 : Int32) = 4 then (if h_k M t0 = 4 then (some (some (.inl (h_i M t0 7)), M)) else none) else (if (i2 : Int32) = 5 then (if (a_rec M 7 [.inr a0, .inr t0] = true ∧ ([] : List mV).length ≤ 8) then (c_I (ev 100 0 [some (.inr a0), some (.inr t0), none, none, none, none, none] [] M) fun v_2 M_1 => some (some (.inl v_2), M_1)) else none) else (if (i2 : Int32) = 6 then (if h_k M t0 = 4 then (some (some (.inl (h_i M t0 5)), M)) else none) else (some (some (.inl (-1)), M))))))))) := by
  refine (ev_ns c_66 2 (ip' := 12) (ls' := [some (.inr a0), some (.inl i1), some (.inl i2), some (.inr a3), some (.inr t0)]) (st' := [.inr t0]) (M' := M) rfl).trans ?_
  refine (ev_i (t0 = 0) (i1 := 13) (l1 := [some (.inr a0), some (.inl i1), some (.inl i2), some (.inr a3), some (.inr t0)]) (s1 := []) (M1 := M) (i2 := 15) (l2 := [some (.inr a0), some (.inl i1), some (.inl i2), some (.inr a3), some (.inr t0)]) (s2 := []) (M2 := M) c_66 rfl).trans (t_i ?_ ?_)
  · skip
    refine (ev_ns c_66 1 (ip' := 14) (ls' := [some (.inr a0), some (.inl i1), some (.inl i2), some (.inr a3), some (.inr t0)]) (st' := [.inl (-1)]) (M' := M) rfl).trans ?_
    exact ev_d c_66 rfl
  · skip
    refine (ev_ns c_66 1 (ip' := 16) (ls' := [some (.inr a0), some (.inl i1), some (.inl i2), some (.inr a3), some (.inr t0)]) (st' := [.inl i2]) (M' := M) rfl).trans ?_
    refine (ev_sw c_66 (x := i2) (ls := [some (.inr a0), some (.inl i1), some (.inl i2), some (.inr a3), some (.inr t0)]) (r := []) (M := M) (d := 41) (ts := [17, 20, 25, 28, 31, 34, 38]) rfl).trans ?_
    refine t_i ?_ ?_
    · skip
      refine (ev_ns c_66 1 (ip' := 18) (ls' := [some (.inr a0), some (.inl i1), some (.inl i2), some (.inr a3), some (.inr t0)]) (st' := [.inr t0]) (M' := M) rfl).trans ?_
      refine (ev_g (h_k M t0 = 4) (ip' := 19) (ls' := [some (.inr a0), some (.inl i1), some (.inl i2), some (.inr a3), some (.inr t0)]) (st' := [.inl (h_i M t0 3)]) (M' := M) c_66 rfl).trans (t_i ?_ rfl)
      exact ev_d c_66 rfl
    refine t_i ?_ ?_
    · skip
      refine (ev_ns c_66 1 (ip' := 21) (ls' := [some (.inr a0), some (.inl i1), some (.inl i2), some (.inr a3), some (.inr t0)]) (st' := [.inr t0]) (M' := M) rfl).trans ?_
      refine (ev_g (h_k M t0 = 4) (ip' := 22) (ls' := [some (.inr a0), some (.inl i1), some (.inl i2), some (.inr a3), some (.inr t0)]) (st' := [.inr (h_r M t0 1)]) (M' := M) c_66 rfl).trans (t_i ?_ rfl)
      refine (ev_g (h_k M (h_r M t0 1) = 6) (ip' := 23) (ls' := [some (.inr a0), some (.inl i1), some (.inl i2), some (.inr a3), some (.inr t0)]) (st' := [.inr (h_r M (h_r M t0 1) 0)]) (M' := M) c_66 rfl).trans (t_i ?_ rfl)
      refine (ev_g (h_k M (h_r M (h_r M t0 1) 0) = 3) (ip' := 24) (ls' := [some (.inr a0), some (.inl i1), some (.inl i2), some (.inr a3), some (.inr t0)]) (st' := [.inl (h_i M (h_r M (h_r M t0 1) 0) 0)]) (M' := M) c_66 rfl).trans (t_i ?_ rfl)
      exact ev_d c_66 rfl
    refine t_i ?_ ?_
    · skip
      refine (ev_ns c_66 1 (ip' := 26) (ls' := [some (.inr a0), some (.inl i1), some (.inl i2), some (.inr a3), some (.inr t0)]) (st' := [.inr t0]) (M' := M) rfl).trans ?_
      refine (ev_g (h_k M t0 = 4) (ip' := 27) (ls' := [some (.inr a0), some (.inl i1), some (.inl i2), some (.inr a3), some (.inr t0)]) (st' := [.inl (h_i M t0 4)]) (M' := M) c_66 rfl).trans (t_i ?_ rfl)
      exact ev_d c_66 rfl
    refine t_i ?_ ?_
    · skip
      refine (ev_ns c_66 1 (ip' := 29) (ls' := [some (.inr a0), some (.inl i1), some (.inl i2), some (.inr a3), some (.inr t0)]) (st' := [.inr t0]) (M' := M) rfl).trans ?_
      refine (ev_g (h_k M t0 = 4) (ip' := 30) (ls' := [some (.inr a0), some (.inl i1), some (.inl i2), some (.inr a3), some (.inr t0)]) (st' := [.inl (h_i M t0 6)]) (M' := M) c_66 rfl).trans (t_i ?_ rfl)
      exact ev_d c_66 rfl
    refine t_i ?_ ?_
    · skip
      refine (ev_ns c_66 1 (ip' := 32) (ls' := [some (.inr a0), some (.inl i1), some (.inl i2), some (.inr a3), some (.inr t0)]) (st' := [.inr t0]) (M' := M) rfl).trans ?_
      refine (ev_g (h_k M t0 = 4) (ip' := 33) (ls' := [some (.inr a0), some (.inl i1), some (.inl i2), some (.inr a3), some (.inr t0)]) (st' := [.inl (h_i M t0 7)]) (M' := M) c_66 rfl).trans (t_i ?_ rfl)
      exact ev_d c_66 rfl
    refine t_i ?_ ?_
    · skip
      refine (ev_ns c_66 2 (ip' := 36) (ls' := [some (.inr a0), some (.inl i1), some (.inl i2), some (.inr a3), some (.inr t0)]) (st' := [.inr t0, .inr a0]) (M' := M) rfl).trans ?_
      refine (ev_gI (a_rec M 7 [.inr a0, .inr t0] = true ∧ ([] : List mV).length ≤ 8) (as := [.inr a0, .inr t0]) (rr := []) c_66 c_100 rfl).trans (t_i (t_cI ?_) rfl)
      intro v_2 M_1
      exact ev_d c_66 rfl
    refine t_i ?_ ?_
    · skip
      refine (ev_ns c_66 1 (ip' := 39) (ls' := [some (.inr a0), some (.inl i1), some (.inl i2), some (.inr a3), some (.inr t0)]) (st' := [.inr t0]) (M' := M) rfl).trans ?_
      refine (ev_g (h_k M t0 = 4) (ip' := 40) (ls' := [some (.inr a0), some (.inl i1), some (.inl i2), some (.inr a3), some (.inr t0)]) (st' := [.inl (h_i M t0 5)]) (M' := M) c_66 rfl).trans (t_i ?_ rfl)
      exact ev_d c_66 rfl
    refine (ev_ns c_66 1 (ip' := 42) (ls' := [some (.inr a0), some (.inl i1), some (.inl i2), some (.inr a3), some (.inr t0)]) (st' := [.inl (-1)]) (M' := M) rfl).trans ?_
    exact ev_d c_66 rfl
/- 67: GranuleHall.walk(IIII)I -/
set_option maxRecDepth 20000 in
theorem e_67_0 (a0 : Nat) (i1 : Int32) (i2 : Int32) (i3 : Int32) (i4 : Int32) (M : mM) : ev 67 0 [some (.inr a0), some (.inl i1), some (.inl i2), some (.inl i3), some (.inl i4), none, none, none] [] M = if (a_rec M 7 [.inr a0, .inl i1] = true ∧ ([] : List mV).length ≤ 8) then (c_R (ev 79 0 [some (.inr a0), some (.inl i1)] [] M) fun u_2 M_1 => if u_2 = 0 then (ev 67 10 [some (.inr a0), some (.inl i1), some (.inl i2), some (.inl i3), some (.inl i4), some (.inr u_2), none, none] [.inr 0] M_1) else (if (a_rec M_1 3 [.inr u_2] = true ∧ ([] : List mV).length ≤ 8) then (c_R (ev 20 0 [some (.inr u_2)] [] M_1) fun u_4 M_3 => ev 67 10 [some (.inr a0), some (.inl i1), some (.inl i2), some (.inl i3), some (.inl i4), some (.inr u_2), none, none] [.inr u_4] M_3) else none)) else none := by
  refine (ev_ns c_67 2 (ip' := 2) (ls' := [some (.inr a0), some (.inl i1), some (.inl i2), some (.inl i3), some (.inl i4), none, none, none]) (st' := [.inl i1, .inr a0]) (M' := M) rfl).trans ?_
  refine (ev_gR (a_rec M 7 [.inr a0, .inl i1] = true ∧ ([] : List mV).length ≤ 8) (as := [.inr a0, .inl i1]) (rr := []) c_67 c_79 rfl).trans (t_i (t_cR ?_) rfl)
  intro u_2 M_1
  refine (ev_ns c_67 2 (ip' := 5) (ls' := [some (.inr a0), some (.inl i1), some (.inl i2), some (.inl i3), some (.inl i4), some (.inr u_2), none, none]) (st' := [.inr u_2]) (M' := M_1) rfl).trans ?_
  refine (ev_i (u_2 = 0) (i1 := 6) (l1 := [some (.inr a0), some (.inl i1), some (.inl i2), some (.inl i3), some (.inl i4), some (.inr u_2), none, none]) (s1 := []) (M1 := M_1) (i2 := 8) (l2 := [some (.inr a0), some (.inl i1), some (.inl i2), some (.inl i3), some (.inl i4), some (.inr u_2), none, none]) (s2 := []) (M2 := M_1) c_67 rfl).trans (t_i ?_ ?_)
  · skip
    exact ev_ns c_67 2 (ip' := 10) (ls' := [some (.inr a0), some (.inl i1), some (.inl i2), some (.inl i3), some (.inl i4), some (.inr u_2), none, none]) (st' := [.inr 0]) (M' := M_1) rfl
  · skip
    refine (ev_ns c_67 1 (ip' := 9) (ls' := [some (.inr a0), some (.inl i1), some (.inl i2), some (.inl i3), some (.inl i4), some (.inr u_2), none, none]) (st' := [.inr u_2]) (M' := M_1) rfl).trans ?_
    refine (ev_gR (a_rec M_1 3 [.inr u_2] = true ∧ ([] : List mV).length ≤ 8) (as := [.inr u_2]) (rr := []) c_67 c_20 rfl).trans (t_i (t_cR ?_) rfl)
    intro u_4 M_3
    exact rfl
set_option maxRecDepth 20000 in
theorem e_67_10 (a0 : Nat) (i1 : Int32) (i2 : Int32) (i3 : Int32) (i4 : Int32) (a5 : Nat) (t0 : Nat) (M : mM) : ev 67 10 [some (.inr a0), some (.inl i1), some (.inl i2), some (.inl i3), some (.inl i4), some (.inr a5), none, none] [.inr t0] M = if t0 = 0 then (ev 67 21 [some (.inr a0), some (.inl i1), some (.inl i2), some (.inl i3), some (.inl i4), some (.inr a5), some (.inr t0), none] [] M) else (if (a_rec M 0 [.inl i2] = true ∧ ([] : List mV).length ≤ 8) then (c_I (ev 83 0 [some (.inl i2)] [] M) fun v_2 M_1 => if v_2 = 0 then (ev 67 21 [some (.inr a0), some (.inl i1), some (.inl i2), some (.inl i3), some (.inl i4), some (.inr a5), some (.inr t0), none] [] M_1) else (if i3 < 0 then (ev 67 21 [some (.inr a0), some (.inl i1), some (.inl i2), some (.inl i3), some (.inl i4), some (.inr a5), some (.inr t0), none] [] M_1) else (if i3 ≤ 3 then (if (a_rec M_1 4 [.inr t0, .inl i2, .inl i3] = true ∧ ([] : List mV).length ≤ 8) then (c_R (ev 23 0 [some (.inr t0), some (.inl i2), some (.inl i3), none, none] [] M_1) fun u_4 M_3 => if (i4 : Int32) = 0 then (if h_k M_3 u_4 = 2 then (some (some (.inl (h_i M_3 u_4 0)), M_3)) else none) else (if (i4 : Int32) = 1 then (if (a_rec M_3 2 [.inr u_4] = true ∧ ([] : List mV).length ≤ 8) then (c_I (ev 10 0 [some (.inr u_4)] [] M_3) fun v_6 M_5 => some (some (.inl v_6), M_5)) else none) else (if (i4 : Int32) = 2 then (if h_k M_3 u_4 = 2 then (some (some (.inl (h_i M_3 u_4 2)), M_3)) else none) else (if (i4 : Int32) = 3 then (if h_k M_3 u_4 = 2 then (if (h_r M_3 u_4 3) = 0 then (ev 67 47 [some (.inr a0), some (.inl i1), some (.inl i2), some (.inl i3), some (.inl i4), some (.inr a5), some (.inr t0), some (.inr u_4)] [.inl (-1)] M_3) else (if h_k M_3 u_4 = 2 then (if h_k M_3 (h_r M_3 u_4 3) = 3 then (ev 67 47 [some (.inr a0), some (.inl i1), some (.inl i2), some (.inl i3), some (.inl i4), some (.inr a5), some (.inr t0), some (.inr u_4)] [.inl (h_i M_3 (h_r M_3 u_4 3) 0)] M_3) else none) else none)) else none) else (some (some (.inl (-1)), M_3)))))) else none) else (ev 67 21 [some (.inr a0), some (.inl i1), some (.inl i2), some (.inl i3), some (.inl i4), some (.inr a5), some (.inr t0), none] [] M_1)))) else none) := by
  refine (ev_ns c_67 2 (ip' := 12) (ls' := [some (.inr a0), some (.inl i1), some (.inl i2), some (.inl i3), some (.inl i4), some (.inr a5), some (.inr t0), none]) (st' := [.inr t0]) (M' := M) rfl).trans ?_
  refine (ev_i (t0 = 0) (i1 := 21) (l1 := [some (.inr a0), some (.inl i1), some (.inl i2), some (.inl i3), some (.inl i4), some (.inr a5), some (.inr t0), none]) (s1 := []) (M1 := M) (i2 := 13) (l2 := [some (.inr a0), some (.inl i1), some (.inl i2), some (.inl i3), some (.inl i4), some (.inr a5), some (.inr t0), none]) (s2 := []) (M2 := M) c_67 rfl).trans (t_i ?_ ?_)
  · skip
    exact rfl
  · skip
    refine (ev_ns c_67 1 (ip' := 14) (ls' := [some (.inr a0), some (.inl i1), some (.inl i2), some (.inl i3), some (.inl i4), some (.inr a5), some (.inr t0), none]) (st' := [.inl i2]) (M' := M) rfl).trans ?_
    refine (ev_gI (a_rec M 0 [.inl i2] = true ∧ ([] : List mV).length ≤ 8) (as := [.inl i2]) (rr := []) c_67 c_83 rfl).trans (t_i (t_cI ?_) rfl)
    intro v_2 M_1
    refine (ev_i (v_2 = 0) (i1 := 21) (l1 := [some (.inr a0), some (.inl i1), some (.inl i2), some (.inl i3), some (.inl i4), some (.inr a5), some (.inr t0), none]) (s1 := []) (M1 := M_1) (i2 := 16) (l2 := [some (.inr a0), some (.inl i1), some (.inl i2), some (.inl i3), some (.inl i4), some (.inr a5), some (.inr t0), none]) (s2 := []) (M2 := M_1) c_67 rfl).trans (t_i ?_ ?_)
    · skip
      exact rfl
    · skip
      refine (ev_ns c_67 1 (ip' := 17) (ls' := [some (.inr a0), some (.inl i1), some (.inl i2), some (.inl i3), some (.inl i4), some (.inr a5), some (.inr t0), none]) (st' := [.inl i3]) (M' := M_1) rfl).trans ?_
      refine (ev_i (i3 < 0) (i1 := 21) (l1 := [some (.inr a0), some (.inl i1), some (.inl i2), some (.inl i3), some (.inl i4), some (.inr a5), some (.inr t0), none]) (s1 := []) (M1 := M_1) (i2 := 18) (l2 := [some (.inr a0), some (.inl i1), some (.inl i2), some (.inl i3), some (.inl i4), some (.inr a5), some (.inr t0), none]) (s2 := []) (M2 := M_1) c_67 rfl).trans (t_i ?_ ?_)
      · skip
        exact rfl
      · skip
        refine (ev_ns c_67 2 (ip' := 20) (ls' := [some (.inr a0), some (.inl i1), some (.inl i2), some (.inl i3), some (.inl i4), some (.inr a5), some (.inr t0), none]) (st' := [.inl 3, .inl i3]) (M' := M_1) rfl).trans ?_
        refine (ev_i (i3 ≤ 3) (i1 := 23) (l1 := [some (.inr a0), some (.inl i1), some (.inl i2), some (.inl i3), some (.inl i4), some (.inr a5), some (.inr t0), none]) (s1 := []) (M1 := M_1) (i2 := 21) (l2 := [some (.inr a0), some (.inl i1), some (.inl i2), some (.inl i3), some (.inl i4), some (.inr a5), some (.inr t0), none]) (s2 := []) (M2 := M_1) c_67 rfl).trans (t_i ?_ ?_)
        · skip
          refine (ev_ns c_67 3 (ip' := 26) (ls' := [some (.inr a0), some (.inl i1), some (.inl i2), some (.inl i3), some (.inl i4), some (.inr a5), some (.inr t0), none]) (st' := [.inl i3, .inl i2, .inr t0]) (M' := M_1) rfl).trans ?_
          refine (ev_gR (a_rec M_1 4 [.inr t0, .inl i2, .inl i3] = true ∧ ([] : List mV).length ≤ 8) (as := [.inr t0, .inl i2, .inl i3]) (rr := []) c_67 c_23 rfl).trans (t_i (t_cR ?_) rfl)
          intro u_4 M_3
          refine (ev_ns c_67 2 (ip' := 29) (ls' := [some (.inr a0), some (.inl i1), some (.inl i2), some (.inl i3), some (.inl i4), some (.inr a5), some (.inr t0), some (.inr u_4)]) (st' := [.inl i4]) (M' := M_3) rfl).trans ?_
          refine (ev_sw c_67 (x := i4) (ls := [some (.inr a0), some (.inl i1), some (.inl i2), some (.inl i3), some (.inl i4), some (.inr a5), some (.inr t0), some (.inr u_4)]) (r := []) (M := M_3) (d := 48) (ts := [30, 33, 36, 39]) rfl).trans ?_
          refine t_i ?_ ?_
          · skip
            refine (ev_ns c_67 1 (ip' := 31) (ls' := [some (.inr a0), some (.inl i1), some (.inl i2), some (.inl i3), some (.inl i4), some (.inr a5), some (.inr t0), some (.inr u_4)]) (st' := [.inr u_4]) (M' := M_3) rfl).trans ?_
            refine (ev_g (h_k M_3 u_4 = 2) (ip' := 32) (ls' := [some (.inr a0), some (.inl i1), some (.inl i2), some (.inl i3), some (.inl i4), some (.inr a5), some (.inr t0), some (.inr u_4)]) (st' := [.inl (h_i M_3 u_4 0)]) (M' := M_3) c_67 rfl).trans (t_i ?_ rfl)
            exact ev_d c_67 rfl
          refine t_i ?_ ?_
          · skip
            refine (ev_ns c_67 1 (ip' := 34) (ls' := [some (.inr a0), some (.inl i1), some (.inl i2), some (.inl i3), some (.inl i4), some (.inr a5), some (.inr t0), some (.inr u_4)]) (st' := [.inr u_4]) (M' := M_3) rfl).trans ?_
            refine (ev_gI (a_rec M_3 2 [.inr u_4] = true ∧ ([] : List mV).length ≤ 8) (as := [.inr u_4]) (rr := []) c_67 c_10 rfl).trans (t_i (t_cI ?_) rfl)
            intro v_6 M_5
            exact ev_d c_67 rfl
          refine t_i ?_ ?_
          · skip
            refine (ev_ns c_67 1 (ip' := 37) (ls' := [some (.inr a0), some (.inl i1), some (.inl i2), some (.inl i3), some (.inl i4), some (.inr a5), some (.inr t0), some (.inr u_4)]) (st' := [.inr u_4]) (M' := M_3) rfl).trans ?_
            refine (ev_g (h_k M_3 u_4 = 2) (ip' := 38) (ls' := [some (.inr a0), some (.inl i1), some (.inl i2), some (.inl i3), some (.inl i4), some (.inr a5), some (.inr t0), some (.inr u_4)]) (st' := [.inl (h_i M_3 u_4 2)]) (M' := M_3) c_67 rfl).trans (t_i ?_ rfl)
            exact ev_d c_67 rfl
          refine t_i ?_ ?_
          · skip
            refine (ev_ns c_67 1 (ip' := 40) (ls' := [some (.inr a0), some (.inl i1), some (.inl i2), some (.inl i3), some (.inl i4), some (.inr a5), some (.inr t0), some (.inr u_4)]) (st' := [.inr u_4]) (M' := M_3) rfl).trans ?_
            refine (ev_g (h_k M_3 u_4 = 2) (ip' := 41) (ls' := [some (.inr a0), some (.inl i1), some (.inl i2), some (.inl i3), some (.inl i4), some (.inr a5), some (.inr t0), some (.inr u_4)]) (st' := [.inr (h_r M_3 u_4 3)]) (M' := M_3) c_67 rfl).trans (t_i ?_ rfl)
            refine (ev_i ((h_r M_3 u_4 3) = 0) (i1 := 42) (l1 := [some (.inr a0), some (.inl i1), some (.inl i2), some (.inl i3), some (.inl i4), some (.inr a5), some (.inr t0), some (.inr u_4)]) (s1 := []) (M1 := M_3) (i2 := 44) (l2 := [some (.inr a0), some (.inl i1), some (.inl i2), some (.inl i3), some (.inl i4), some (.inr a5), some (.inr t0), some (.inr u_4)]) (s2 := []) (M2 := M_3) c_67 rfl).trans (t_i ?_ ?_)
            · skip
              exact ev_ns c_67 2 (ip' := 47) (ls' := [some (.inr a0), some (.inl i1), some (.inl i2), some (.inl i3), some (.inl i4), some (.inr a5), some (.inr t0), some (.inr u_4)]) (st' := [.inl (-1)]) (M' := M_3) rfl
            · skip
              refine (ev_ns c_67 1 (ip' := 45) (ls' := [some (.inr a0), some (.inl i1), some (.inl i2), some (.inl i3), some (.inl i4), some (.inr a5), some (.inr t0), some (.inr u_4)]) (st' := [.inr u_4]) (M' := M_3) rfl).trans ?_
              refine (ev_g (h_k M_3 u_4 = 2) (ip' := 46) (ls' := [some (.inr a0), some (.inl i1), some (.inl i2), some (.inl i3), some (.inl i4), some (.inr a5), some (.inr t0), some (.inr u_4)]) (st' := [.inr (h_r M_3 u_4 3)]) (M' := M_3) c_67 rfl).trans (t_i ?_ rfl)
              refine (ev_g (h_k M_3 (h_r M_3 u_4 3) = 3) (ip' := 47) (ls' := [some (.inr a0), some (.inl i1), some (.inl i2), some (.inl i3), some (.inl i4), some (.inr a5), some (.inr t0), some (.inr u_4)]) (st' := [.inl (h_i M_3 (h_r M_3 u_4 3) 0)]) (M' := M_3) c_67 rfl).trans (t_i ?_ rfl)
              exact rfl
          refine (ev_ns c_67 1 (ip' := 49) (ls' := [some (.inr a0), some (.inl i1), some (.inl i2), some (.inl i3), some (.inl i4), some (.inr a5), some (.inr t0), some (.inr u_4)]) (st' := [.inl (-1)]) (M' := M_3) rfl).trans ?_
          exact ev_d c_67 rfl
        · skip
          exact rfl
set_option maxRecDepth 20000 in
theorem e_67_21 (a0 : Nat) (i1 : Int32) (i2 : Int32) (i3 : Int32) (i4 : Int32) (a5 : Nat) (a6 : Nat) (M : mM) : ev 67 21 [some (.inr a0), some (.inl i1), some (.inl i2), some (.inl i3), some (.inl i4), some (.inr a5), some (.inr a6), none] [] M = some (some (.inl (-1)), M) := by
  refine (ev_ns c_67 1 (ip' := 22) (ls' := [some (.inr a0), some (.inl i1), some (.inl i2), some (.inl i3), some (.inl i4), some (.inr a5), some (.inr a6), none]) (st' := [.inl (-1)]) (M' := M) rfl).trans ?_
  exact ev_d c_67 rfl
set_option maxRecDepth 20000 in
theorem e_67_47 (a0 : Nat) (i1 : Int32) (i2 : Int32) (i3 : Int32) (i4 : Int32) (a5 : Nat) (a6 : Nat) (a7 : Nat) (s0 : Int32) (M : mM) : ev 67 47 [some (.inr a0), some (.inl i1), some (.inl i2), some (.inl i3), some (.inl i4), some (.inr a5), some (.inr a6), some (.inr a7)] [.inl s0] M = some (some (.inl s0), M) := by
  exact ev_d c_67 rfl
/- 68: GranuleHall.context(II)I -/
set_option maxRecDepth 20000 in
theorem e_68_0 (a0 : Nat) (i1 : Int32) (i2 : Int32) (M : mM) : ev 68 0 [some (.inr a0), some (.inl i1), some (.inl i2), none, none] [] M = if (a_rec M 7 [.inr a0, .inl i1] = true ∧ ([] : List mV).length ≤ 8) then (c_R (ev 79 0 [some (.inr a0), some (.inl i1)] [] M) fun u_2 M_1 => if u_2 = 0 then (ev 68 10 [some (.inr a0), some (.inl i1), some (.inl i2), some (.inr u_2), none] [.inr 0] M_1) else (if h_k M_1 u_2 = 3 then (ev 68 10 [some (.inr a0), some (.inl i1), some (.inl i2), some (.inr u_2), none] [.inr (h_r M_1 u_2 5)] M_1) else none)) else none := by
  refine (ev_ns c_68 2 (ip' := 2) (ls' := [some (.inr a0), some (.inl i1), some (.inl i2), none, none]) (st' := [.inl i1, .inr a0]) (M' := M) rfl).trans ?_
  refine (ev_gR (a_rec M 7 [.inr a0, .inl i1] = true ∧ ([] : List mV).length ≤ 8) (as := [.inr a0, .inl i1]) (rr := []) c_68 c_79 rfl).trans (t_i (t_cR ?_) rfl)
  intro u_2 M_1
  refine (ev_ns c_68 2 (ip' := 5) (ls' := [some (.inr a0), some (.inl i1), some (.inl i2), some (.inr u_2), none]) (st' := [.inr u_2]) (M' := M_1) rfl).trans ?_
  refine (ev_i (u_2 = 0) (i1 := 6) (l1 := [some (.inr a0), some (.inl i1), some (.inl i2), some (.inr u_2), none]) (s1 := []) (M1 := M_1) (i2 := 8) (l2 := [some (.inr a0), some (.inl i1), some (.inl i2), some (.inr u_2), none]) (s2 := []) (M2 := M_1) c_68 rfl).trans (t_i ?_ ?_)
  · skip
    exact ev_ns c_68 2 (ip' := 10) (ls' := [some (.inr a0), some (.inl i1), some (.inl i2), some (.inr u_2), none]) (st' := [.inr 0]) (M' := M_1) rfl
  · skip
    refine (ev_ns c_68 1 (ip' := 9) (ls' := [some (.inr a0), some (.inl i1), some (.inl i2), some (.inr u_2), none]) (st' := [.inr u_2]) (M' := M_1) rfl).trans ?_
    refine (ev_g (h_k M_1 u_2 = 3) (ip' := 10) (ls' := [some (.inr a0), some (.inl i1), some (.inl i2), some (.inr u_2), none]) (st' := [.inr (h_r M_1 u_2 5)]) (M' := M_1) c_68 rfl).trans (t_i ?_ rfl)
    exact rfl
set_option maxRecDepth 20000 in
theorem e_68_10 (a0 : Nat) (i1 : Int32) (i2 : Int32) (a3 : Nat) (t0 : Nat) (M : mM) : ev 68 10 [some (.inr a0), some (.inl i1), some (.inl i2), some (.inr a3), none] [.inr t0] M = if t0 = 0 then (some (some (.inl (-1)), M)) else (if (a_rec M 0 [.inl i2] = true ∧ ([] : List mV).length ≤ 8) then (c_I (ev 81 0 [some (.inl i2)] [] M) fun v_2 M_1 => if v_2 = 0 then (if (i2 : Int32) = 8 then (if h_k M_1 t0 = 5 then (if (a_rec M_1 0 [.inl (h_i M_1 t0 2)] = true ∧ ([] : List mV).length ≤ 8) then (c_I (ev 89 0 [some (.inl (h_i M_1 t0 2))] [] M_1) fun v_4 M_3 => some (some (.inl v_4), M_3)) else none) else none) else (if (i2 : Int32) = 9 then (if h_k M_1 a0 = 7 then (if ¬ h_k M_1 t0 = 14 ∧ ¬ h_k M_1 (h_r M_1 a0 3) = 14 then (if t0 = (h_r M_1 a0 3) then (ev 68 36 [some (.inr a0), some (.inl i1), some (.inl i2), some (.inr a3), some (.inr t0)] [.inl 1] M_1) else (ev 68 36 [some (.inr a0), some (.inl i1), some (.inl i2), some (.inr a3), some (.inr t0)] [.inl 0] M_1)) else none) else none) else (if (i2 : Int32) = 10 then (if h_k M_1 t0 = 5 then (some (some (.inl (h_i M_1 t0 4)), M_1)) else none) else (if (i2 : Int32) = 11 then (if h_k M_1 t0 = 5 then (if (h_i M_1 t0 4) = 2 then (if h_k M_1 t0 = 5 then (ev 68 49 [some (.inr a0), some (.inl i1), some (.inl i2), some (.inr a3), some (.inr t0)] [.inl (h_i M_1 t0 6)] M_1) else none) else (ev 68 49 [some (.inr a0), some (.inl i1), some (.inl i2), some (.inr a3), some (.inr t0)] [.inl (-1)] M_1)) else none) else (if (i2 : Int32) = 12 then (if h_k M_1 t0 = 5 then (if (h_i M_1 t0 4) = 2 then (if h_k M_1 t0 = 5 then (ev 68 58 [some (.inr a0), some (.inl i1), some (.inl i2), some (.inr a3), some (.inr t0)] [.inl (h_i M_1 t0 7)] M_1) else none) else (ev 68 58 [some (.inr a0), some (.inl i1), some (.inl i2), some (.inr a3), some (.inr t0)] [.inl (-1)] M_1)) else none) else (if (i2 : Int32) = 13 then (if h_k M_1 t0 = 5 then (some (some (.inl (h_i M_1 t0 10)), M_1)) else none) else (some (some (.inl (-1)), M_1)))))))) else (if h_k M_1 t0 = 5 then (if (h_k M_1 (h_r M_1 t0 3) = 9 ∨ h_k M_1 (h_r M_1 t0 3) = 14) ∧ h_in i2 (h_l M_1 (h_r M_1 t0 3)) then (some (some (.inl (h_i M_1 (h_r M_1 t0 3) (i2).toNatClampNeg)), M_1)) else none) else none)) else none) := by
  refine (ev_ns c_68 2 (ip' := 12) (ls' := [some (.inr a0), some (.inl i1), some (.inl i2), some (.inr a3), some (.inr t0)]) (st' := [.inr t0]) (M' := M) rfl).trans ?_
  refine (ev_i (t0 = 0) (i1 := 13) (l1 := [some (.inr a0), some (.inl i1), some (.inl i2), some (.inr a3), some (.inr t0)]) (s1 := []) (M1 := M) (i2 := 15) (l2 := [some (.inr a0), some (.inl i1), some (.inl i2), some (.inr a3), some (.inr t0)]) (s2 := []) (M2 := M) c_68 rfl).trans (t_i ?_ ?_)
  · skip
    refine (ev_ns c_68 1 (ip' := 14) (ls' := [some (.inr a0), some (.inl i1), some (.inl i2), some (.inr a3), some (.inr t0)]) (st' := [.inl (-1)]) (M' := M) rfl).trans ?_
    exact ev_d c_68 rfl
  · skip
    refine (ev_ns c_68 1 (ip' := 16) (ls' := [some (.inr a0), some (.inl i1), some (.inl i2), some (.inr a3), some (.inr t0)]) (st' := [.inl i2]) (M' := M) rfl).trans ?_
    refine (ev_gI (a_rec M 0 [.inl i2] = true ∧ ([] : List mV).length ≤ 8) (as := [.inl i2]) (rr := []) c_68 c_81 rfl).trans (t_i (t_cI ?_) rfl)
    intro v_2 M_1
    refine (ev_i (v_2 = 0) (i1 := 23) (l1 := [some (.inr a0), some (.inl i1), some (.inl i2), some (.inr a3), some (.inr t0)]) (s1 := []) (M1 := M_1) (i2 := 18) (l2 := [some (.inr a0), some (.inl i1), some (.inl i2), some (.inr a3), some (.inr t0)]) (s2 := []) (M2 := M_1) c_68 rfl).trans (t_i ?_ ?_)
    · skip
      refine (ev_ns c_68 1 (ip' := 24) (ls' := [some (.inr a0), some (.inl i1), some (.inl i2), some (.inr a3), some (.inr t0)]) (st' := [.inl i2]) (M' := M_1) rfl).trans ?_
      refine (ev_sw c_68 (x := i2) (ls := [some (.inr a0), some (.inl i1), some (.inl i2), some (.inr a3), some (.inr t0)]) (r := []) (M := M_1) (d := 62) (ts := [25, 29, 38, 41, 50, 59]) rfl).trans ?_
      refine t_i ?_ ?_
      · skip
        refine (ev_ns c_68 1 (ip' := 26) (ls' := [some (.inr a0), some (.inl i1), some (.inl i2), some (.inr a3), some (.inr t0)]) (st' := [.inr t0]) (M' := M_1) rfl).trans ?_
        refine (ev_g (h_k M_1 t0 = 5) (ip' := 27) (ls' := [some (.inr a0), some (.inl i1), some (.inl i2), some (.inr a3), some (.inr t0)]) (st' := [.inl (h_i M_1 t0 2)]) (M' := M_1) c_68 rfl).trans (t_i ?_ rfl)
        refine (ev_gI (a_rec M_1 0 [.inl (h_i M_1 t0 2)] = true ∧ ([] : List mV).length ≤ 8) (as := [.inl (h_i M_1 t0 2)]) (rr := []) c_68 c_89 rfl).trans (t_i (t_cI ?_) rfl)
        intro v_4 M_3
        exact ev_d c_68 rfl
      refine t_i ?_ ?_
      · skip
        refine (ev_ns c_68 2 (ip' := 31) (ls' := [some (.inr a0), some (.inl i1), some (.inl i2), some (.inr a3), some (.inr t0)]) (st' := [.inr a0, .inr t0]) (M' := M_1) rfl).trans ?_
        refine (ev_g (h_k M_1 a0 = 7) (ip' := 32) (ls' := [some (.inr a0), some (.inl i1), some (.inl i2), some (.inr a3), some (.inr t0)]) (st' := [.inr (h_r M_1 a0 3), .inr t0]) (M' := M_1) c_68 rfl).trans (t_i ?_ rfl)
        refine (ev_gi (¬ h_k M_1 t0 = 14 ∧ ¬ h_k M_1 (h_r M_1 a0 3) = 14) (t0 = (h_r M_1 a0 3)) (i1 := 33) (l1 := [some (.inr a0), some (.inl i1), some (.inl i2), some (.inr a3), some (.inr t0)]) (s1 := []) (M1 := M_1) (i2 := 35) (l2 := [some (.inr a0), some (.inl i1), some (.inl i2), some (.inr a3), some (.inr t0)]) (s2 := []) (M2 := M_1) c_68 rfl).trans (t_i (t_i ?_ ?_) rfl)
        · skip
          exact ev_ns c_68 2 (ip' := 36) (ls' := [some (.inr a0), some (.inl i1), some (.inl i2), some (.inr a3), some (.inr t0)]) (st' := [.inl 1]) (M' := M_1) rfl
        · skip
          exact ev_ns c_68 1 (ip' := 36) (ls' := [some (.inr a0), some (.inl i1), some (.inl i2), some (.inr a3), some (.inr t0)]) (st' := [.inl 0]) (M' := M_1) rfl
      refine t_i ?_ ?_
      · skip
        refine (ev_ns c_68 1 (ip' := 39) (ls' := [some (.inr a0), some (.inl i1), some (.inl i2), some (.inr a3), some (.inr t0)]) (st' := [.inr t0]) (M' := M_1) rfl).trans ?_
        refine (ev_g (h_k M_1 t0 = 5) (ip' := 40) (ls' := [some (.inr a0), some (.inl i1), some (.inl i2), some (.inr a3), some (.inr t0)]) (st' := [.inl (h_i M_1 t0 4)]) (M' := M_1) c_68 rfl).trans (t_i ?_ rfl)
        exact ev_d c_68 rfl
      refine t_i ?_ ?_
      · skip
        refine (ev_ns c_68 1 (ip' := 42) (ls' := [some (.inr a0), some (.inl i1), some (.inl i2), some (.inr a3), some (.inr t0)]) (st' := [.inr t0]) (M' := M_1) rfl).trans ?_
        refine (ev_g (h_k M_1 t0 = 5) (ip' := 43) (ls' := [some (.inr a0), some (.inl i1), some (.inl i2), some (.inr a3), some (.inr t0)]) (st' := [.inl (h_i M_1 t0 4)]) (M' := M_1) c_68 rfl).trans (t_i ?_ rfl)
        refine (ev_ns c_68 1 (ip' := 44) (ls' := [some (.inr a0), some (.inl i1), some (.inl i2), some (.inr a3), some (.inr t0)]) (st' := [.inl 2, .inl (h_i M_1 t0 4)]) (M' := M_1) rfl).trans ?_
        refine (ev_i ((h_i M_1 t0 4) = 2) (i1 := 45) (l1 := [some (.inr a0), some (.inl i1), some (.inl i2), some (.inr a3), some (.inr t0)]) (s1 := []) (M1 := M_1) (i2 := 48) (l2 := [some (.inr a0), some (.inl i1), some (.inl i2), some (.inr a3), some (.inr t0)]) (s2 := []) (M2 := M_1) c_68 rfl).trans (t_i ?_ ?_)
        · skip
          refine (ev_ns c_68 1 (ip' := 46) (ls' := [some (.inr a0), some (.inl i1), some (.inl i2), some (.inr a3), some (.inr t0)]) (st' := [.inr t0]) (M' := M_1) rfl).trans ?_
          refine (ev_g (h_k M_1 t0 = 5) (ip' := 47) (ls' := [some (.inr a0), some (.inl i1), some (.inl i2), some (.inr a3), some (.inr t0)]) (st' := [.inl (h_i M_1 t0 6)]) (M' := M_1) c_68 rfl).trans (t_i ?_ rfl)
          exact ev_ns c_68 1 (ip' := 49) (ls' := [some (.inr a0), some (.inl i1), some (.inl i2), some (.inr a3), some (.inr t0)]) (st' := [.inl (h_i M_1 t0 6)]) (M' := M_1) rfl
        · skip
          exact ev_ns c_68 1 (ip' := 49) (ls' := [some (.inr a0), some (.inl i1), some (.inl i2), some (.inr a3), some (.inr t0)]) (st' := [.inl (-1)]) (M' := M_1) rfl
      refine t_i ?_ ?_
      · skip
        refine (ev_ns c_68 1 (ip' := 51) (ls' := [some (.inr a0), some (.inl i1), some (.inl i2), some (.inr a3), some (.inr t0)]) (st' := [.inr t0]) (M' := M_1) rfl).trans ?_
        refine (ev_g (h_k M_1 t0 = 5) (ip' := 52) (ls' := [some (.inr a0), some (.inl i1), some (.inl i2), some (.inr a3), some (.inr t0)]) (st' := [.inl (h_i M_1 t0 4)]) (M' := M_1) c_68 rfl).trans (t_i ?_ rfl)
        refine (ev_ns c_68 1 (ip' := 53) (ls' := [some (.inr a0), some (.inl i1), some (.inl i2), some (.inr a3), some (.inr t0)]) (st' := [.inl 2, .inl (h_i M_1 t0 4)]) (M' := M_1) rfl).trans ?_
        refine (ev_i ((h_i M_1 t0 4) = 2) (i1 := 54) (l1 := [some (.inr a0), some (.inl i1), some (.inl i2), some (.inr a3), some (.inr t0)]) (s1 := []) (M1 := M_1) (i2 := 57) (l2 := [some (.inr a0), some (.inl i1), some (.inl i2), some (.inr a3), some (.inr t0)]) (s2 := []) (M2 := M_1) c_68 rfl).trans (t_i ?_ ?_)
        · skip
          refine (ev_ns c_68 1 (ip' := 55) (ls' := [some (.inr a0), some (.inl i1), some (.inl i2), some (.inr a3), some (.inr t0)]) (st' := [.inr t0]) (M' := M_1) rfl).trans ?_
          refine (ev_g (h_k M_1 t0 = 5) (ip' := 56) (ls' := [some (.inr a0), some (.inl i1), some (.inl i2), some (.inr a3), some (.inr t0)]) (st' := [.inl (h_i M_1 t0 7)]) (M' := M_1) c_68 rfl).trans (t_i ?_ rfl)
          exact ev_ns c_68 1 (ip' := 58) (ls' := [some (.inr a0), some (.inl i1), some (.inl i2), some (.inr a3), some (.inr t0)]) (st' := [.inl (h_i M_1 t0 7)]) (M' := M_1) rfl
        · skip
          exact ev_ns c_68 1 (ip' := 58) (ls' := [some (.inr a0), some (.inl i1), some (.inl i2), some (.inr a3), some (.inr t0)]) (st' := [.inl (-1)]) (M' := M_1) rfl
      refine t_i ?_ ?_
      · skip
        refine (ev_ns c_68 1 (ip' := 60) (ls' := [some (.inr a0), some (.inl i1), some (.inl i2), some (.inr a3), some (.inr t0)]) (st' := [.inr t0]) (M' := M_1) rfl).trans ?_
        refine (ev_g (h_k M_1 t0 = 5) (ip' := 61) (ls' := [some (.inr a0), some (.inl i1), some (.inl i2), some (.inr a3), some (.inr t0)]) (st' := [.inl (h_i M_1 t0 10)]) (M' := M_1) c_68 rfl).trans (t_i ?_ rfl)
        exact ev_d c_68 rfl
      refine (ev_ns c_68 1 (ip' := 63) (ls' := [some (.inr a0), some (.inl i1), some (.inl i2), some (.inr a3), some (.inr t0)]) (st' := [.inl (-1)]) (M' := M_1) rfl).trans ?_
      exact ev_d c_68 rfl
    · skip
      refine (ev_ns c_68 1 (ip' := 19) (ls' := [some (.inr a0), some (.inl i1), some (.inl i2), some (.inr a3), some (.inr t0)]) (st' := [.inr t0]) (M' := M_1) rfl).trans ?_
      refine (ev_g (h_k M_1 t0 = 5) (ip' := 20) (ls' := [some (.inr a0), some (.inl i1), some (.inl i2), some (.inr a3), some (.inr t0)]) (st' := [.inr (h_r M_1 t0 3)]) (M' := M_1) c_68 rfl).trans (t_i ?_ rfl)
      refine (ev_ns c_68 1 (ip' := 21) (ls' := [some (.inr a0), some (.inl i1), some (.inl i2), some (.inr a3), some (.inr t0)]) (st' := [.inl i2, .inr (h_r M_1 t0 3)]) (M' := M_1) rfl).trans ?_
      refine (ev_g ((h_k M_1 (h_r M_1 t0 3) = 9 ∨ h_k M_1 (h_r M_1 t0 3) = 14) ∧ h_in i2 (h_l M_1 (h_r M_1 t0 3))) (ip' := 22) (ls' := [some (.inr a0), some (.inl i1), some (.inl i2), some (.inr a3), some (.inr t0)]) (st' := [.inl (h_i M_1 (h_r M_1 t0 3) (i2).toNatClampNeg)]) (M' := M_1) c_68 rfl).trans (t_i ?_ rfl)
      exact ev_d c_68 rfl
set_option maxRecDepth 20000 in
theorem e_68_36 (a0 : Nat) (i1 : Int32) (i2 : Int32) (a3 : Nat) (a4 : Nat) (s0 : Int32) (M : mM) : ev 68 36 [some (.inr a0), some (.inl i1), some (.inl i2), some (.inr a3), some (.inr a4)] [.inl s0] M = if (a_rec M 0 [.inl s0] = true ∧ ([] : List mV).length ≤ 8) then (c_I (ev 89 0 [some (.inl s0)] [] M) fun v_2 M_1 => some (some (.inl v_2), M_1)) else none := by
  refine (ev_gI (a_rec M 0 [.inl s0] = true ∧ ([] : List mV).length ≤ 8) (as := [.inl s0]) (rr := []) c_68 c_89 rfl).trans (t_i (t_cI ?_) rfl)
  intro v_2 M_1
  exact ev_d c_68 rfl
set_option maxRecDepth 20000 in
theorem e_68_49 (a0 : Nat) (i1 : Int32) (i2 : Int32) (a3 : Nat) (a4 : Nat) (s0 : Int32) (M : mM) : ev 68 49 [some (.inr a0), some (.inl i1), some (.inl i2), some (.inr a3), some (.inr a4)] [.inl s0] M = some (some (.inl s0), M) := by
  exact ev_d c_68 rfl
set_option maxRecDepth 20000 in
theorem e_68_58 (a0 : Nat) (i1 : Int32) (i2 : Int32) (a3 : Nat) (a4 : Nat) (s0 : Int32) (M : mM) : ev 68 58 [some (.inr a0), some (.inl i1), some (.inl i2), some (.inr a3), some (.inr a4)] [.inl s0] M = some (some (.inl s0), M) := by
  exact ev_d c_68 rfl
/- 69: GranuleHall.measured(III)I -/
set_option maxRecDepth 20000 in
theorem e_69_0 (a0 : Nat) (i1 : Int32) (i2 : Int32) (i3 : Int32) (M : mM) : ev 69 0 [some (.inr a0), some (.inl i1), some (.inl i2), some (.inl i3), none, none] [] M = if (a_rec M 7 [.inr a0, .inl i1] = true ∧ ([] : List mV).length ≤ 8) then (c_R (ev 79 0 [some (.inr a0), some (.inl i1)] [] M) fun u_2 M_1 => if u_2 = 0 then (ev 69 10 [some (.inr a0), some (.inl i1), some (.inl i2), some (.inl i3), some (.inr u_2), none] [.inr 0] M_1) else (if (a_rec M_1 3 [.inr u_2] = true ∧ ([] : List mV).length ≤ 8) then (c_R (ev 20 0 [some (.inr u_2)] [] M_1) fun u_4 M_3 => ev 69 10 [some (.inr a0), some (.inl i1), some (.inl i2), some (.inl i3), some (.inr u_2), none] [.inr u_4] M_3) else none)) else none := by
  refine (ev_ns c_69 2 (ip' := 2) (ls' := [some (.inr a0), some (.inl i1), some (.inl i2), some (.inl i3), none, none]) (st' := [.inl i1, .inr a0]) (M' := M) rfl).trans ?_
  refine (ev_gR (a_rec M 7 [.inr a0, .inl i1] = true ∧ ([] : List mV).length ≤ 8) (as := [.inr a0, .inl i1]) (rr := []) c_69 c_79 rfl).trans (t_i (t_cR ?_) rfl)
  intro u_2 M_1
  refine (ev_ns c_69 2 (ip' := 5) (ls' := [some (.inr a0), some (.inl i1), some (.inl i2), some (.inl i3), some (.inr u_2), none]) (st' := [.inr u_2]) (M' := M_1) rfl).trans ?_
  refine (ev_i (u_2 = 0) (i1 := 6) (l1 := [some (.inr a0), some (.inl i1), some (.inl i2), some (.inl i3), some (.inr u_2), none]) (s1 := []) (M1 := M_1) (i2 := 8) (l2 := [some (.inr a0), some (.inl i1), some (.inl i2), some (.inl i3), some (.inr u_2), none]) (s2 := []) (M2 := M_1) c_69 rfl).trans (t_i ?_ ?_)
  · skip
    exact ev_ns c_69 2 (ip' := 10) (ls' := [some (.inr a0), some (.inl i1), some (.inl i2), some (.inl i3), some (.inr u_2), none]) (st' := [.inr 0]) (M' := M_1) rfl
  · skip
    refine (ev_ns c_69 1 (ip' := 9) (ls' := [some (.inr a0), some (.inl i1), some (.inl i2), some (.inl i3), some (.inr u_2), none]) (st' := [.inr u_2]) (M' := M_1) rfl).trans ?_
    refine (ev_gR (a_rec M_1 3 [.inr u_2] = true ∧ ([] : List mV).length ≤ 8) (as := [.inr u_2]) (rr := []) c_69 c_20 rfl).trans (t_i (t_cR ?_) rfl)
    intro u_4 M_3
    exact rfl
set_option maxRecDepth 20000 in
theorem e_69_10 (a0 : Nat) (i1 : Int32) (i2 : Int32) (i3 : Int32) (a4 : Nat) (t0 : Nat) (M : mM) : ev 69 10 [some (.inr a0), some (.inl i1), some (.inl i2), some (.inl i3), some (.inr a4), none] [.inr t0] M = if t0 = 0 then (ev 69 21 [some (.inr a0), some (.inl i1), some (.inl i2), some (.inl i3), some (.inr a4), some (.inr t0)] [] M) else (if (a_rec M 0 [.inl i2] = true ∧ ([] : List mV).length ≤ 8) then (c_I (ev 82 0 [some (.inl i2)] [] M) fun v_2 M_1 => if v_2 = 0 then (ev 69 21 [some (.inr a0), some (.inl i1), some (.inl i2), some (.inl i3), some (.inr a4), some (.inr t0)] [] M_1) else (if i3 < 0 then (ev 69 21 [some (.inr a0), some (.inl i1), some (.inl i2), some (.inl i3), some (.inr a4), some (.inr t0)] [] M_1) else (if i3 < 8 then (if h_k M_1 t0 = 4 then (if (h_k M_1 (h_r M_1 t0 2) = 11 ∨ h_k M_1 (h_r M_1 t0 2) = 12 ∨ h_k M_1 (h_r M_1 t0 2) = 13) ∧ h_in i2 (h_l M_1 (h_r M_1 t0 2)) then (if (h_k M_1 (h_r M_1 (h_r M_1 t0 2) (i2).toNatClampNeg) = 9 ∨ h_k M_1 (h_r M_1 (h_r M_1 t0 2) (i2).toNatClampNeg) = 14) ∧ h_in i3 (h_l M_1 (h_r M_1 (h_r M_1 t0 2) (i2).toNatClampNeg)) then (some (some (.inl (h_i M_1 (h_r M_1 (h_r M_1 t0 2) (i2).toNatClampNeg) (i3).toNatClampNeg)), M_1)) else none) else none) else none) else (ev 69 21 [some (.inr a0), some (.inl i1), some (.inl i2), some (.inl i3), some (.inr a4), some (.inr t0)] [] M_1)))) else none) := by
  refine (ev_ns c_69 2 (ip' := 12) (ls' := [some (.inr a0), some (.inl i1), some (.inl i2), some (.inl i3), some (.inr a4), some (.inr t0)]) (st' := [.inr t0]) (M' := M) rfl).trans ?_
  refine (ev_i (t0 = 0) (i1 := 21) (l1 := [some (.inr a0), some (.inl i1), some (.inl i2), some (.inl i3), some (.inr a4), some (.inr t0)]) (s1 := []) (M1 := M) (i2 := 13) (l2 := [some (.inr a0), some (.inl i1), some (.inl i2), some (.inl i3), some (.inr a4), some (.inr t0)]) (s2 := []) (M2 := M) c_69 rfl).trans (t_i ?_ ?_)
  · skip
    exact rfl
  · skip
    refine (ev_ns c_69 1 (ip' := 14) (ls' := [some (.inr a0), some (.inl i1), some (.inl i2), some (.inl i3), some (.inr a4), some (.inr t0)]) (st' := [.inl i2]) (M' := M) rfl).trans ?_
    refine (ev_gI (a_rec M 0 [.inl i2] = true ∧ ([] : List mV).length ≤ 8) (as := [.inl i2]) (rr := []) c_69 c_82 rfl).trans (t_i (t_cI ?_) rfl)
    intro v_2 M_1
    refine (ev_i (v_2 = 0) (i1 := 21) (l1 := [some (.inr a0), some (.inl i1), some (.inl i2), some (.inl i3), some (.inr a4), some (.inr t0)]) (s1 := []) (M1 := M_1) (i2 := 16) (l2 := [some (.inr a0), some (.inl i1), some (.inl i2), some (.inl i3), some (.inr a4), some (.inr t0)]) (s2 := []) (M2 := M_1) c_69 rfl).trans (t_i ?_ ?_)
    · skip
      exact rfl
    · skip
      refine (ev_ns c_69 1 (ip' := 17) (ls' := [some (.inr a0), some (.inl i1), some (.inl i2), some (.inl i3), some (.inr a4), some (.inr t0)]) (st' := [.inl i3]) (M' := M_1) rfl).trans ?_
      refine (ev_i (i3 < 0) (i1 := 21) (l1 := [some (.inr a0), some (.inl i1), some (.inl i2), some (.inl i3), some (.inr a4), some (.inr t0)]) (s1 := []) (M1 := M_1) (i2 := 18) (l2 := [some (.inr a0), some (.inl i1), some (.inl i2), some (.inl i3), some (.inr a4), some (.inr t0)]) (s2 := []) (M2 := M_1) c_69 rfl).trans (t_i ?_ ?_)
      · skip
        exact rfl
      · skip
        refine (ev_ns c_69 2 (ip' := 20) (ls' := [some (.inr a0), some (.inl i1), some (.inl i2), some (.inl i3), some (.inr a4), some (.inr t0)]) (st' := [.inl 8, .inl i3]) (M' := M_1) rfl).trans ?_
        refine (ev_i (i3 < 8) (i1 := 23) (l1 := [some (.inr a0), some (.inl i1), some (.inl i2), some (.inl i3), some (.inr a4), some (.inr t0)]) (s1 := []) (M1 := M_1) (i2 := 21) (l2 := [some (.inr a0), some (.inl i1), some (.inl i2), some (.inl i3), some (.inr a4), some (.inr t0)]) (s2 := []) (M2 := M_1) c_69 rfl).trans (t_i ?_ ?_)
        · skip
          refine (ev_ns c_69 1 (ip' := 24) (ls' := [some (.inr a0), some (.inl i1), some (.inl i2), some (.inl i3), some (.inr a4), some (.inr t0)]) (st' := [.inr t0]) (M' := M_1) rfl).trans ?_
          refine (ev_g (h_k M_1 t0 = 4) (ip' := 25) (ls' := [some (.inr a0), some (.inl i1), some (.inl i2), some (.inl i3), some (.inr a4), some (.inr t0)]) (st' := [.inr (h_r M_1 t0 2)]) (M' := M_1) c_69 rfl).trans (t_i ?_ rfl)
          refine (ev_ns c_69 1 (ip' := 26) (ls' := [some (.inr a0), some (.inl i1), some (.inl i2), some (.inl i3), some (.inr a4), some (.inr t0)]) (st' := [.inl i2, .inr (h_r M_1 t0 2)]) (M' := M_1) rfl).trans ?_
          refine (ev_g ((h_k M_1 (h_r M_1 t0 2) = 11 ∨ h_k M_1 (h_r M_1 t0 2) = 12 ∨ h_k M_1 (h_r M_1 t0 2) = 13) ∧ h_in i2 (h_l M_1 (h_r M_1 t0 2))) (ip' := 27) (ls' := [some (.inr a0), some (.inl i1), some (.inl i2), some (.inl i3), some (.inr a4), some (.inr t0)]) (st' := [.inr (h_r M_1 (h_r M_1 t0 2) (i2).toNatClampNeg)]) (M' := M_1) c_69 rfl).trans (t_i ?_ rfl)
          refine (ev_ns c_69 1 (ip' := 28) (ls' := [some (.inr a0), some (.inl i1), some (.inl i2), some (.inl i3), some (.inr a4), some (.inr t0)]) (st' := [.inl i3, .inr (h_r M_1 (h_r M_1 t0 2) (i2).toNatClampNeg)]) (M' := M_1) rfl).trans ?_
          refine (ev_g ((h_k M_1 (h_r M_1 (h_r M_1 t0 2) (i2).toNatClampNeg) = 9 ∨ h_k M_1 (h_r M_1 (h_r M_1 t0 2) (i2).toNatClampNeg) = 14) ∧ h_in i3 (h_l M_1 (h_r M_1 (h_r M_1 t0 2) (i2).toNatClampNeg))) (ip' := 29) (ls' := [some (.inr a0), some (.inl i1), some (.inl i2), some (.inl i3), some (.inr a4), some (.inr t0)]) (st' := [.inl (h_i M_1 (h_r M_1 (h_r M_1 t0 2) (i2).toNatClampNeg) (i3).toNatClampNeg)]) (M' := M_1) c_69 rfl).trans (t_i ?_ rfl)
          exact ev_d c_69 rfl
        · skip
          exact rfl
set_option maxRecDepth 20000 in
theorem e_69_21 (a0 : Nat) (i1 : Int32) (i2 : Int32) (i3 : Int32) (a4 : Nat) (a5 : Nat) (M : mM) : ev 69 21 [some (.inr a0), some (.inl i1), some (.inl i2), some (.inl i3), some (.inr a4), some (.inr a5)] [] M = some (some (.inl 0), M) := by
  refine (ev_ns c_69 1 (ip' := 22) (ls' := [some (.inr a0), some (.inl i1), some (.inl i2), some (.inl i3), some (.inr a4), some (.inr a5)]) (st' := [.inl 0]) (M' := M) rfl).trans ?_
  exact ev_d c_69 rfl
/- 70: GranuleHall.count(I)I -/
set_option maxRecDepth 20000 in
theorem e_70_0 (a0 : Nat) (i1 : Int32) (M : mM) : ev 70 0 [some (.inr a0), some (.inl i1)] [] M = if (i1 : Int32) = 0 then (if h_k M a0 = 7 then (if 9 ≤ h_k M (h_r M a0 0) ∧ h_k M (h_r M a0 0) ≤ 13 then (some (some (.inl (Int32.ofNat (h_l M (h_r M a0 0)))), M)) else none) else none) else (if (i1 : Int32) = 1 then (ev 70 6 [some (.inr a0), some (.inl i1)] [] M) else (if (i1 : Int32) = 2 then (ev 70 6 [some (.inr a0), some (.inl i1)] [] M) else (if (i1 : Int32) = 3 then (ev 70 6 [some (.inr a0), some (.inl i1)] [] M) else (if (i1 : Int32) = 4 then (ev 70 6 [some (.inr a0), some (.inl i1)] [] M) else (if (i1 : Int32) = 5 then (ev 70 6 [some (.inr a0), some (.inl i1)] [] M) else (if (i1 : Int32) = 6 then (ev 70 6 [some (.inr a0), some (.inl i1)] [] M) else (if (i1 : Int32) = 7 then (if h_k M a0 = 7 then (if (h_r M a0 3) = 0 then (ev 70 21 [some (.inr a0), some (.inl i1)] [.inl (-1)] M) else (if h_k M a0 = 7 then (if h_k M (h_r M a0 3) = 5 then (if h_k M (h_r M (h_r M a0 3) 0) = 3 then (ev 70 21 [some (.inr a0), some (.inl i1)] [.inl (h_i M (h_r M (h_r M a0 3) 0) 0)] M) else none) else none) else none)) else none) else (if (i1 : Int32) = 8 then (if (a_rec M 7 [.inr a0, .inl 2] = true ∧ ([] : List mV).length ≤ 8) then (c_I (ev 98 0 [some (.inr a0), some (.inl 2), none, none, none, none, none] [] M) fun v_2 M_1 => some (some (.inl v_2), M_1)) else none) else (if (i1 : Int32) = 9 then (if h_k M a0 = 7 then (some (some (.inl (h_i M a0 5)), M)) else none) else (if (i1 : Int32) = 10 then (if h_k M a0 = 7 then (some (some (.inl (h_i M a0 6)), M)) else none) else (some (some (.inl (-1)), M)))))))))))) := by
  refine (ev_ns c_70 1 (ip' := 1) (ls' := [some (.inr a0), some (.inl i1)]) (st' := [.inl i1]) (M' := M) rfl).trans ?_
  refine (ev_sw c_70 (x := i1) (ls := [some (.inr a0), some (.inl i1)]) (r := []) (M := M) (d := 32) (ts := [2, 6, 6, 6, 6, 6, 6, 12, 22, 26, 29]) rfl).trans ?_
  refine t_i ?_ ?_
  · skip
    refine (ev_ns c_70 1 (ip' := 3) (ls' := [some (.inr a0), some (.inl i1)]) (st' := [.inr a0]) (M' := M) rfl).trans ?_
    refine (ev_g (h_k M a0 = 7) (ip' := 4) (ls' := [some (.inr a0), some (.inl i1)]) (st' := [.inr (h_r M a0 0)]) (M' := M) c_70 rfl).trans (t_i ?_ rfl)
    refine (ev_g (9 ≤ h_k M (h_r M a0 0) ∧ h_k M (h_r M a0 0) ≤ 13) (ip' := 5) (ls' := [some (.inr a0), some (.inl i1)]) (st' := [.inl (Int32.ofNat (h_l M (h_r M a0 0)))]) (M' := M) c_70 rfl).trans (t_i ?_ rfl)
    exact ev_d c_70 rfl
  refine t_i ?_ ?_
  · skip
    exact rfl
  refine t_i ?_ ?_
  · skip
    exact rfl
  refine t_i ?_ ?_
  · skip
    exact rfl
  refine t_i ?_ ?_
  · skip
    exact rfl
  refine t_i ?_ ?_
  · skip
    exact rfl
  refine t_i ?_ ?_
  · skip
    exact rfl
  refine t_i ?_ ?_
  · skip
    refine (ev_ns c_70 1 (ip' := 13) (ls' := [some (.inr a0), some (.inl i1)]) (st' := [.inr a0]) (M' := M) rfl).trans ?_
    refine (ev_g (h_k M a0 = 7) (ip' := 14) (ls' := [some (.inr a0), some (.inl i1)]) (st' := [.inr (h_r M a0 3)]) (M' := M) c_70 rfl).trans (t_i ?_ rfl)
    refine (ev_i ((h_r M a0 3) = 0) (i1 := 15) (l1 := [some (.inr a0), some (.inl i1)]) (s1 := []) (M1 := M) (i2 := 17) (l2 := [some (.inr a0), some (.inl i1)]) (s2 := []) (M2 := M) c_70 rfl).trans (t_i ?_ ?_)
    · skip
      exact ev_ns c_70 2 (ip' := 21) (ls' := [some (.inr a0), some (.inl i1)]) (st' := [.inl (-1)]) (M' := M) rfl
    · skip
      refine (ev_ns c_70 1 (ip' := 18) (ls' := [some (.inr a0), some (.inl i1)]) (st' := [.inr a0]) (M' := M) rfl).trans ?_
      refine (ev_g (h_k M a0 = 7) (ip' := 19) (ls' := [some (.inr a0), some (.inl i1)]) (st' := [.inr (h_r M a0 3)]) (M' := M) c_70 rfl).trans (t_i ?_ rfl)
      refine (ev_g (h_k M (h_r M a0 3) = 5) (ip' := 20) (ls' := [some (.inr a0), some (.inl i1)]) (st' := [.inr (h_r M (h_r M a0 3) 0)]) (M' := M) c_70 rfl).trans (t_i ?_ rfl)
      refine (ev_g (h_k M (h_r M (h_r M a0 3) 0) = 3) (ip' := 21) (ls' := [some (.inr a0), some (.inl i1)]) (st' := [.inl (h_i M (h_r M (h_r M a0 3) 0) 0)]) (M' := M) c_70 rfl).trans (t_i ?_ rfl)
      exact rfl
  refine t_i ?_ ?_
  · skip
    refine (ev_ns c_70 2 (ip' := 24) (ls' := [some (.inr a0), some (.inl i1)]) (st' := [.inl 2, .inr a0]) (M' := M) rfl).trans ?_
    refine (ev_gI (a_rec M 7 [.inr a0, .inl 2] = true ∧ ([] : List mV).length ≤ 8) (as := [.inr a0, .inl 2]) (rr := []) c_70 c_98 rfl).trans (t_i (t_cI ?_) rfl)
    intro v_2 M_1
    exact ev_d c_70 rfl
  refine t_i ?_ ?_
  · skip
    refine (ev_ns c_70 1 (ip' := 27) (ls' := [some (.inr a0), some (.inl i1)]) (st' := [.inr a0]) (M' := M) rfl).trans ?_
    refine (ev_g (h_k M a0 = 7) (ip' := 28) (ls' := [some (.inr a0), some (.inl i1)]) (st' := [.inl (h_i M a0 5)]) (M' := M) c_70 rfl).trans (t_i ?_ rfl)
    exact ev_d c_70 rfl
  refine t_i ?_ ?_
  · skip
    refine (ev_ns c_70 1 (ip' := 30) (ls' := [some (.inr a0), some (.inl i1)]) (st' := [.inr a0]) (M' := M) rfl).trans ?_
    refine (ev_g (h_k M a0 = 7) (ip' := 31) (ls' := [some (.inr a0), some (.inl i1)]) (st' := [.inl (h_i M a0 6)]) (M' := M) c_70 rfl).trans (t_i ?_ rfl)
    exact ev_d c_70 rfl
  refine (ev_ns c_70 1 (ip' := 33) (ls' := [some (.inr a0), some (.inl i1)]) (st' := [.inl (-1)]) (M' := M) rfl).trans ?_
  exact ev_d c_70 rfl
set_option maxRecDepth 20000 in
theorem e_70_6 (a0 : Nat) (i1 : Int32) (M : mM) : ev 70 6 [some (.inr a0), some (.inl i1)] [] M = if (a_rec M 7 [.inr a0, .inl (i1 - 1)] = true ∧ ([] : List mV).length ≤ 8) then (c_I (ev 98 0 [some (.inr a0), some (.inl (i1 - 1)), none, none, none, none, none] [] M) fun v_2 M_1 => some (some (.inl v_2), M_1)) else none := by
  refine (ev_ns c_70 4 (ip' := 10) (ls' := [some (.inr a0), some (.inl i1)]) (st' := [.inl (i1 - 1), .inr a0]) (M' := M) rfl).trans ?_
  refine (ev_gI (a_rec M 7 [.inr a0, .inl (i1 - 1)] = true ∧ ([] : List mV).length ≤ 8) (as := [.inr a0, .inl (i1 - 1)]) (rr := []) c_70 c_98 rfl).trans (t_i (t_cI ?_) rfl)
  intro v_2 M_1
  exact ev_d c_70 rfl
set_option maxRecDepth 20000 in
theorem e_70_21 (a0 : Nat) (i1 : Int32) (s0 : Int32) (M : mM) : ev 70 21 [some (.inr a0), some (.inl i1)] [.inl s0] M = some (some (.inl s0), M) := by
  exact ev_d c_70 rfl
/- 71: GranuleHall.status()I -/
set_option maxRecDepth 20000 in
theorem e_71_0 (a0 : Nat) (M : mM) : ev 71 0 [some (.inr a0)] [] M = if h_k M a0 = 7 then (some (some (.inl (h_i M a0 4)), M)) else none := by
  refine (ev_ns c_71 1 (ip' := 1) (ls' := [some (.inr a0)]) (st' := [.inr a0]) (M' := M) rfl).trans ?_
  refine (ev_g (h_k M a0 = 7) (ip' := 2) (ls' := [some (.inr a0)]) (st' := [.inl (h_i M a0 4)]) (M' := M) c_71 rfl).trans (t_i ?_ rfl)
  exact ev_d c_71 rfl
/- 72: GranuleHall.astray()I -/
set_option maxRecDepth 20000 in
theorem e_72_0 (a0 : Nat) (M : mM) : ev 72 0 [some (.inr a0), none, none, none, none, none] [] M = if (a_rec M 7 [.inr a0] = true ∧ ([] : List mV).length ≤ 8) then (c_V (ev 101 0 [some (.inr a0), none, none, none, none, none] [] M) fun M_1 => if h_k M_1 a0 = 7 then (if 9 ≤ h_k M_1 (h_r M_1 a0 0) ∧ h_k M_1 (h_r M_1 a0 0) ≤ 13 then (ev 72 12 [some (.inr a0), some (.inl 0), some (.inr (h_r M_1 a0 0)), some (.inl (Int32.ofNat (h_l M_1 (h_r M_1 a0 0)))), some (.inl 0), none] [] M_1) else none) else none) else none := by
  refine (ev_ns c_72 1 (ip' := 1) (ls' := [some (.inr a0), none, none, none, none, none]) (st' := [.inr a0]) (M' := M) rfl).trans ?_
  refine (ev_gV (a_rec M 7 [.inr a0] = true ∧ ([] : List mV).length ≤ 8) (as := [.inr a0]) (rr := []) c_72 c_101 rfl).trans (t_i (t_cV ?_) rfl)
  intro M_1
  refine (ev_ns c_72 3 (ip' := 5) (ls' := [some (.inr a0), some (.inl 0), none, none, none, none]) (st' := [.inr a0]) (M' := M_1) rfl).trans ?_
  refine (ev_g (h_k M_1 a0 = 7) (ip' := 6) (ls' := [some (.inr a0), some (.inl 0), none, none, none, none]) (st' := [.inr (h_r M_1 a0 0)]) (M' := M_1) c_72 rfl).trans (t_i ?_ rfl)
  refine (ev_ns c_72 2 (ip' := 8) (ls' := [some (.inr a0), some (.inl 0), some (.inr (h_r M_1 a0 0)), none, none, none]) (st' := [.inr (h_r M_1 a0 0)]) (M' := M_1) rfl).trans ?_
  refine (ev_g (9 ≤ h_k M_1 (h_r M_1 a0 0) ∧ h_k M_1 (h_r M_1 a0 0) ≤ 13) (ip' := 9) (ls' := [some (.inr a0), some (.inl 0), some (.inr (h_r M_1 a0 0)), none, none, none]) (st' := [.inl (Int32.ofNat (h_l M_1 (h_r M_1 a0 0)))]) (M' := M_1) c_72 rfl).trans (t_i ?_ rfl)
  exact ev_ns c_72 3 (ip' := 12) (ls' := [some (.inr a0), some (.inl 0), some (.inr (h_r M_1 a0 0)), some (.inl (Int32.ofNat (h_l M_1 (h_r M_1 a0 0)))), some (.inl 0), none]) (st' := []) (M' := M_1) rfl
set_option maxRecDepth 20000 in
theorem e_72_12 (a0 : Nat) (i1 : Int32) (a2 : Nat) (i3 : Int32) (i4 : Int32) (o5 : Option mV) (M : mM) : ev 72 12 [some (.inr a0), some (.inl i1), some (.inr a2), some (.inl i3), some (.inl i4), o5] [] M = if i3 ≤ i4 then (some (some (.inl i1), M)) else (if (h_k M a2 = 11 ∨ h_k M a2 = 12 ∨ h_k M a2 = 13) ∧ h_in i4 (h_l M a2) then (if (a_rec M 7 [.inr a0, .inr (h_r M a2 (i4).toNatClampNeg)] = true ∧ ([] : List mV).length ≤ 8) then (c_I (ev 102 0 [some (.inr a0), some (.inr (h_r M a2 (i4).toNatClampNeg))] [] M) fun v_2 M_1 => if v_2 = 0 then (ev 72 24 [some (.inr a0), some (.inl i1), some (.inr a2), some (.inl i3), some (.inl i4), some (.inr (h_r M a2 (i4).toNatClampNeg))] [] M_1) else (ev 72 24 [some (.inr a0), some (.inl (i1 + 1)), some (.inr a2), some (.inl i3), some (.inl i4), some (.inr (h_r M a2 (i4).toNatClampNeg))] [] M_1)) else none) else none) := by
  refine (ev_ns c_72 2 (ip' := 14) (ls' := [some (.inr a0), some (.inl i1), some (.inr a2), some (.inl i3), some (.inl i4), o5]) (st' := [.inl i3, .inl i4]) (M' := M) rfl).trans ?_
  refine (ev_i (i3 ≤ i4) (i1 := 26) (l1 := [some (.inr a0), some (.inl i1), some (.inr a2), some (.inl i3), some (.inl i4), o5]) (s1 := []) (M1 := M) (i2 := 15) (l2 := [some (.inr a0), some (.inl i1), some (.inr a2), some (.inl i3), some (.inl i4), o5]) (s2 := []) (M2 := M) c_72 rfl).trans (t_i ?_ ?_)
  · skip
    refine (ev_ns c_72 1 (ip' := 27) (ls' := [some (.inr a0), some (.inl i1), some (.inr a2), some (.inl i3), some (.inl i4), o5]) (st' := [.inl i1]) (M' := M) rfl).trans ?_
    exact ev_d c_72 rfl
  · skip
    refine (ev_ns c_72 2 (ip' := 17) (ls' := [some (.inr a0), some (.inl i1), some (.inr a2), some (.inl i3), some (.inl i4), o5]) (st' := [.inl i4, .inr a2]) (M' := M) rfl).trans ?_
    refine (ev_g ((h_k M a2 = 11 ∨ h_k M a2 = 12 ∨ h_k M a2 = 13) ∧ h_in i4 (h_l M a2)) (ip' := 18) (ls' := [some (.inr a0), some (.inl i1), some (.inr a2), some (.inl i3), some (.inl i4), o5]) (st' := [.inr (h_r M a2 (i4).toNatClampNeg)]) (M' := M) c_72 rfl).trans (t_i ?_ rfl)
    refine (ev_ns c_72 3 (ip' := 21) (ls' := [some (.inr a0), some (.inl i1), some (.inr a2), some (.inl i3), some (.inl i4), some (.inr (h_r M a2 (i4).toNatClampNeg))]) (st' := [.inr (h_r M a2 (i4).toNatClampNeg), .inr a0]) (M' := M) rfl).trans ?_
    refine (ev_gI (a_rec M 7 [.inr a0, .inr (h_r M a2 (i4).toNatClampNeg)] = true ∧ ([] : List mV).length ≤ 8) (as := [.inr a0, .inr (h_r M a2 (i4).toNatClampNeg)]) (rr := []) c_72 c_102 rfl).trans (t_i (t_cI ?_) rfl)
    intro v_2 M_1
    refine (ev_i (v_2 = 0) (i1 := 24) (l1 := [some (.inr a0), some (.inl i1), some (.inr a2), some (.inl i3), some (.inl i4), some (.inr (h_r M a2 (i4).toNatClampNeg))]) (s1 := []) (M1 := M_1) (i2 := 23) (l2 := [some (.inr a0), some (.inl i1), some (.inr a2), some (.inl i3), some (.inl i4), some (.inr (h_r M a2 (i4).toNatClampNeg))]) (s2 := []) (M2 := M_1) c_72 rfl).trans (t_i ?_ ?_)
    · skip
      exact rfl
    · skip
      exact ev_ns c_72 1 (ip' := 24) (ls' := [some (.inr a0), some (.inl (i1 + 1)), some (.inr a2), some (.inl i3), some (.inl i4), some (.inr (h_r M a2 (i4).toNatClampNeg))]) (st' := []) (M' := M_1) rfl
set_option maxRecDepth 20000 in
theorem e_72_24 (a0 : Nat) (i1 : Int32) (a2 : Nat) (i3 : Int32) (i4 : Int32) (a5 : Nat) (M : mM) : ev 72 24 [some (.inr a0), some (.inl i1), some (.inr a2), some (.inl i3), some (.inl i4), some (.inr a5)] [] M = ev 72 12 [some (.inr a0), some (.inl i1), some (.inr a2), some (.inl i3), some (.inl (i4 + 1)), some (.inr a5)] [] M := by
  exact ev_ns c_72 2 (ip' := 12) (ls' := [some (.inr a0), some (.inl i1), some (.inr a2), some (.inl i3), some (.inl (i4 + 1)), some (.inr a5)]) (st' := []) (M' := M) rfl
/- 73: GranuleHall.done(I)I -/
set_option maxRecDepth 20000 in
theorem e_73_0 (a0 : Nat) (i1 : Int32) (M : mM) : ev 73 0 [some (.inr a0), some (.inl i1)] [] M = if h_k M a0 = 7 then (some (some (.inl i1), h_si M a0 4 0)) else none := by
  refine (ev_ns c_73 2 (ip' := 2) (ls' := [some (.inr a0), some (.inl i1)]) (st' := [.inl 0, .inr a0]) (M' := M) rfl).trans ?_
  refine (ev_g (h_k M a0 = 7) (ip' := 3) (ls' := [some (.inr a0), some (.inl i1)]) (st' := []) (M' := h_si M a0 4 0) c_73 rfl).trans (t_i ?_ rfl)
  refine (ev_ns c_73 1 (ip' := 4) (ls' := [some (.inr a0), some (.inl i1)]) (st' := [.inl i1]) (M' := h_si M a0 4 0) rfl).trans ?_
  exact ev_d c_73 rfl
/- 74: GranuleHall.yes()Z -/
set_option maxRecDepth 20000 in
theorem e_74_0 (a0 : Nat) (M : mM) : ev 74 0 [some (.inr a0)] [] M = if h_k M a0 = 7 then (some (some (.inl 1), h_si M a0 4 0)) else none := by
  refine (ev_ns c_74 2 (ip' := 2) (ls' := [some (.inr a0)]) (st' := [.inl 0, .inr a0]) (M' := M) rfl).trans ?_
  refine (ev_g (h_k M a0 = 7) (ip' := 3) (ls' := [some (.inr a0)]) (st' := []) (M' := h_si M a0 4 0) c_74 rfl).trans (t_i ?_ rfl)
  refine (ev_ns c_74 1 (ip' := 4) (ls' := [some (.inr a0)]) (st' := [.inl 1]) (M' := h_si M a0 4 0) rfl).trans ?_
  exact ev_d c_74 rfl
/- 75: GranuleHall.none(I)I -/
set_option maxRecDepth 20000 in
theorem e_75_0 (a0 : Nat) (i1 : Int32) (M : mM) : ev 75 0 [some (.inr a0), some (.inl i1)] [] M = if h_k M a0 = 7 then (some (some (.inl (-1)), h_si M a0 4 i1)) else none := by
  refine (ev_ns c_75 2 (ip' := 2) (ls' := [some (.inr a0), some (.inl i1)]) (st' := [.inl i1, .inr a0]) (M' := M) rfl).trans ?_
  refine (ev_g (h_k M a0 = 7) (ip' := 3) (ls' := [some (.inr a0), some (.inl i1)]) (st' := []) (M' := h_si M a0 4 i1) c_75 rfl).trans (t_i ?_ rfl)
  refine (ev_ns c_75 1 (ip' := 4) (ls' := [some (.inr a0), some (.inl i1)]) (st' := [.inl (-1)]) (M' := h_si M a0 4 i1) rfl).trans ?_
  exact ev_d c_75 rfl
/- 76: GranuleHall.no(I)Z -/
set_option maxRecDepth 20000 in
theorem e_76_0 (a0 : Nat) (i1 : Int32) (M : mM) : ev 76 0 [some (.inr a0), some (.inl i1)] [] M = if h_k M a0 = 7 then (some (some (.inl 0), h_si M a0 4 i1)) else none := by
  refine (ev_ns c_76 2 (ip' := 2) (ls' := [some (.inr a0), some (.inl i1)]) (st' := [.inl i1, .inr a0]) (M' := M) rfl).trans ?_
  refine (ev_g (h_k M a0 = 7) (ip' := 3) (ls' := [some (.inr a0), some (.inl i1)]) (st' := []) (M' := h_si M a0 4 i1) c_76 rfl).trans (t_i ?_ rfl)
  refine (ev_ns c_76 1 (ip' := 4) (ls' := [some (.inr a0), some (.inl i1)]) (st' := [.inl 0]) (M' := h_si M a0 4 i1) rfl).trans ?_
  exact ev_d c_76 rfl
/- 77: GranuleHall.fault()I -/
set_option maxRecDepth 20000 in
theorem e_77_0 (a0 : Nat) (M : mM) : ev 77 0 [some (.inr a0)] [] M = if h_k M a0 = 7 then (if h_k M a0 = 7 then (if (a_rec (h_si M a0 6 ((h_i M a0 6) + 1)) 7 [.inr a0, .inl 1] = true ∧ ([] : List mV).length ≤ 8) then (c_I (ev 73 0 [some (.inr a0), some (.inl 1)] [] (h_si M a0 6 ((h_i M a0 6) + 1))) fun v_2 M_1 => some (some (.inl v_2), M_1)) else none) else none) else none := by
  refine (ev_ns c_77 2 (ip' := 2) (ls' := [some (.inr a0)]) (st' := [.inr a0, .inr a0]) (M' := M) rfl).trans ?_
  refine (ev_g (h_k M a0 = 7) (ip' := 3) (ls' := [some (.inr a0)]) (st' := [.inl (h_i M a0 6), .inr a0]) (M' := M) c_77 rfl).trans (t_i ?_ rfl)
  refine (ev_ns c_77 2 (ip' := 5) (ls' := [some (.inr a0)]) (st' := [.inl ((h_i M a0 6) + 1), .inr a0]) (M' := M) rfl).trans ?_
  refine (ev_g (h_k M a0 = 7) (ip' := 6) (ls' := [some (.inr a0)]) (st' := []) (M' := h_si M a0 6 ((h_i M a0 6) + 1)) c_77 rfl).trans (t_i ?_ rfl)
  refine (ev_ns c_77 2 (ip' := 8) (ls' := [some (.inr a0)]) (st' := [.inl 1, .inr a0]) (M' := h_si M a0 6 ((h_i M a0 6) + 1)) rfl).trans ?_
  refine (ev_gI (a_rec (h_si M a0 6 ((h_i M a0 6) + 1)) 7 [.inr a0, .inl 1] = true ∧ ([] : List mV).length ≤ 8) (as := [.inr a0, .inl 1]) (rr := []) c_77 c_73 rfl).trans (t_i (t_cI ?_) rfl)
  intro v_2 M_1
  exact ev_d c_77 rfl
/- 78: GranuleHall.exit(LGranuleHall$Rec;IIII)I -/
set_option maxRecDepth 20000 in
theorem e_78_0 (a0 : Nat) (a1 : Nat) (i2 : Int32) (i3 : Int32) (i4 : Int32) (i5 : Int32) (M : mM) : ev 78 0 [some (.inr a0), some (.inr a1), some (.inl i2), some (.inl i3), some (.inl i4), some (.inl i5), none] [] M = if (a_rec M 5 [.inr a1] = true ∧ ([] : List mV).length ≤ 8) then (c_R (ev 26 0 [some (.inr a1)] [] M) fun u_2 M_1 => if u_2 = 0 then (ev 78 29 [some (.inr a0), some (.inr a1), some (.inl i2), some (.inl i3), some (.inl i4), some (.inl i5), some (.inr u_2)] [] M_1) else (if h_k M_1 u_2 = 3 then (if (a_rec M_1 0 [.inr (h_r M_1 u_2 1), .inl 0] = true ∧ ([] : List mV).length ≤ 8) then (c_V (ev 183 0 [some (.inr (h_r M_1 u_2 1)), some (.inl 0), none, none] [] M_1) fun M_3 => if h_k M_3 u_2 = 3 then (if h_k M_3 (h_r M_3 u_2 1) = 9 ∧ h_in 0 (h_l M_3 (h_r M_3 u_2 1)) then (if h_k (h_si M_3 (h_r M_3 u_2 1) 0 i2) u_2 = 3 then (if h_k (h_si M_3 (h_r M_3 u_2 1) 0 i2) (h_r (h_si M_3 (h_r M_3 u_2 1) 0 i2) u_2 1) = 9 ∧ h_in 1 (h_l (h_si M_3 (h_r M_3 u_2 1) 0 i2) (h_r (h_si M_3 (h_r M_3 u_2 1) 0 i2) u_2 1)) then (if h_k (h_si (h_si M_3 (h_r M_3 u_2 1) 0 i2) (h_r (h_si M_3 (h_r M_3 u_2 1) 0 i2) u_2 1) 1 i3) u_2 = 3 then (if h_k (h_si (h_si M_3 (h_r M_3 u_2 1) 0 i2) (h_r (h_si M_3 (h_r M_3 u_2 1) 0 i2) u_2 1) 1 i3) (h_r (h_si (h_si M_3 (h_r M_3 u_2 1) 0 i2) (h_r (h_si M_3 (h_r M_3 u_2 1) 0 i2) u_2 1) 1 i3) u_2 1) = 9 ∧ h_in 2 (h_l (h_si (h_si M_3 (h_r M_3 u_2 1) 0 i2) (h_r (h_si M_3 (h_r M_3 u_2 1) 0 i2) u_2 1) 1 i3) (h_r (h_si (h_si M_3 (h_r M_3 u_2 1) 0 i2) (h_r (h_si M_3 (h_r M_3 u_2 1) 0 i2) u_2 1) 1 i3) u_2 1)) then (if h_k (h_si (h_si (h_si M_3 (h_r M_3 u_2 1) 0 i2) (h_r (h_si M_3 (h_r M_3 u_2 1) 0 i2) u_2 1) 1 i3) (h_r (h_si (h_si M_3 (h_r M_3 u_2 1) 0 i2) (h_r (h_si M_3 (h_r M_3 u_2 1) 0 i2) u_2 1) 1 i3) u_2 1) 2 i4) u_2 = 3 then (if h_k (h_si (h_si (h_si M_3 (h_r M_3 u_2 1) 0 i2) (h_r (h_si M_3 (h_r M_3 u_2 1) 0 i2) u_2 1) 1 i3) (h_r (h_si (h_si M_3 (h_r M_3 u_2 1) 0 i2) (h_r (h_si M_3 (h_r M_3 u_2 1) 0 i2) u_2 1) 1 i3) u_2 1) 2 i4) (h_r (h_si (h_si (h_si M_3 (h_r M_3 u_2 1) 0 i2) (h_r (h_si M_3 (h_r M_3 u_2 1) 0 i2) u_2 1) 1 i3) (h_r (h_si (h_si M_3 (h_r M_3 u_2 1) 0 i2) (h_r (h_si M_3 (h_r M_3 u_2 1) 0 i2) u_2 1) 1 i3) u_2 1) 2 i4) u_2 1) = 9 ∧ h_in 3 (h_l (h_si (h_si (h_si M_3 (h_r M_3 u_2 1) 0 i2) (h_r (h_si M_3 (h_r M_3 u_2 1) 0 i2) u_2 1) 1 i3) (h_r (h_si (h_si M_3 (h_r M_3 u_2 1) 0 i2) (h_r (h_si M_3 (h_r M_3 u_2 1) 0 i2) u_2 1) 1 i3) u_2 1) 2 i4) (h_r (h_si (h_si (h_si M_3 (h_r M_3 u_2 1) 0 i2) (h_r (h_si M_3 (h_r M_3 u_2 1) 0 i2) u_2 1) 1 i3) (h_r (h_si (h_si M_3 (h_r M_3 u_2 1) 0 i2) (h_r (h_si M_3 (h_r M_3 u_2 1) 0 i2) u_2 1) 1 i3) u_2 1) 2 i4) u_2 1)) then (ev 78 29 [some (.inr a0), some (.inr a1), some (.inl i2), some (.inl i3), some (.inl i4), some (.inl i5), some (.inr u_2)] [] (h_si (h_si (h_si (h_si M_3 (h_r M_3 u_2 1) 0 i2) (h_r (h_si M_3 (h_r M_3 u_2 1) 0 i2) u_2 1) 1 i3) (h_r (h_si (h_si M_3 (h_r M_3 u_2 1) 0 i2) (h_r (h_si M_3 (h_r M_3 u_2 1) 0 i2) u_2 1) 1 i3) u_2 1) 2 i4) (h_r (h_si (h_si (h_si M_3 (h_r M_3 u_2 1) 0 i2) (h_r (h_si M_3 (h_r M_3 u_2 1) 0 i2) u_2 1) 1 i3) (h_r (h_si (h_si M_3 (h_r M_3 u_2 1) 0 i2) (h_r (h_si M_3 (h_r M_3 u_2 1) 0 i2) u_2 1) 1 i3) u_2 1) 2 i4) u_2 1) 3 i5)) else none) else none) else none) else none) else none) else none) else none) else none) else none) else none)) else none := by
  refine (ev_ns c_78 1 (ip' := 1) (ls' := [some (.inr a0), some (.inr a1), some (.inl i2), some (.inl i3), some (.inl i4), some (.inl i5), none]) (st' := [.inr a1]) (M' := M) rfl).trans ?_
  refine (ev_gR (a_rec M 5 [.inr a1] = true ∧ ([] : List mV).length ≤ 8) (as := [.inr a1]) (rr := []) c_78 c_26 rfl).trans (t_i (t_cR ?_) rfl)
  intro u_2 M_1
  refine (ev_ns c_78 2 (ip' := 4) (ls' := [some (.inr a0), some (.inr a1), some (.inl i2), some (.inl i3), some (.inl i4), some (.inl i5), some (.inr u_2)]) (st' := [.inr u_2]) (M' := M_1) rfl).trans ?_
  refine (ev_i (u_2 = 0) (i1 := 29) (l1 := [some (.inr a0), some (.inr a1), some (.inl i2), some (.inl i3), some (.inl i4), some (.inl i5), some (.inr u_2)]) (s1 := []) (M1 := M_1) (i2 := 5) (l2 := [some (.inr a0), some (.inr a1), some (.inl i2), some (.inl i3), some (.inl i4), some (.inl i5), some (.inr u_2)]) (s2 := []) (M2 := M_1) c_78 rfl).trans (t_i ?_ ?_)
  · skip
    exact rfl
  · skip
    refine (ev_ns c_78 1 (ip' := 6) (ls' := [some (.inr a0), some (.inr a1), some (.inl i2), some (.inl i3), some (.inl i4), some (.inl i5), some (.inr u_2)]) (st' := [.inr u_2]) (M' := M_1) rfl).trans ?_
    refine (ev_g (h_k M_1 u_2 = 3) (ip' := 7) (ls' := [some (.inr a0), some (.inr a1), some (.inl i2), some (.inl i3), some (.inl i4), some (.inl i5), some (.inr u_2)]) (st' := [.inr (h_r M_1 u_2 1)]) (M' := M_1) c_78 rfl).trans (t_i ?_ rfl)
    refine (ev_ns c_78 1 (ip' := 8) (ls' := [some (.inr a0), some (.inr a1), some (.inl i2), some (.inl i3), some (.inl i4), some (.inl i5), some (.inr u_2)]) (st' := [.inl 0, .inr (h_r M_1 u_2 1)]) (M' := M_1) rfl).trans ?_
    refine (ev_gV (a_rec M_1 0 [.inr (h_r M_1 u_2 1), .inl 0] = true ∧ ([] : List mV).length ≤ 8) (as := [.inr (h_r M_1 u_2 1), .inl 0]) (rr := []) c_78 c_183 rfl).trans (t_i (t_cV ?_) rfl)
    intro M_3
    refine (ev_ns c_78 1 (ip' := 10) (ls' := [some (.inr a0), some (.inr a1), some (.inl i2), some (.inl i3), some (.inl i4), some (.inl i5), some (.inr u_2)]) (st' := [.inr u_2]) (M' := M_3) rfl).trans ?_
    refine (ev_g (h_k M_3 u_2 = 3) (ip' := 11) (ls' := [some (.inr a0), some (.inr a1), some (.inl i2), some (.inl i3), some (.inl i4), some (.inl i5), some (.inr u_2)]) (st' := [.inr (h_r M_3 u_2 1)]) (M' := M_3) c_78 rfl).trans (t_i ?_ rfl)
    refine (ev_ns c_78 2 (ip' := 13) (ls' := [some (.inr a0), some (.inr a1), some (.inl i2), some (.inl i3), some (.inl i4), some (.inl i5), some (.inr u_2)]) (st' := [.inl i2, .inl 0, .inr (h_r M_3 u_2 1)]) (M' := M_3) rfl).trans ?_
    refine (ev_g (h_k M_3 (h_r M_3 u_2 1) = 9 ∧ h_in 0 (h_l M_3 (h_r M_3 u_2 1))) (ip' := 14) (ls' := [some (.inr a0), some (.inr a1), some (.inl i2), some (.inl i3), some (.inl i4), some (.inl i5), some (.inr u_2)]) (st' := []) (M' := h_si M_3 (h_r M_3 u_2 1) 0 i2) c_78 rfl).trans (t_i ?_ rfl)
    refine (ev_ns c_78 1 (ip' := 15) (ls' := [some (.inr a0), some (.inr a1), some (.inl i2), some (.inl i3), some (.inl i4), some (.inl i5), some (.inr u_2)]) (st' := [.inr u_2]) (M' := h_si M_3 (h_r M_3 u_2 1) 0 i2) rfl).trans ?_
    refine (ev_g (h_k (h_si M_3 (h_r M_3 u_2 1) 0 i2) u_2 = 3) (ip' := 16) (ls' := [some (.inr a0), some (.inr a1), some (.inl i2), some (.inl i3), some (.inl i4), some (.inl i5), some (.inr u_2)]) (st' := [.inr (h_r (h_si M_3 (h_r M_3 u_2 1) 0 i2) u_2 1)]) (M' := h_si M_3 (h_r M_3 u_2 1) 0 i2) c_78 rfl).trans (t_i ?_ rfl)
    refine (ev_ns c_78 2 (ip' := 18) (ls' := [some (.inr a0), some (.inr a1), some (.inl i2), some (.inl i3), some (.inl i4), some (.inl i5), some (.inr u_2)]) (st' := [.inl i3, .inl 1, .inr (h_r (h_si M_3 (h_r M_3 u_2 1) 0 i2) u_2 1)]) (M' := h_si M_3 (h_r M_3 u_2 1) 0 i2) rfl).trans ?_
    refine (ev_g (h_k (h_si M_3 (h_r M_3 u_2 1) 0 i2) (h_r (h_si M_3 (h_r M_3 u_2 1) 0 i2) u_2 1) = 9 ∧ h_in 1 (h_l (h_si M_3 (h_r M_3 u_2 1) 0 i2) (h_r (h_si M_3 (h_r M_3 u_2 1) 0 i2) u_2 1))) (ip' := 19) (ls' := [some (.inr a0), some (.inr a1), some (.inl i2), some (.inl i3), some (.inl i4), some (.inl i5), some (.inr u_2)]) (st' := []) (M' := h_si (h_si M_3 (h_r M_3 u_2 1) 0 i2) (h_r (h_si M_3 (h_r M_3 u_2 1) 0 i2) u_2 1) 1 i3) c_78 rfl).trans (t_i ?_ rfl)
    refine (ev_ns c_78 1 (ip' := 20) (ls' := [some (.inr a0), some (.inr a1), some (.inl i2), some (.inl i3), some (.inl i4), some (.inl i5), some (.inr u_2)]) (st' := [.inr u_2]) (M' := h_si (h_si M_3 (h_r M_3 u_2 1) 0 i2) (h_r (h_si M_3 (h_r M_3 u_2 1) 0 i2) u_2 1) 1 i3) rfl).trans ?_
    refine (ev_g (h_k (h_si (h_si M_3 (h_r M_3 u_2 1) 0 i2) (h_r (h_si M_3 (h_r M_3 u_2 1) 0 i2) u_2 1) 1 i3) u_2 = 3) (ip' := 21) (ls' := [some (.inr a0), some (.inr a1), some (.inl i2), some (.inl i3), some (.inl i4), some (.inl i5), some (.inr u_2)]) (st' := [.inr (h_r (h_si (h_si M_3 (h_r M_3 u_2 1) 0 i2) (h_r (h_si M_3 (h_r M_3 u_2 1) 0 i2) u_2 1) 1 i3) u_2 1)]) (M' := h_si (h_si M_3 (h_r M_3 u_2 1) 0 i2) (h_r (h_si M_3 (h_r M_3 u_2 1) 0 i2) u_2 1) 1 i3) c_78 rfl).trans (t_i ?_ rfl)
    refine (ev_ns c_78 2 (ip' := 23) (ls' := [some (.inr a0), some (.inr a1), some (.inl i2), some (.inl i3), some (.inl i4), some (.inl i5), some (.inr u_2)]) (st' := [.inl i4, .inl 2, .inr (h_r (h_si (h_si M_3 (h_r M_3 u_2 1) 0 i2) (h_r (h_si M_3 (h_r M_3 u_2 1) 0 i2) u_2 1) 1 i3) u_2 1)]) (M' := h_si (h_si M_3 (h_r M_3 u_2 1) 0 i2) (h_r (h_si M_3 (h_r M_3 u_2 1) 0 i2) u_2 1) 1 i3) rfl).trans ?_
    refine (ev_g (h_k (h_si (h_si M_3 (h_r M_3 u_2 1) 0 i2) (h_r (h_si M_3 (h_r M_3 u_2 1) 0 i2) u_2 1) 1 i3) (h_r (h_si (h_si M_3 (h_r M_3 u_2 1) 0 i2) (h_r (h_si M_3 (h_r M_3 u_2 1) 0 i2) u_2 1) 1 i3) u_2 1) = 9 ∧ h_in 2 (h_l (h_si (h_si M_3 (h_r M_3 u_2 1) 0 i2) (h_r (h_si M_3 (h_r M_3 u_2 1) 0 i2) u_2 1) 1 i3) (h_r (h_si (h_si M_3 (h_r M_3 u_2 1) 0 i2) (h_r (h_si M_3 (h_r M_3 u_2 1) 0 i2) u_2 1) 1 i3) u_2 1))) (ip' := 24) (ls' := [some (.inr a0), some (.inr a1), some (.inl i2), some (.inl i3), some (.inl i4), some (.inl i5), some (.inr u_2)]) (st' := []) (M' := h_si (h_si (h_si M_3 (h_r M_3 u_2 1) 0 i2) (h_r (h_si M_3 (h_r M_3 u_2 1) 0 i2) u_2 1) 1 i3) (h_r (h_si (h_si M_3 (h_r M_3 u_2 1) 0 i2) (h_r (h_si M_3 (h_r M_3 u_2 1) 0 i2) u_2 1) 1 i3) u_2 1) 2 i4) c_78 rfl).trans (t_i ?_ rfl)
    refine (ev_ns c_78 1 (ip' := 25) (ls' := [some (.inr a0), some (.inr a1), some (.inl i2), some (.inl i3), some (.inl i4), some (.inl i5), some (.inr u_2)]) (st' := [.inr u_2]) (M' := h_si (h_si (h_si M_3 (h_r M_3 u_2 1) 0 i2) (h_r (h_si M_3 (h_r M_3 u_2 1) 0 i2) u_2 1) 1 i3) (h_r (h_si (h_si M_3 (h_r M_3 u_2 1) 0 i2) (h_r (h_si M_3 (h_r M_3 u_2 1) 0 i2) u_2 1) 1 i3) u_2 1) 2 i4) rfl).trans ?_
    refine (ev_g (h_k (h_si (h_si (h_si M_3 (h_r M_3 u_2 1) 0 i2) (h_r (h_si M_3 (h_r M_3 u_2 1) 0 i2) u_2 1) 1 i3) (h_r (h_si (h_si M_3 (h_r M_3 u_2 1) 0 i2) (h_r (h_si M_3 (h_r M_3 u_2 1) 0 i2) u_2 1) 1 i3) u_2 1) 2 i4) u_2 = 3) (ip' := 26) (ls' := [some (.inr a0), some (.inr a1), some (.inl i2), some (.inl i3), some (.inl i4), some (.inl i5), some (.inr u_2)]) (st' := [.inr (h_r (h_si (h_si (h_si M_3 (h_r M_3 u_2 1) 0 i2) (h_r (h_si M_3 (h_r M_3 u_2 1) 0 i2) u_2 1) 1 i3) (h_r (h_si (h_si M_3 (h_r M_3 u_2 1) 0 i2) (h_r (h_si M_3 (h_r M_3 u_2 1) 0 i2) u_2 1) 1 i3) u_2 1) 2 i4) u_2 1)]) (M' := h_si (h_si (h_si M_3 (h_r M_3 u_2 1) 0 i2) (h_r (h_si M_3 (h_r M_3 u_2 1) 0 i2) u_2 1) 1 i3) (h_r (h_si (h_si M_3 (h_r M_3 u_2 1) 0 i2) (h_r (h_si M_3 (h_r M_3 u_2 1) 0 i2) u_2 1) 1 i3) u_2 1) 2 i4) c_78 rfl).trans (t_i ?_ rfl)
    refine (ev_ns c_78 2 (ip' := 28) (ls' := [some (.inr a0), some (.inr a1), some (.inl i2), some (.inl i3), some (.inl i4), some (.inl i5), some (.inr u_2)]) (st' := [.inl i5, .inl 3, .inr (h_r (h_si (h_si (h_si M_3 (h_r M_3 u_2 1) 0 i2) (h_r (h_si M_3 (h_r M_3 u_2 1) 0 i2) u_2 1) 1 i3) (h_r (h_si (h_si M_3 (h_r M_3 u_2 1) 0 i2) (h_r (h_si M_3 (h_r M_3 u_2 1) 0 i2) u_2 1) 1 i3) u_2 1) 2 i4) u_2 1)]) (M' := h_si (h_si (h_si M_3 (h_r M_3 u_2 1) 0 i2) (h_r (h_si M_3 (h_r M_3 u_2 1) 0 i2) u_2 1) 1 i3) (h_r (h_si (h_si M_3 (h_r M_3 u_2 1) 0 i2) (h_r (h_si M_3 (h_r M_3 u_2 1) 0 i2) u_2 1) 1 i3) u_2 1) 2 i4) rfl).trans ?_
    refine (ev_g (h_k (h_si (h_si (h_si M_3 (h_r M_3 u_2 1) 0 i2) (h_r (h_si M_3 (h_r M_3 u_2 1) 0 i2) u_2 1) 1 i3) (h_r (h_si (h_si M_3 (h_r M_3 u_2 1) 0 i2) (h_r (h_si M_3 (h_r M_3 u_2 1) 0 i2) u_2 1) 1 i3) u_2 1) 2 i4) (h_r (h_si (h_si (h_si M_3 (h_r M_3 u_2 1) 0 i2) (h_r (h_si M_3 (h_r M_3 u_2 1) 0 i2) u_2 1) 1 i3) (h_r (h_si (h_si M_3 (h_r M_3 u_2 1) 0 i2) (h_r (h_si M_3 (h_r M_3 u_2 1) 0 i2) u_2 1) 1 i3) u_2 1) 2 i4) u_2 1) = 9 ∧ h_in 3 (h_l (h_si (h_si (h_si M_3 (h_r M_3 u_2 1) 0 i2) (h_r (h_si M_3 (h_r M_3 u_2 1) 0 i2) u_2 1) 1 i3) (h_r (h_si (h_si M_3 (h_r M_3 u_2 1) 0 i2) (h_r (h_si M_3 (h_r M_3 u_2 1) 0 i2) u_2 1) 1 i3) u_2 1) 2 i4) (h_r (h_si (h_si (h_si M_3 (h_r M_3 u_2 1) 0 i2) (h_r (h_si M_3 (h_r M_3 u_2 1) 0 i2) u_2 1) 1 i3) (h_r (h_si (h_si M_3 (h_r M_3 u_2 1) 0 i2) (h_r (h_si M_3 (h_r M_3 u_2 1) 0 i2) u_2 1) 1 i3) u_2 1) 2 i4) u_2 1))) (ip' := 29) (ls' := [some (.inr a0), some (.inr a1), some (.inl i2), some (.inl i3), some (.inl i4), some (.inl i5), some (.inr u_2)]) (st' := []) (M' := h_si (h_si (h_si (h_si M_3 (h_r M_3 u_2 1) 0 i2) (h_r (h_si M_3 (h_r M_3 u_2 1) 0 i2) u_2 1) 1 i3) (h_r (h_si (h_si M_3 (h_r M_3 u_2 1) 0 i2) (h_r (h_si M_3 (h_r M_3 u_2 1) 0 i2) u_2 1) 1 i3) u_2 1) 2 i4) (h_r (h_si (h_si (h_si M_3 (h_r M_3 u_2 1) 0 i2) (h_r (h_si M_3 (h_r M_3 u_2 1) 0 i2) u_2 1) 1 i3) (h_r (h_si (h_si M_3 (h_r M_3 u_2 1) 0 i2) (h_r (h_si M_3 (h_r M_3 u_2 1) 0 i2) u_2 1) 1 i3) u_2 1) 2 i4) u_2 1) 3 i5) c_78 rfl).trans (t_i ?_ rfl)
    exact rfl
set_option maxRecDepth 20000 in
theorem e_78_29 (a0 : Nat) (a1 : Nat) (i2 : Int32) (i3 : Int32) (i4 : Int32) (i5 : Int32) (a6 : Nat) (M : mM) : ev 78 29 [some (.inr a0), some (.inr a1), some (.inl i2), some (.inl i3), some (.inl i4), some (.inl i5), some (.inr a6)] [] M = if h_k M a0 = 7 then (if h_k (h_sr M a0 3 0) a0 = 7 then (if h_k (h_sr M a0 3 0) a0 = 7 then (if (a_rec (h_si (h_sr M a0 3 0) a0 5 ((h_i (h_sr M a0 3 0) a0 5) + 1)) 7 [.inr a0, .inl 2] = true ∧ ([] : List mV).length ≤ 8) then (c_I (ev 73 0 [some (.inr a0), some (.inl 2)] [] (h_si (h_sr M a0 3 0) a0 5 ((h_i (h_sr M a0 3 0) a0 5) + 1))) fun v_2 M_1 => some (some (.inl v_2), M_1)) else none) else none) else none) else none := by
  refine (ev_ns c_78 2 (ip' := 31) (ls' := [some (.inr a0), some (.inr a1), some (.inl i2), some (.inl i3), some (.inl i4), some (.inl i5), some (.inr a6)]) (st' := [.inr 0, .inr a0]) (M' := M) rfl).trans ?_
  refine (ev_g (h_k M a0 = 7) (ip' := 32) (ls' := [some (.inr a0), some (.inr a1), some (.inl i2), some (.inl i3), some (.inl i4), some (.inl i5), some (.inr a6)]) (st' := []) (M' := h_sr M a0 3 0) c_78 rfl).trans (t_i ?_ rfl)
  refine (ev_ns c_78 2 (ip' := 34) (ls' := [some (.inr a0), some (.inr a1), some (.inl i2), some (.inl i3), some (.inl i4), some (.inl i5), some (.inr a6)]) (st' := [.inr a0, .inr a0]) (M' := h_sr M a0 3 0) rfl).trans ?_
  refine (ev_g (h_k (h_sr M a0 3 0) a0 = 7) (ip' := 35) (ls' := [some (.inr a0), some (.inr a1), some (.inl i2), some (.inl i3), some (.inl i4), some (.inl i5), some (.inr a6)]) (st' := [.inl (h_i (h_sr M a0 3 0) a0 5), .inr a0]) (M' := h_sr M a0 3 0) c_78 rfl).trans (t_i ?_ rfl)
  refine (ev_ns c_78 2 (ip' := 37) (ls' := [some (.inr a0), some (.inr a1), some (.inl i2), some (.inl i3), some (.inl i4), some (.inl i5), some (.inr a6)]) (st' := [.inl ((h_i (h_sr M a0 3 0) a0 5) + 1), .inr a0]) (M' := h_sr M a0 3 0) rfl).trans ?_
  refine (ev_g (h_k (h_sr M a0 3 0) a0 = 7) (ip' := 38) (ls' := [some (.inr a0), some (.inr a1), some (.inl i2), some (.inl i3), some (.inl i4), some (.inl i5), some (.inr a6)]) (st' := []) (M' := h_si (h_sr M a0 3 0) a0 5 ((h_i (h_sr M a0 3 0) a0 5) + 1)) c_78 rfl).trans (t_i ?_ rfl)
  refine (ev_ns c_78 2 (ip' := 40) (ls' := [some (.inr a0), some (.inr a1), some (.inl i2), some (.inl i3), some (.inl i4), some (.inl i5), some (.inr a6)]) (st' := [.inl 2, .inr a0]) (M' := h_si (h_sr M a0 3 0) a0 5 ((h_i (h_sr M a0 3 0) a0 5) + 1)) rfl).trans ?_
  refine (ev_gI (a_rec (h_si (h_sr M a0 3 0) a0 5 ((h_i (h_sr M a0 3 0) a0 5) + 1)) 7 [.inr a0, .inl 2] = true ∧ ([] : List mV).length ≤ 8) (as := [.inr a0, .inl 2]) (rr := []) c_78 c_73 rfl).trans (t_i (t_cI ?_) rfl)
  intro v_2 M_1
  exact ev_d c_78 rfl
/- 79: GranuleHall.at(I)LGranuleHall$Granule; -/
set_option maxRecDepth 20000 in
theorem e_79_0 (a0 : Nat) (i1 : Int32) (M : mM) : ev 79 0 [some (.inr a0), some (.inl i1)] [] M = if i1 < 0 then (ev 79 12 [some (.inr a0), some (.inl i1)] [] M) else (if h_k M a0 = 7 then (if 9 ≤ h_k M (h_r M a0 0) ∧ h_k M (h_r M a0 0) ≤ 13 then (if (Int32.ofNat (h_l M (h_r M a0 0))) ≤ i1 then (ev 79 12 [some (.inr a0), some (.inl i1)] [] M) else (if h_k M a0 = 7 then (if (h_k M (h_r M a0 0) = 11 ∨ h_k M (h_r M a0 0) = 12 ∨ h_k M (h_r M a0 0) = 13) ∧ h_in i1 (h_l M (h_r M a0 0)) then (ev 79 13 [some (.inr a0), some (.inl i1)] [.inr (h_r M (h_r M a0 0) (i1).toNatClampNeg)] M) else none) else none)) else none) else none) := by
  refine (ev_ns c_79 1 (ip' := 1) (ls' := [some (.inr a0), some (.inl i1)]) (st' := [.inl i1]) (M' := M) rfl).trans ?_
  refine (ev_i (i1 < 0) (i1 := 12) (l1 := [some (.inr a0), some (.inl i1)]) (s1 := []) (M1 := M) (i2 := 2) (l2 := [some (.inr a0), some (.inl i1)]) (s2 := []) (M2 := M) c_79 rfl).trans (t_i ?_ ?_)
  · skip
    exact rfl
  · skip
    refine (ev_ns c_79 2 (ip' := 4) (ls' := [some (.inr a0), some (.inl i1)]) (st' := [.inr a0, .inl i1]) (M' := M) rfl).trans ?_
    refine (ev_g (h_k M a0 = 7) (ip' := 5) (ls' := [some (.inr a0), some (.inl i1)]) (st' := [.inr (h_r M a0 0), .inl i1]) (M' := M) c_79 rfl).trans (t_i ?_ rfl)
    refine (ev_g (9 ≤ h_k M (h_r M a0 0) ∧ h_k M (h_r M a0 0) ≤ 13) (ip' := 6) (ls' := [some (.inr a0), some (.inl i1)]) (st' := [.inl (Int32.ofNat (h_l M (h_r M a0 0))), .inl i1]) (M' := M) c_79 rfl).trans (t_i ?_ rfl)
    refine (ev_i ((Int32.ofNat (h_l M (h_r M a0 0))) ≤ i1) (i1 := 12) (l1 := [some (.inr a0), some (.inl i1)]) (s1 := []) (M1 := M) (i2 := 7) (l2 := [some (.inr a0), some (.inl i1)]) (s2 := []) (M2 := M) c_79 rfl).trans (t_i ?_ ?_)
    · skip
      exact rfl
    · skip
      refine (ev_ns c_79 1 (ip' := 8) (ls' := [some (.inr a0), some (.inl i1)]) (st' := [.inr a0]) (M' := M) rfl).trans ?_
      refine (ev_g (h_k M a0 = 7) (ip' := 9) (ls' := [some (.inr a0), some (.inl i1)]) (st' := [.inr (h_r M a0 0)]) (M' := M) c_79 rfl).trans (t_i ?_ rfl)
      refine (ev_ns c_79 1 (ip' := 10) (ls' := [some (.inr a0), some (.inl i1)]) (st' := [.inl i1, .inr (h_r M a0 0)]) (M' := M) rfl).trans ?_
      refine (ev_g ((h_k M (h_r M a0 0) = 11 ∨ h_k M (h_r M a0 0) = 12 ∨ h_k M (h_r M a0 0) = 13) ∧ h_in i1 (h_l M (h_r M a0 0))) (ip' := 11) (ls' := [some (.inr a0), some (.inl i1)]) (st' := [.inr (h_r M (h_r M a0 0) (i1).toNatClampNeg)]) (M' := M) c_79 rfl).trans (t_i ?_ rfl)
      exact ev_ns c_79 1 (ip' := 13) (ls' := [some (.inr a0), some (.inl i1)]) (st' := [.inr (h_r M (h_r M a0 0) (i1).toNatClampNeg)]) (M' := M) rfl
set_option maxRecDepth 20000 in
theorem e_79_12 (a0 : Nat) (i1 : Int32) (M : mM) : ev 79 12 [some (.inr a0), some (.inl i1)] [] M = ev 79 13 [some (.inr a0), some (.inl i1)] [.inr 0] M := by
  exact ev_ns c_79 1 (ip' := 13) (ls' := [some (.inr a0), some (.inl i1)]) (st' := [.inr 0]) (M' := M) rfl
set_option maxRecDepth 20000 in
theorem e_79_13 (a0 : Nat) (i1 : Int32) (t0 : Nat) (M : mM) : ev 79 13 [some (.inr a0), some (.inl i1)] [.inr t0] M = some (some (.inr t0), M) := by
  exact ev_d c_79 rfl
/- 80: GranuleHall.isWord(I)Z -/
set_option maxRecDepth 20000 in
theorem e_80_0 (i0 : Int32) (M : mM) : ev 80 0 [some (.inl i0)] [] M = if i0 < 0 then (ev 80 7 [some (.inl i0)] [] M) else (if (32 : Int32) ≤ i0 then (ev 80 7 [some (.inl i0)] [] M) else (ev 80 8 [some (.inl i0)] [.inl 1] M)) := by
  refine (ev_ns c_80 1 (ip' := 1) (ls' := [some (.inl i0)]) (st' := [.inl i0]) (M' := M) rfl).trans ?_
  refine (ev_i (i0 < 0) (i1 := 7) (l1 := [some (.inl i0)]) (s1 := []) (M1 := M) (i2 := 2) (l2 := [some (.inl i0)]) (s2 := []) (M2 := M) c_80 rfl).trans (t_i ?_ ?_)
  · skip
    exact rfl
  · skip
    refine (ev_ns c_80 2 (ip' := 4) (ls' := [some (.inl i0)]) (st' := [.inl 32, .inl i0]) (M' := M) rfl).trans ?_
    refine (ev_i ((32 : Int32) ≤ i0) (i1 := 7) (l1 := [some (.inl i0)]) (s1 := []) (M1 := M) (i2 := 5) (l2 := [some (.inl i0)]) (s2 := []) (M2 := M) c_80 rfl).trans (t_i ?_ ?_)
    · skip
      exact rfl
    · skip
      exact ev_ns c_80 2 (ip' := 8) (ls' := [some (.inl i0)]) (st' := [.inl 1]) (M' := M) rfl
set_option maxRecDepth 20000 in
theorem e_80_7 (i0 : Int32) (M : mM) : ev 80 7 [some (.inl i0)] [] M = ev 80 8 [some (.inl i0)] [.inl 0] M := by
  exact ev_ns c_80 1 (ip' := 8) (ls' := [some (.inl i0)]) (st' := [.inl 0]) (M' := M) rfl
set_option maxRecDepth 20000 in
theorem e_80_8 (i0 : Int32) (s0 : Int32) (M : mM) : ev 80 8 [some (.inl i0)] [.inl s0] M = if s0 = 0 ∨ s0 = 1 then some (some (.inl s0), M) else none := by
  exact ev_gd (s0 = 0 ∨ s0 = 1) c_80 rfl
/- 81: GranuleHall.isRegister(I)Z -/
set_option maxRecDepth 20000 in
theorem e_81_0 (i0 : Int32) (M : mM) : ev 81 0 [some (.inl i0)] [] M = if i0 < 0 then (ev 81 7 [some (.inl i0)] [] M) else (if (8 : Int32) ≤ i0 then (ev 81 7 [some (.inl i0)] [] M) else (ev 81 8 [some (.inl i0)] [.inl 1] M)) := by
  refine (ev_ns c_81 1 (ip' := 1) (ls' := [some (.inl i0)]) (st' := [.inl i0]) (M' := M) rfl).trans ?_
  refine (ev_i (i0 < 0) (i1 := 7) (l1 := [some (.inl i0)]) (s1 := []) (M1 := M) (i2 := 2) (l2 := [some (.inl i0)]) (s2 := []) (M2 := M) c_81 rfl).trans (t_i ?_ ?_)
  · skip
    exact rfl
  · skip
    refine (ev_ns c_81 2 (ip' := 4) (ls' := [some (.inl i0)]) (st' := [.inl 8, .inl i0]) (M' := M) rfl).trans ?_
    refine (ev_i ((8 : Int32) ≤ i0) (i1 := 7) (l1 := [some (.inl i0)]) (s1 := []) (M1 := M) (i2 := 5) (l2 := [some (.inl i0)]) (s2 := []) (M2 := M) c_81 rfl).trans (t_i ?_ ?_)
    · skip
      exact rfl
    · skip
      exact ev_ns c_81 2 (ip' := 8) (ls' := [some (.inl i0)]) (st' := [.inl 1]) (M' := M) rfl
set_option maxRecDepth 20000 in
theorem e_81_7 (i0 : Int32) (M : mM) : ev 81 7 [some (.inl i0)] [] M = ev 81 8 [some (.inl i0)] [.inl 0] M := by
  exact ev_ns c_81 1 (ip' := 8) (ls' := [some (.inl i0)]) (st' := [.inl 0]) (M' := M) rfl
set_option maxRecDepth 20000 in
theorem e_81_8 (i0 : Int32) (s0 : Int32) (M : mM) : ev 81 8 [some (.inl i0)] [.inl s0] M = if s0 = 0 ∨ s0 = 1 then some (some (.inl s0), M) else none := by
  exact ev_gd (s0 = 0 ∨ s0 = 1) c_81 rfl
/- 82: GranuleHall.isMeasurement(I)Z -/
set_option maxRecDepth 20000 in
theorem e_82_0 (i0 : Int32) (M : mM) : ev 82 0 [some (.inl i0)] [] M = if i0 < 0 then (ev 82 7 [some (.inl i0)] [] M) else (if (5 : Int32) ≤ i0 then (ev 82 7 [some (.inl i0)] [] M) else (ev 82 8 [some (.inl i0)] [.inl 1] M)) := by
  refine (ev_ns c_82 1 (ip' := 1) (ls' := [some (.inl i0)]) (st' := [.inl i0]) (M' := M) rfl).trans ?_
  refine (ev_i (i0 < 0) (i1 := 7) (l1 := [some (.inl i0)]) (s1 := []) (M1 := M) (i2 := 2) (l2 := [some (.inl i0)]) (s2 := []) (M2 := M) c_82 rfl).trans (t_i ?_ ?_)
  · skip
    exact rfl
  · skip
    refine (ev_ns c_82 2 (ip' := 4) (ls' := [some (.inl i0)]) (st' := [.inl 5, .inl i0]) (M' := M) rfl).trans ?_
    refine (ev_i ((5 : Int32) ≤ i0) (i1 := 7) (l1 := [some (.inl i0)]) (s1 := []) (M1 := M) (i2 := 5) (l2 := [some (.inl i0)]) (s2 := []) (M2 := M) c_82 rfl).trans (t_i ?_ ?_)
    · skip
      exact rfl
    · skip
      exact ev_ns c_82 2 (ip' := 8) (ls' := [some (.inl i0)]) (st' := [.inl 1]) (M' := M) rfl
set_option maxRecDepth 20000 in
theorem e_82_7 (i0 : Int32) (M : mM) : ev 82 7 [some (.inl i0)] [] M = ev 82 8 [some (.inl i0)] [.inl 0] M := by
  exact ev_ns c_82 1 (ip' := 8) (ls' := [some (.inl i0)]) (st' := [.inl 0]) (M' := M) rfl
set_option maxRecDepth 20000 in
theorem e_82_8 (i0 : Int32) (s0 : Int32) (M : mM) : ev 82 8 [some (.inl i0)] [.inl s0] M = if s0 = 0 ∨ s0 = 1 then some (some (.inl s0), M) else none := by
  exact ev_gd (s0 = 0 ∨ s0 = 1) c_82 rfl
/- 83: GranuleHall.isPage(I)Z -/
set_option maxRecDepth 20000 in
theorem e_83_0 (i0 : Int32) (M : mM) : ev 83 0 [some (.inl i0)] [] M = if i0 < 0 then (ev 83 7 [some (.inl i0)] [] M) else (if (4096 : Int32) ≤ i0 then (ev 83 7 [some (.inl i0)] [] M) else (ev 83 8 [some (.inl i0)] [.inl 1] M)) := by
  refine (ev_ns c_83 1 (ip' := 1) (ls' := [some (.inl i0)]) (st' := [.inl i0]) (M' := M) rfl).trans ?_
  refine (ev_i (i0 < 0) (i1 := 7) (l1 := [some (.inl i0)]) (s1 := []) (M1 := M) (i2 := 2) (l2 := [some (.inl i0)]) (s2 := []) (M2 := M) c_83 rfl).trans (t_i ?_ ?_)
  · skip
    exact rfl
  · skip
    refine (ev_ns c_83 2 (ip' := 4) (ls' := [some (.inl i0)]) (st' := [.inl 4096, .inl i0]) (M' := M) rfl).trans ?_
    refine (ev_i ((4096 : Int32) ≤ i0) (i1 := 7) (l1 := [some (.inl i0)]) (s1 := []) (M1 := M) (i2 := 5) (l2 := [some (.inl i0)]) (s2 := []) (M2 := M) c_83 rfl).trans (t_i ?_ ?_)
    · skip
      exact rfl
    · skip
      exact ev_ns c_83 2 (ip' := 8) (ls' := [some (.inl i0)]) (st' := [.inl 1]) (M' := M) rfl
set_option maxRecDepth 20000 in
theorem e_83_7 (i0 : Int32) (M : mM) : ev 83 7 [some (.inl i0)] [] M = ev 83 8 [some (.inl i0)] [.inl 0] M := by
  exact ev_ns c_83 1 (ip' := 8) (ls' := [some (.inl i0)]) (st' := [.inl 0]) (M' := M) rfl
set_option maxRecDepth 20000 in
theorem e_83_8 (i0 : Int32) (s0 : Int32) (M : mM) : ev 83 8 [some (.inl i0)] [.inl s0] M = if s0 = 0 ∨ s0 = 1 then some (some (.inl s0), M) else none := by
  exact ev_gd (s0 = 0 ∨ s0 = 1) c_83 rfl
/- 84: GranuleHall.isProtected(I)Z -/
set_option maxRecDepth 20000 in
theorem e_84_0 (i0 : Int32) (M : mM) : ev 84 0 [some (.inl i0)] [] M = if i0 < 0 then (ev 84 7 [some (.inl i0)] [] M) else (if (2048 : Int32) ≤ i0 then (ev 84 7 [some (.inl i0)] [] M) else (ev 84 8 [some (.inl i0)] [.inl 1] M)) := by
  refine (ev_ns c_84 1 (ip' := 1) (ls' := [some (.inl i0)]) (st' := [.inl i0]) (M' := M) rfl).trans ?_
  refine (ev_i (i0 < 0) (i1 := 7) (l1 := [some (.inl i0)]) (s1 := []) (M1 := M) (i2 := 2) (l2 := [some (.inl i0)]) (s2 := []) (M2 := M) c_84 rfl).trans (t_i ?_ ?_)
  · skip
    exact rfl
  · skip
    refine (ev_ns c_84 2 (ip' := 4) (ls' := [some (.inl i0)]) (st' := [.inl 2048, .inl i0]) (M' := M) rfl).trans ?_
    refine (ev_i ((2048 : Int32) ≤ i0) (i1 := 7) (l1 := [some (.inl i0)]) (s1 := []) (M1 := M) (i2 := 5) (l2 := [some (.inl i0)]) (s2 := []) (M2 := M) c_84 rfl).trans (t_i ?_ ?_)
    · skip
      exact rfl
    · skip
      exact ev_ns c_84 2 (ip' := 8) (ls' := [some (.inl i0)]) (st' := [.inl 1]) (M' := M) rfl
set_option maxRecDepth 20000 in
theorem e_84_7 (i0 : Int32) (M : mM) : ev 84 7 [some (.inl i0)] [] M = ev 84 8 [some (.inl i0)] [.inl 0] M := by
  exact ev_ns c_84 1 (ip' := 8) (ls' := [some (.inl i0)]) (st' := [.inl 0]) (M' := M) rfl
set_option maxRecDepth 20000 in
theorem e_84_8 (i0 : Int32) (s0 : Int32) (M : mM) : ev 84 8 [some (.inl i0)] [.inl s0] M = if s0 = 0 ∨ s0 = 1 then some (some (.inl s0), M) else none := by
  exact ev_gd (s0 = 0 ∨ s0 = 1) c_84 rfl
/- 85: GranuleHall.isShared(I)Z -/
set_option maxRecDepth 20000 in
theorem e_85_0 (i0 : Int32) (M : mM) : ev 85 0 [some (.inl i0)] [] M = if i0 < 2048 then (ev 85 8 [some (.inl i0)] [] M) else (if (4096 : Int32) ≤ i0 then (ev 85 8 [some (.inl i0)] [] M) else (ev 85 9 [some (.inl i0)] [.inl 1] M)) := by
  refine (ev_ns c_85 2 (ip' := 2) (ls' := [some (.inl i0)]) (st' := [.inl 2048, .inl i0]) (M' := M) rfl).trans ?_
  refine (ev_i (i0 < 2048) (i1 := 8) (l1 := [some (.inl i0)]) (s1 := []) (M1 := M) (i2 := 3) (l2 := [some (.inl i0)]) (s2 := []) (M2 := M) c_85 rfl).trans (t_i ?_ ?_)
  · skip
    exact rfl
  · skip
    refine (ev_ns c_85 2 (ip' := 5) (ls' := [some (.inl i0)]) (st' := [.inl 4096, .inl i0]) (M' := M) rfl).trans ?_
    refine (ev_i ((4096 : Int32) ≤ i0) (i1 := 8) (l1 := [some (.inl i0)]) (s1 := []) (M1 := M) (i2 := 6) (l2 := [some (.inl i0)]) (s2 := []) (M2 := M) c_85 rfl).trans (t_i ?_ ?_)
    · skip
      exact rfl
    · skip
      exact ev_ns c_85 2 (ip' := 9) (ls' := [some (.inl i0)]) (st' := [.inl 1]) (M' := M) rfl
set_option maxRecDepth 20000 in
theorem e_85_8 (i0 : Int32) (M : mM) : ev 85 8 [some (.inl i0)] [] M = ev 85 9 [some (.inl i0)] [.inl 0] M := by
  exact ev_ns c_85 1 (ip' := 9) (ls' := [some (.inl i0)]) (st' := [.inl 0]) (M' := M) rfl
set_option maxRecDepth 20000 in
theorem e_85_9 (i0 : Int32) (s0 : Int32) (M : mM) : ev 85 9 [some (.inl i0)] [.inl s0] M = if s0 = 0 ∨ s0 = 1 then some (some (.inl s0), M) else none := by
  exact ev_gd (s0 = 0 ∨ s0 = 1) c_85 rfl
/- 86: GranuleHall.isTablePlace(II)Z -/
set_option maxRecDepth 20000 in
theorem e_86_0 (i0 : Int32) (i1 : Int32) (M : mM) : ev 86 0 [some (.inl i0), some (.inl i1)] [] M = if (a_rec M 0 [.inl i0] = true ∧ ([] : List mV).length ≤ 8) then (c_I (ev 83 0 [some (.inl i0)] [] M) fun v_2 M_1 => if v_2 = 0 then (ev 86 20 [some (.inl i0), some (.inl i1)] [] M_1) else (if i1 < 1 then (ev 86 20 [some (.inl i0), some (.inl i1)] [] M_1) else (if (3 : Int32) < i1 then (ev 86 20 [some (.inl i0), some (.inl i1)] [] M_1) else (if (a_rec M_1 0 [.inl (i1 - 1)] = true ∧ ([.inl i0] : List mV).length ≤ 8) then (c_I (ev 88 0 [some (.inl (i1 - 1))] [] M_1) fun v_4 M_3 => if (i0 &&& (v_4 - 1)) = 0 then (ev 86 21 [some (.inl i0), some (.inl i1)] [.inl 1] M_3) else (ev 86 20 [some (.inl i0), some (.inl i1)] [] M_3)) else none)))) else none := by
  refine (ev_ns c_86 1 (ip' := 1) (ls' := [some (.inl i0), some (.inl i1)]) (st' := [.inl i0]) (M' := M) rfl).trans ?_
  refine (ev_gI (a_rec M 0 [.inl i0] = true ∧ ([] : List mV).length ≤ 8) (as := [.inl i0]) (rr := []) c_86 c_83 rfl).trans (t_i (t_cI ?_) rfl)
  intro v_2 M_1
  refine (ev_i (v_2 = 0) (i1 := 20) (l1 := [some (.inl i0), some (.inl i1)]) (s1 := []) (M1 := M_1) (i2 := 3) (l2 := [some (.inl i0), some (.inl i1)]) (s2 := []) (M2 := M_1) c_86 rfl).trans (t_i ?_ ?_)
  · skip
    exact rfl
  · skip
    refine (ev_ns c_86 2 (ip' := 5) (ls' := [some (.inl i0), some (.inl i1)]) (st' := [.inl 1, .inl i1]) (M' := M_1) rfl).trans ?_
    refine (ev_i (i1 < 1) (i1 := 20) (l1 := [some (.inl i0), some (.inl i1)]) (s1 := []) (M1 := M_1) (i2 := 6) (l2 := [some (.inl i0), some (.inl i1)]) (s2 := []) (M2 := M_1) c_86 rfl).trans (t_i ?_ ?_)
    · skip
      exact rfl
    · skip
      refine (ev_ns c_86 2 (ip' := 8) (ls' := [some (.inl i0), some (.inl i1)]) (st' := [.inl 3, .inl i1]) (M' := M_1) rfl).trans ?_
      refine (ev_i ((3 : Int32) < i1) (i1 := 20) (l1 := [some (.inl i0), some (.inl i1)]) (s1 := []) (M1 := M_1) (i2 := 9) (l2 := [some (.inl i0), some (.inl i1)]) (s2 := []) (M2 := M_1) c_86 rfl).trans (t_i ?_ ?_)
      · skip
        exact rfl
      · skip
        refine (ev_ns c_86 4 (ip' := 13) (ls' := [some (.inl i0), some (.inl i1)]) (st' := [.inl (i1 - 1), .inl i0]) (M' := M_1) rfl).trans ?_
        refine (ev_gI (a_rec M_1 0 [.inl (i1 - 1)] = true ∧ ([.inl i0] : List mV).length ≤ 8) (as := [.inl (i1 - 1)]) (rr := [.inl i0]) c_86 c_88 rfl).trans (t_i (t_cI ?_) rfl)
        intro v_4 M_3
        refine (ev_ns c_86 3 (ip' := 17) (ls' := [some (.inl i0), some (.inl i1)]) (st' := [.inl (i0 &&& (v_4 - 1))]) (M' := M_3) rfl).trans ?_
        refine (ev_i ((i0 &&& (v_4 - 1)) = 0) (i1 := 18) (l1 := [some (.inl i0), some (.inl i1)]) (s1 := []) (M1 := M_3) (i2 := 20) (l2 := [some (.inl i0), some (.inl i1)]) (s2 := []) (M2 := M_3) c_86 rfl).trans (t_i ?_ ?_)
        · skip
          exact ev_ns c_86 2 (ip' := 21) (ls' := [some (.inl i0), some (.inl i1)]) (st' := [.inl 1]) (M' := M_3) rfl
        · skip
          exact rfl
set_option maxRecDepth 20000 in
theorem e_86_20 (i0 : Int32) (i1 : Int32) (M : mM) : ev 86 20 [some (.inl i0), some (.inl i1)] [] M = ev 86 21 [some (.inl i0), some (.inl i1)] [.inl 0] M := by
  exact ev_ns c_86 1 (ip' := 21) (ls' := [some (.inl i0), some (.inl i1)]) (st' := [.inl 0]) (M' := M) rfl
set_option maxRecDepth 20000 in
theorem e_86_21 (i0 : Int32) (i1 : Int32) (s0 : Int32) (M : mM) : ev 86 21 [some (.inl i0), some (.inl i1)] [.inl s0] M = if s0 = 0 ∨ s0 = 1 then some (some (.inl s0), M) else none := by
  exact ev_gd (s0 = 0 ∨ s0 = 1) c_86 rfl
/- 87: GranuleHall.shift(I)I -/
set_option maxRecDepth 20000 in
theorem e_87_0 (i0 : Int32) (M : mM) : ev 87 0 [some (.inl i0)] [] M = some (some (.inl (3 * (3 - i0))), M) := by
  refine (ev_ns c_87 5 (ip' := 5) (ls' := [some (.inl i0)]) (st' := [.inl (3 * (3 - i0))]) (M' := M) rfl).trans ?_
  exact ev_d c_87 rfl
/- 88: GranuleHall.span(I)I -/
set_option maxRecDepth 20000 in
theorem e_88_0 (i0 : Int32) (M : mM) : ev 88 0 [some (.inl i0)] [] M = if (a_rec M 0 [.inl i0] = true ∧ ([.inl 1] : List mV).length ≤ 8) then (c_I (ev 87 0 [some (.inl i0)] [] M) fun v_2 M_1 => some (some (.inl (1 <<< (v_2 &&& 31))), M_1)) else none := by
  refine (ev_ns c_88 2 (ip' := 2) (ls' := [some (.inl i0)]) (st' := [.inl i0, .inl 1]) (M' := M) rfl).trans ?_
  refine (ev_gI (a_rec M 0 [.inl i0] = true ∧ ([.inl 1] : List mV).length ≤ 8) (as := [.inl i0]) (rr := [.inl 1]) c_88 c_87 rfl).trans (t_i (t_cI ?_) rfl)
  intro v_2 M_1
  refine (ev_ns c_88 1 (ip' := 4) (ls' := [some (.inl i0)]) (st' := [.inl (1 <<< (v_2 &&& 31))]) (M' := M_1) rfl).trans ?_
  exact ev_d c_88 rfl
/- 89: GranuleHall.bit(Z)I -/
set_option maxRecDepth 20000 in
theorem e_89_0 (i0 : Int32) (M : mM) : ev 89 0 [some (.inl i0)] [] M = if i0 = 0 then (ev 89 5 [some (.inl i0)] [.inl 0] M) else (ev 89 5 [some (.inl i0)] [.inl 1] M) := by
  refine (ev_ns c_89 1 (ip' := 1) (ls' := [some (.inl i0)]) (st' := [.inl i0]) (M' := M) rfl).trans ?_
  refine (ev_i (i0 = 0) (i1 := 4) (l1 := [some (.inl i0)]) (s1 := []) (M1 := M) (i2 := 2) (l2 := [some (.inl i0)]) (s2 := []) (M2 := M) c_89 rfl).trans (t_i ?_ ?_)
  · skip
    exact ev_ns c_89 1 (ip' := 5) (ls' := [some (.inl i0)]) (st' := [.inl 0]) (M' := M) rfl
  · skip
    exact ev_ns c_89 2 (ip' := 5) (ls' := [some (.inl i0)]) (st' := [.inl 1]) (M' := M) rfl
set_option maxRecDepth 20000 in
theorem e_89_5 (i0 : Int32) (s0 : Int32) (M : mM) : ev 89 5 [some (.inl i0)] [.inl s0] M = some (some (.inl s0), M) := by
  exact ev_d c_89 rfl
/- 90: GranuleHall.hand(III)Z -/
set_option maxRecDepth 20000 in
theorem e_90_0 (a0 : Nat) (i1 : Int32) (i2 : Int32) (i3 : Int32) (M : mM) : ev 90 0 [some (.inr a0), some (.inl i1), some (.inl i2), some (.inl i3), none] [] M = if (a_rec M 7 [.inr a0, .inl i1] = true ∧ ([] : List mV).length ≤ 8) then (c_R (ev 79 0 [some (.inr a0), some (.inl i1)] [] M) fun u_2 M_1 => if u_2 = 0 then (if (a_rec M_1 7 [.inr a0, .inl 1] = true ∧ ([] : List mV).length ≤ 8) then (c_I (ev 76 0 [some (.inr a0), some (.inl 1)] [] M_1) fun v_4 M_3 => if v_4 = 0 ∨ v_4 = 1 then some (some (.inl v_4), M_3) else none) else none) else (if h_k M_1 u_2 = 3 then (if (h_i M_1 u_2 2) = i2 then (if (a_rec M_1 3 [.inr u_2, .inl i3, .inr 0, .inl (-1)] = true ∧ ([] : List mV).length ≤ 8) then (c_V (ev 17 0 [some (.inr u_2), some (.inl i3), some (.inr 0), some (.inl (-1))] [] M_1) fun M_5 => if (a_rec M_5 7 [.inr a0] = true ∧ ([] : List mV).length ≤ 8) then (c_I (ev 74 0 [some (.inr a0)] [] M_5) fun v_7 M_6 => if v_7 = 0 ∨ v_7 = 1 then some (some (.inl v_7), M_6) else none) else none) else none) else (if (a_rec M_1 7 [.inr a0, .inl 2] = true ∧ ([] : List mV).length ≤ 8) then (c_I (ev 76 0 [some (.inr a0), some (.inl 2)] [] M_1) fun v_9 M_8 => if v_9 = 0 ∨ v_9 = 1 then some (some (.inl v_9), M_8) else none) else none)) else none)) else none := by
  refine (ev_ns c_90 2 (ip' := 2) (ls' := [some (.inr a0), some (.inl i1), some (.inl i2), some (.inl i3), none]) (st' := [.inl i1, .inr a0]) (M' := M) rfl).trans ?_
  refine (ev_gR (a_rec M 7 [.inr a0, .inl i1] = true ∧ ([] : List mV).length ≤ 8) (as := [.inr a0, .inl i1]) (rr := []) c_90 c_79 rfl).trans (t_i (t_cR ?_) rfl)
  intro u_2 M_1
  refine (ev_ns c_90 2 (ip' := 5) (ls' := [some (.inr a0), some (.inl i1), some (.inl i2), some (.inl i3), some (.inr u_2)]) (st' := [.inr u_2]) (M' := M_1) rfl).trans ?_
  refine (ev_i (u_2 = 0) (i1 := 6) (l1 := [some (.inr a0), some (.inl i1), some (.inl i2), some (.inl i3), some (.inr u_2)]) (s1 := []) (M1 := M_1) (i2 := 10) (l2 := [some (.inr a0), some (.inl i1), some (.inl i2), some (.inl i3), some (.inr u_2)]) (s2 := []) (M2 := M_1) c_90 rfl).trans (t_i ?_ ?_)
  · skip
    refine (ev_ns c_90 2 (ip' := 8) (ls' := [some (.inr a0), some (.inl i1), some (.inl i2), some (.inl i3), some (.inr u_2)]) (st' := [.inl 1, .inr a0]) (M' := M_1) rfl).trans ?_
    refine (ev_gI (a_rec M_1 7 [.inr a0, .inl 1] = true ∧ ([] : List mV).length ≤ 8) (as := [.inr a0, .inl 1]) (rr := []) c_90 c_76 rfl).trans (t_i (t_cI ?_) rfl)
    intro v_4 M_3
    exact ev_gd (v_4 = 0 ∨ v_4 = 1) c_90 rfl
  · skip
    refine (ev_ns c_90 1 (ip' := 11) (ls' := [some (.inr a0), some (.inl i1), some (.inl i2), some (.inl i3), some (.inr u_2)]) (st' := [.inr u_2]) (M' := M_1) rfl).trans ?_
    refine (ev_g (h_k M_1 u_2 = 3) (ip' := 12) (ls' := [some (.inr a0), some (.inl i1), some (.inl i2), some (.inl i3), some (.inr u_2)]) (st' := [.inl (h_i M_1 u_2 2)]) (M' := M_1) c_90 rfl).trans (t_i ?_ rfl)
    refine (ev_ns c_90 1 (ip' := 13) (ls' := [some (.inr a0), some (.inl i1), some (.inl i2), some (.inl i3), some (.inr u_2)]) (st' := [.inl i2, .inl (h_i M_1 u_2 2)]) (M' := M_1) rfl).trans ?_
    refine (ev_i ((h_i M_1 u_2 2) = i2) (i1 := 18) (l1 := [some (.inr a0), some (.inl i1), some (.inl i2), some (.inl i3), some (.inr u_2)]) (s1 := []) (M1 := M_1) (i2 := 14) (l2 := [some (.inr a0), some (.inl i1), some (.inl i2), some (.inl i3), some (.inr u_2)]) (s2 := []) (M2 := M_1) c_90 rfl).trans (t_i ?_ ?_)
    · skip
      refine (ev_ns c_90 4 (ip' := 22) (ls' := [some (.inr a0), some (.inl i1), some (.inl i2), some (.inl i3), some (.inr u_2)]) (st' := [.inl (-1), .inr 0, .inl i3, .inr u_2]) (M' := M_1) rfl).trans ?_
      refine (ev_gV (a_rec M_1 3 [.inr u_2, .inl i3, .inr 0, .inl (-1)] = true ∧ ([] : List mV).length ≤ 8) (as := [.inr u_2, .inl i3, .inr 0, .inl (-1)]) (rr := []) c_90 c_17 rfl).trans (t_i (t_cV ?_) rfl)
      intro M_5
      refine (ev_ns c_90 1 (ip' := 24) (ls' := [some (.inr a0), some (.inl i1), some (.inl i2), some (.inl i3), some (.inr u_2)]) (st' := [.inr a0]) (M' := M_5) rfl).trans ?_
      refine (ev_gI (a_rec M_5 7 [.inr a0] = true ∧ ([] : List mV).length ≤ 8) (as := [.inr a0]) (rr := []) c_90 c_74 rfl).trans (t_i (t_cI ?_) rfl)
      intro v_7 M_6
      exact ev_gd (v_7 = 0 ∨ v_7 = 1) c_90 rfl
    · skip
      refine (ev_ns c_90 2 (ip' := 16) (ls' := [some (.inr a0), some (.inl i1), some (.inl i2), some (.inl i3), some (.inr u_2)]) (st' := [.inl 2, .inr a0]) (M' := M_1) rfl).trans ?_
      refine (ev_gI (a_rec M_1 7 [.inr a0, .inl 2] = true ∧ ([] : List mV).length ≤ 8) (as := [.inr a0, .inl 2]) (rr := []) c_90 c_76 rfl).trans (t_i (t_cI ?_) rfl)
      intro v_9 M_8
      exact ev_gd (v_9 = 0 ∨ v_9 = 1) c_90 rfl
/- 91: GranuleHall.takeTable(IIIZ)Z -/
set_option maxRecDepth 20000 in
theorem e_91_0 (a0 : Nat) (i1 : Int32) (i2 : Int32) (i3 : Int32) (i4 : Int32) (M : mM) : ev 91 0 [some (.inr a0), some (.inl i1), some (.inl i2), some (.inl i3), some (.inl i4), none, none, none, none, none] [] M = if (a_rec M 7 [.inr a0, .inl i1] = true ∧ ([] : List mV).length ≤ 8) then (c_R (ev 79 0 [some (.inr a0), some (.inl i1)] [] M) fun u_2 M_1 => if u_2 = 0 then (ev 91 10 [some (.inr a0), some (.inl i1), some (.inl i2), some (.inl i3), some (.inl i4), some (.inr u_2), none, none, none, none] [] M_1) else (if (a_rec M_1 0 [.inl i2, .inl i3] = true ∧ ([] : List mV).length ≤ 8) then (c_I (ev 86 0 [some (.inl i2), some (.inl i3)] [] M_1) fun v_4 M_3 => if v_4 = 0 then (ev 91 10 [some (.inr a0), some (.inl i1), some (.inl i2), some (.inl i3), some (.inl i4), some (.inr u_2), none, none, none, none] [] M_3) else (if (a_rec M_3 3 [.inr u_2] = true ∧ ([] : List mV).length ≤ 8) then (c_R (ev 20 0 [some (.inr u_2)] [] M_3) fun u_6 M_5 => if u_6 = 0 then (if (a_rec M_5 7 [.inr a0, .inl 2] = true ∧ ([] : List mV).length ≤ 8) then (c_I (ev 76 0 [some (.inr a0), some (.inl 2)] [] M_5) fun v_8 M_7 => if v_8 = 0 ∨ v_8 = 1 then some (some (.inl v_8), M_7) else none) else none) else (if (a_rec M_5 4 [.inr u_6, .inl i2, .inl (i3 - 1)] = true ∧ ([] : List mV).length ≤ 8) then (c_R (ev 23 0 [some (.inr u_6), some (.inl i2), some (.inl (i3 - 1)), none, none] [] M_5) fun u_10 M_9 => if h_k M_9 u_10 = 2 then (if (h_r M_9 u_10 4) = 0 then (ev 91 43 [some (.inr a0), some (.inl i1), some (.inl i2), some (.inl i3), some (.inl i4), some (.inr u_2), some (.inr u_6), some (.inr u_10), some (.inr (h_r M_9 u_10 4)), none] [] M_9) else (if (a_rec M_9 6 [.inr (h_r M_9 u_10 4)] = true ∧ ([] : List mV).length ≤ 8) then (c_I (ev 29 0 [some (.inr (h_r M_9 u_10 4)), none, none, none, none] [] M_9) fun v_12 M_11 => if v_12 = 0 then (ev 91 43 [some (.inr a0), some (.inl i1), some (.inl i2), some (.inl i3), some (.inl i4), some (.inr u_2), some (.inr u_6), some (.inr u_10), some (.inr (h_r M_9 u_10 4)), none] [] M_11) else (if i4 = 0 then (ev 91 47 [some (.inr a0), some (.inl i1), some (.inl i2), some (.inl i3), some (.inl i4), some (.inr u_2), some (.inr u_6), some (.inr u_10), some (.inr (h_r M_9 u_10 4)), none] [] M_11) else (if (a_rec M_11 6 [.inr (h_r M_9 u_10 4)] = true ∧ ([] : List mV).length ≤ 8) then (c_I (ev 30 0 [some (.inr (h_r M_9 u_10 4)), none, none, none, none] [] M_11) fun v_14 M_13 => if v_14 = 0 then (ev 91 43 [some (.inr a0), some (.inl i1), some (.inl i2), some (.inl i3), some (.inl i4), some (.inr u_2), some (.inr u_6), some (.inr u_10), some (.inr (h_r M_9 u_10 4)), none] [] M_13) else (ev 91 47 [some (.inr a0), some (.inl i1), some (.inl i2), some (.inl i3), some (.inl i4), some (.inr u_2), some (.inr u_6), some (.inr u_10), some (.inr (h_r M_9 u_10 4)), none] [] M_13)) else none))) else none)) else none) else none)) else none)) else none)) else none := by
  refine (ev_ns c_91 2 (ip' := 2) (ls' := [some (.inr a0), some (.inl i1), some (.inl i2), some (.inl i3), some (.inl i4), none, none, none, none, none]) (st' := [.inl i1, .inr a0]) (M' := M) rfl).trans ?_
  refine (ev_gR (a_rec M 7 [.inr a0, .inl i1] = true ∧ ([] : List mV).length ≤ 8) (as := [.inr a0, .inl i1]) (rr := []) c_91 c_79 rfl).trans (t_i (t_cR ?_) rfl)
  intro u_2 M_1
  refine (ev_ns c_91 2 (ip' := 5) (ls' := [some (.inr a0), some (.inl i1), some (.inl i2), some (.inl i3), some (.inl i4), some (.inr u_2), none, none, none, none]) (st' := [.inr u_2]) (M' := M_1) rfl).trans ?_
  refine (ev_i (u_2 = 0) (i1 := 10) (l1 := [some (.inr a0), some (.inl i1), some (.inl i2), some (.inl i3), some (.inl i4), some (.inr u_2), none, none, none, none]) (s1 := []) (M1 := M_1) (i2 := 6) (l2 := [some (.inr a0), some (.inl i1), some (.inl i2), some (.inl i3), some (.inl i4), some (.inr u_2), none, none, none, none]) (s2 := []) (M2 := M_1) c_91 rfl).trans (t_i ?_ ?_)
  · skip
    exact rfl
  · skip
    refine (ev_ns c_91 2 (ip' := 8) (ls' := [some (.inr a0), some (.inl i1), some (.inl i2), some (.inl i3), some (.inl i4), some (.inr u_2), none, none, none, none]) (st' := [.inl i3, .inl i2]) (M' := M_1) rfl).trans ?_
    refine (ev_gI (a_rec M_1 0 [.inl i2, .inl i3] = true ∧ ([] : List mV).length ≤ 8) (as := [.inl i2, .inl i3]) (rr := []) c_91 c_86 rfl).trans (t_i (t_cI ?_) rfl)
    intro v_4 M_3
    refine (ev_i (v_4 = 0) (i1 := 10) (l1 := [some (.inr a0), some (.inl i1), some (.inl i2), some (.inl i3), some (.inl i4), some (.inr u_2), none, none, none, none]) (s1 := []) (M1 := M_3) (i2 := 14) (l2 := [some (.inr a0), some (.inl i1), some (.inl i2), some (.inl i3), some (.inl i4), some (.inr u_2), none, none, none, none]) (s2 := []) (M2 := M_3) c_91 rfl).trans (t_i ?_ ?_)
    · skip
      exact rfl
    · skip
      refine (ev_ns c_91 1 (ip' := 15) (ls' := [some (.inr a0), some (.inl i1), some (.inl i2), some (.inl i3), some (.inl i4), some (.inr u_2), none, none, none, none]) (st' := [.inr u_2]) (M' := M_3) rfl).trans ?_
      refine (ev_gR (a_rec M_3 3 [.inr u_2] = true ∧ ([] : List mV).length ≤ 8) (as := [.inr u_2]) (rr := []) c_91 c_20 rfl).trans (t_i (t_cR ?_) rfl)
      intro u_6 M_5
      refine (ev_ns c_91 2 (ip' := 18) (ls' := [some (.inr a0), some (.inl i1), some (.inl i2), some (.inl i3), some (.inl i4), some (.inr u_2), some (.inr u_6), none, none, none]) (st' := [.inr u_6]) (M' := M_5) rfl).trans ?_
      refine (ev_i (u_6 = 0) (i1 := 19) (l1 := [some (.inr a0), some (.inl i1), some (.inl i2), some (.inl i3), some (.inl i4), some (.inr u_2), some (.inr u_6), none, none, none]) (s1 := []) (M1 := M_5) (i2 := 23) (l2 := [some (.inr a0), some (.inl i1), some (.inl i2), some (.inl i3), some (.inl i4), some (.inr u_2), some (.inr u_6), none, none, none]) (s2 := []) (M2 := M_5) c_91 rfl).trans (t_i ?_ ?_)
      · skip
        refine (ev_ns c_91 2 (ip' := 21) (ls' := [some (.inr a0), some (.inl i1), some (.inl i2), some (.inl i3), some (.inl i4), some (.inr u_2), some (.inr u_6), none, none, none]) (st' := [.inl 2, .inr a0]) (M' := M_5) rfl).trans ?_
        refine (ev_gI (a_rec M_5 7 [.inr a0, .inl 2] = true ∧ ([] : List mV).length ≤ 8) (as := [.inr a0, .inl 2]) (rr := []) c_91 c_76 rfl).trans (t_i (t_cI ?_) rfl)
        intro v_8 M_7
        exact ev_gd (v_8 = 0 ∨ v_8 = 1) c_91 rfl
      · skip
        refine (ev_ns c_91 5 (ip' := 28) (ls' := [some (.inr a0), some (.inl i1), some (.inl i2), some (.inl i3), some (.inl i4), some (.inr u_2), some (.inr u_6), none, none, none]) (st' := [.inl (i3 - 1), .inl i2, .inr u_6]) (M' := M_5) rfl).trans ?_
        refine (ev_gR (a_rec M_5 4 [.inr u_6, .inl i2, .inl (i3 - 1)] = true ∧ ([] : List mV).length ≤ 8) (as := [.inr u_6, .inl i2, .inl (i3 - 1)]) (rr := []) c_91 c_23 rfl).trans (t_i (t_cR ?_) rfl)
        intro u_10 M_9
        refine (ev_ns c_91 2 (ip' := 31) (ls' := [some (.inr a0), some (.inl i1), some (.inl i2), some (.inl i3), some (.inl i4), some (.inr u_2), some (.inr u_6), some (.inr u_10), none, none]) (st' := [.inr u_10]) (M' := M_9) rfl).trans ?_
        refine (ev_g (h_k M_9 u_10 = 2) (ip' := 32) (ls' := [some (.inr a0), some (.inl i1), some (.inl i2), some (.inl i3), some (.inl i4), some (.inr u_2), some (.inr u_6), some (.inr u_10), none, none]) (st' := [.inr (h_r M_9 u_10 4)]) (M' := M_9) c_91 rfl).trans (t_i ?_ rfl)
        refine (ev_ns c_91 2 (ip' := 34) (ls' := [some (.inr a0), some (.inl i1), some (.inl i2), some (.inl i3), some (.inl i4), some (.inr u_2), some (.inr u_6), some (.inr u_10), some (.inr (h_r M_9 u_10 4)), none]) (st' := [.inr (h_r M_9 u_10 4)]) (M' := M_9) rfl).trans ?_
        refine (ev_i ((h_r M_9 u_10 4) = 0) (i1 := 43) (l1 := [some (.inr a0), some (.inl i1), some (.inl i2), some (.inl i3), some (.inl i4), some (.inr u_2), some (.inr u_6), some (.inr u_10), some (.inr (h_r M_9 u_10 4)), none]) (s1 := []) (M1 := M_9) (i2 := 35) (l2 := [some (.inr a0), some (.inl i1), some (.inl i2), some (.inl i3), some (.inl i4), some (.inr u_2), some (.inr u_6), some (.inr u_10), some (.inr (h_r M_9 u_10 4)), none]) (s2 := []) (M2 := M_9) c_91 rfl).trans (t_i ?_ ?_)
        · skip
          exact rfl
        · skip
          refine (ev_ns c_91 1 (ip' := 36) (ls' := [some (.inr a0), some (.inl i1), some (.inl i2), some (.inl i3), some (.inl i4), some (.inr u_2), some (.inr u_6), some (.inr u_10), some (.inr (h_r M_9 u_10 4)), none]) (st' := [.inr (h_r M_9 u_10 4)]) (M' := M_9) rfl).trans ?_
          refine (ev_gI (a_rec M_9 6 [.inr (h_r M_9 u_10 4)] = true ∧ ([] : List mV).length ≤ 8) (as := [.inr (h_r M_9 u_10 4)]) (rr := []) c_91 c_29 rfl).trans (t_i (t_cI ?_) rfl)
          intro v_12 M_11
          refine (ev_i (v_12 = 0) (i1 := 43) (l1 := [some (.inr a0), some (.inl i1), some (.inl i2), some (.inl i3), some (.inl i4), some (.inr u_2), some (.inr u_6), some (.inr u_10), some (.inr (h_r M_9 u_10 4)), none]) (s1 := []) (M1 := M_11) (i2 := 38) (l2 := [some (.inr a0), some (.inl i1), some (.inl i2), some (.inl i3), some (.inl i4), some (.inr u_2), some (.inr u_6), some (.inr u_10), some (.inr (h_r M_9 u_10 4)), none]) (s2 := []) (M2 := M_11) c_91 rfl).trans (t_i ?_ ?_)
          · skip
            exact rfl
          · skip
            refine (ev_ns c_91 1 (ip' := 39) (ls' := [some (.inr a0), some (.inl i1), some (.inl i2), some (.inl i3), some (.inl i4), some (.inr u_2), some (.inr u_6), some (.inr u_10), some (.inr (h_r M_9 u_10 4)), none]) (st' := [.inl i4]) (M' := M_11) rfl).trans ?_
            refine (ev_i (i4 = 0) (i1 := 47) (l1 := [some (.inr a0), some (.inl i1), some (.inl i2), some (.inl i3), some (.inl i4), some (.inr u_2), some (.inr u_6), some (.inr u_10), some (.inr (h_r M_9 u_10 4)), none]) (s1 := []) (M1 := M_11) (i2 := 40) (l2 := [some (.inr a0), some (.inl i1), some (.inl i2), some (.inl i3), some (.inl i4), some (.inr u_2), some (.inr u_6), some (.inr u_10), some (.inr (h_r M_9 u_10 4)), none]) (s2 := []) (M2 := M_11) c_91 rfl).trans (t_i ?_ ?_)
            · skip
              exact rfl
            · skip
              refine (ev_ns c_91 1 (ip' := 41) (ls' := [some (.inr a0), some (.inl i1), some (.inl i2), some (.inl i3), some (.inl i4), some (.inr u_2), some (.inr u_6), some (.inr u_10), some (.inr (h_r M_9 u_10 4)), none]) (st' := [.inr (h_r M_9 u_10 4)]) (M' := M_11) rfl).trans ?_
              refine (ev_gI (a_rec M_11 6 [.inr (h_r M_9 u_10 4)] = true ∧ ([] : List mV).length ≤ 8) (as := [.inr (h_r M_9 u_10 4)]) (rr := []) c_91 c_30 rfl).trans (t_i (t_cI ?_) rfl)
              intro v_14 M_13
              refine (ev_i (v_14 = 0) (i1 := 43) (l1 := [some (.inr a0), some (.inl i1), some (.inl i2), some (.inl i3), some (.inl i4), some (.inr u_2), some (.inr u_6), some (.inr u_10), some (.inr (h_r M_9 u_10 4)), none]) (s1 := []) (M1 := M_13) (i2 := 47) (l2 := [some (.inr a0), some (.inl i1), some (.inl i2), some (.inl i3), some (.inl i4), some (.inr u_2), some (.inr u_6), some (.inr u_10), some (.inr (h_r M_9 u_10 4)), none]) (s2 := []) (M2 := M_13) c_91 rfl).trans (t_i ?_ ?_)
              · skip
                exact rfl
              · skip
                exact rfl
set_option maxRecDepth 20000 in
theorem e_91_10 (a0 : Nat) (i1 : Int32) (i2 : Int32) (i3 : Int32) (i4 : Int32) (a5 : Nat) (M : mM) : ev 91 10 [some (.inr a0), some (.inl i1), some (.inl i2), some (.inl i3), some (.inl i4), some (.inr a5), none, none, none, none] [] M = if (a_rec M 7 [.inr a0, .inl 1] = true ∧ ([] : List mV).length ≤ 8) then (c_I (ev 76 0 [some (.inr a0), some (.inl 1)] [] M) fun v_2 M_1 => if v_2 = 0 ∨ v_2 = 1 then some (some (.inl v_2), M_1) else none) else none := by
  refine (ev_ns c_91 2 (ip' := 12) (ls' := [some (.inr a0), some (.inl i1), some (.inl i2), some (.inl i3), some (.inl i4), some (.inr a5), none, none, none, none]) (st' := [.inl 1, .inr a0]) (M' := M) rfl).trans ?_
  refine (ev_gI (a_rec M 7 [.inr a0, .inl 1] = true ∧ ([] : List mV).length ≤ 8) (as := [.inr a0, .inl 1]) (rr := []) c_91 c_76 rfl).trans (t_i (t_cI ?_) rfl)
  intro v_2 M_1
  exact ev_gd (v_2 = 0 ∨ v_2 = 1) c_91 rfl
set_option maxRecDepth 20000 in
theorem e_91_43 (a0 : Nat) (i1 : Int32) (i2 : Int32) (i3 : Int32) (i4 : Int32) (a5 : Nat) (a6 : Nat) (a7 : Nat) (a8 : Nat) (M : mM) : ev 91 43 [some (.inr a0), some (.inl i1), some (.inl i2), some (.inl i3), some (.inl i4), some (.inr a5), some (.inr a6), some (.inr a7), some (.inr a8), none] [] M = if (a_rec M 7 [.inr a0, .inl 5] = true ∧ ([] : List mV).length ≤ 8) then (c_I (ev 76 0 [some (.inr a0), some (.inl 5)] [] M) fun v_2 M_1 => if v_2 = 0 ∨ v_2 = 1 then some (some (.inl v_2), M_1) else none) else none := by
  refine (ev_ns c_91 2 (ip' := 45) (ls' := [some (.inr a0), some (.inl i1), some (.inl i2), some (.inl i3), some (.inl i4), some (.inr a5), some (.inr a6), some (.inr a7), some (.inr a8), none]) (st' := [.inl 5, .inr a0]) (M' := M) rfl).trans ?_
  refine (ev_gI (a_rec M 7 [.inr a0, .inl 5] = true ∧ ([] : List mV).length ≤ 8) (as := [.inr a0, .inl 5]) (rr := []) c_91 c_76 rfl).trans (t_i (t_cI ?_) rfl)
  intro v_2 M_1
  exact ev_gd (v_2 = 0 ∨ v_2 = 1) c_91 rfl
set_option maxRecDepth 20000 in
theorem e_91_47 (a0 : Nat) (i1 : Int32) (i2 : Int32) (i3 : Int32) (i4 : Int32) (a5 : Nat) (a6 : Nat) (a7 : Nat) (a8 : Nat) (M : mM) : ev 91 47 [some (.inr a0), some (.inl i1), some (.inl i2), some (.inl i3), some (.inl i4), some (.inr a5), some (.inr a6), some (.inr a7), some (.inr a8), none] [] M = if (a_rec M 0 [.inl i2] = true ∧ ([] : List mV).length ≤ 8) then (c_I (ev 84 0 [some (.inl i2)] [] M) fun v_2 M_1 => if v_2 = 0 then (ev 91 53 [some (.inr a0), some (.inl i1), some (.inl i2), some (.inl i3), some (.inl i4), some (.inr a5), some (.inr a6), some (.inr a7), some (.inr a8), none] [.inl 0] M_1) else (ev 91 53 [some (.inr a0), some (.inl i1), some (.inl i2), some (.inl i3), some (.inl i4), some (.inr a5), some (.inr a6), some (.inr a7), some (.inr a8), none] [.inl 2] M_1)) else none := by
  refine (ev_ns c_91 1 (ip' := 48) (ls' := [some (.inr a0), some (.inl i1), some (.inl i2), some (.inl i3), some (.inl i4), some (.inr a5), some (.inr a6), some (.inr a7), some (.inr a8), none]) (st' := [.inl i2]) (M' := M) rfl).trans ?_
  refine (ev_gI (a_rec M 0 [.inl i2] = true ∧ ([] : List mV).length ≤ 8) (as := [.inl i2]) (rr := []) c_91 c_84 rfl).trans (t_i (t_cI ?_) rfl)
  intro v_2 M_1
  refine (ev_i (v_2 = 0) (i1 := 52) (l1 := [some (.inr a0), some (.inl i1), some (.inl i2), some (.inl i3), some (.inl i4), some (.inr a5), some (.inr a6), some (.inr a7), some (.inr a8), none]) (s1 := []) (M1 := M_1) (i2 := 50) (l2 := [some (.inr a0), some (.inl i1), some (.inl i2), some (.inl i3), some (.inl i4), some (.inr a5), some (.inr a6), some (.inr a7), some (.inr a8), none]) (s2 := []) (M2 := M_1) c_91 rfl).trans (t_i ?_ ?_)
  · skip
    exact ev_ns c_91 1 (ip' := 53) (ls' := [some (.inr a0), some (.inl i1), some (.inl i2), some (.inl i3), some (.inl i4), some (.inr a5), some (.inr a6), some (.inr a7), some (.inr a8), none]) (st' := [.inl 0]) (M' := M_1) rfl
  · skip
    exact ev_ns c_91 2 (ip' := 53) (ls' := [some (.inr a0), some (.inl i1), some (.inl i2), some (.inl i3), some (.inl i4), some (.inr a5), some (.inr a6), some (.inr a7), some (.inr a8), none]) (st' := [.inl 2]) (M' := M_1) rfl
set_option maxRecDepth 20000 in
theorem e_91_53 (a0 : Nat) (i1 : Int32) (i2 : Int32) (i3 : Int32) (i4 : Int32) (a5 : Nat) (a6 : Nat) (a7 : Nat) (a8 : Nat) (s0 : Int32) (M : mM) : ev 91 53 [some (.inr a0), some (.inl i1), some (.inl i2), some (.inl i3), some (.inl i4), some (.inr a5), some (.inr a6), some (.inr a7), some (.inr a8), none] [.inl s0] M = if i4 = 0 then (ev 91 64 [some (.inr a0), some (.inl i1), some (.inl i2), some (.inl i3), some (.inl i4), some (.inr a5), some (.inr a6), some (.inr a7), some (.inr a8), some (.inl s0)] [.inl s0, .inr a7] M) else (if h_k M a8 = 6 then (if (h_k M (h_r M a8 2) = 11 ∨ h_k M (h_r M a8 2) = 12 ∨ h_k M (h_r M a8 2) = 13) ∧ h_in 0 (h_l M (h_r M a8 2)) then (if h_k M (h_r M (h_r M a8 2) 0) = 2 then (ev 91 64 [some (.inr a0), some (.inl i1), some (.inl i2), some (.inl i3), some (.inl i4), some (.inr a5), some (.inr a6), some (.inr a7), some (.inr a8), some (.inl s0)] [.inl (h_i M (h_r M (h_r M a8 2) 0) 2), .inr a7] M) else none) else none) else none) := by
  refine (ev_ns c_91 3 (ip' := 56) (ls' := [some (.inr a0), some (.inl i1), some (.inl i2), some (.inl i3), some (.inl i4), some (.inr a5), some (.inr a6), some (.inr a7), some (.inr a8), some (.inl s0)]) (st' := [.inl i4, .inr a7]) (M' := M) rfl).trans ?_
  refine (ev_i (i4 = 0) (i1 := 63) (l1 := [some (.inr a0), some (.inl i1), some (.inl i2), some (.inl i3), some (.inl i4), some (.inr a5), some (.inr a6), some (.inr a7), some (.inr a8), some (.inl s0)]) (s1 := [.inr a7]) (M1 := M) (i2 := 57) (l2 := [some (.inr a0), some (.inl i1), some (.inl i2), some (.inl i3), some (.inl i4), some (.inr a5), some (.inr a6), some (.inr a7), some (.inr a8), some (.inl s0)]) (s2 := [.inr a7]) (M2 := M) c_91 rfl).trans (t_i ?_ ?_)
  · skip
    exact ev_ns c_91 1 (ip' := 64) (ls' := [some (.inr a0), some (.inl i1), some (.inl i2), some (.inl i3), some (.inl i4), some (.inr a5), some (.inr a6), some (.inr a7), some (.inr a8), some (.inl s0)]) (st' := [.inl s0, .inr a7]) (M' := M) rfl
  · skip
    refine (ev_ns c_91 1 (ip' := 58) (ls' := [some (.inr a0), some (.inl i1), some (.inl i2), some (.inl i3), some (.inl i4), some (.inr a5), some (.inr a6), some (.inr a7), some (.inr a8), some (.inl s0)]) (st' := [.inr a8, .inr a7]) (M' := M) rfl).trans ?_
    refine (ev_g (h_k M a8 = 6) (ip' := 59) (ls' := [some (.inr a0), some (.inl i1), some (.inl i2), some (.inl i3), some (.inl i4), some (.inr a5), some (.inr a6), some (.inr a7), some (.inr a8), some (.inl s0)]) (st' := [.inr (h_r M a8 2), .inr a7]) (M' := M) c_91 rfl).trans (t_i ?_ rfl)
    refine (ev_ns c_91 1 (ip' := 60) (ls' := [some (.inr a0), some (.inl i1), some (.inl i2), some (.inl i3), some (.inl i4), some (.inr a5), some (.inr a6), some (.inr a7), some (.inr a8), some (.inl s0)]) (st' := [.inl 0, .inr (h_r M a8 2), .inr a7]) (M' := M) rfl).trans ?_
    refine (ev_g ((h_k M (h_r M a8 2) = 11 ∨ h_k M (h_r M a8 2) = 12 ∨ h_k M (h_r M a8 2) = 13) ∧ h_in 0 (h_l M (h_r M a8 2))) (ip' := 61) (ls' := [some (.inr a0), some (.inl i1), some (.inl i2), some (.inl i3), some (.inl i4), some (.inr a5), some (.inr a6), some (.inr a7), some (.inr a8), some (.inl s0)]) (st' := [.inr (h_r M (h_r M a8 2) 0), .inr a7]) (M' := M) c_91 rfl).trans (t_i ?_ rfl)
    refine (ev_g (h_k M (h_r M (h_r M a8 2) 0) = 2) (ip' := 62) (ls' := [some (.inr a0), some (.inl i1), some (.inl i2), some (.inl i3), some (.inl i4), some (.inr a5), some (.inr a6), some (.inr a7), some (.inr a8), some (.inl s0)]) (st' := [.inl (h_i M (h_r M (h_r M a8 2) 0) 2), .inr a7]) (M' := M) c_91 rfl).trans (t_i ?_ rfl)
    exact ev_ns c_91 1 (ip' := 64) (ls' := [some (.inr a0), some (.inl i1), some (.inl i2), some (.inl i3), some (.inl i4), some (.inr a5), some (.inr a6), some (.inr a7), some (.inr a8), some (.inl s0)]) (st' := [.inl (h_i M (h_r M (h_r M a8 2) 0) 2), .inr a7]) (M' := M) rfl
set_option maxRecDepth 20000 in
theorem e_91_64 (a0 : Nat) (i1 : Int32) (i2 : Int32) (i3 : Int32) (i4 : Int32) (a5 : Nat) (a6 : Nat) (a7 : Nat) (a8 : Nat) (i9 : Int32) (t0 : Nat) (s1 : Int32) (M : mM) : ev 91 64 [some (.inr a0), some (.inl i1), some (.inl i2), some (.inl i3), some (.inl i4), some (.inr a5), some (.inr a6), some (.inr a7), some (.inr a8), some (.inl i9)] [.inl s1, .inr t0] M = if (a_rec M 2 [.inr t0, .inl s1] = true ∧ ([] : List mV).length ≤ 8) then (c_V (ev 15 0 [some (.inr t0), some (.inl s1)] [] M) fun M_1 => if h_k M_1 a8 = 6 then (if (a_rec M_1 3 [.inr (h_r M_1 a8 0), .inl 1, .inr 0, .inl (-1)] = true ∧ ([] : List mV).length ≤ 8) then (c_V (ev 17 0 [some (.inr (h_r M_1 a8 0)), some (.inl 1), some (.inr 0), some (.inl (-1))] [] M_1) fun M_2 => if h_k M_2 a6 = 4 then (if h_k M_2 a6 = 4 then (if (a_rec (h_si M_2 a6 6 ((h_i M_2 a6 6) - 1)) 7 [.inr a0] = true ∧ ([] : List mV).length ≤ 8) then (c_I (ev 74 0 [some (.inr a0)] [] (h_si M_2 a6 6 ((h_i M_2 a6 6) - 1))) fun v_4 M_3 => if v_4 = 0 ∨ v_4 = 1 then some (some (.inl v_4), M_3) else none) else none) else none) else none) else none) else none) else none := by
  refine (ev_gV (a_rec M 2 [.inr t0, .inl s1] = true ∧ ([] : List mV).length ≤ 8) (as := [.inr t0, .inl s1]) (rr := []) c_91 c_15 rfl).trans (t_i (t_cV ?_) rfl)
  intro M_1
  refine (ev_ns c_91 1 (ip' := 66) (ls' := [some (.inr a0), some (.inl i1), some (.inl i2), some (.inl i3), some (.inl i4), some (.inr a5), some (.inr a6), some (.inr a7), some (.inr a8), some (.inl i9)]) (st' := [.inr a8]) (M' := M_1) rfl).trans ?_
  refine (ev_g (h_k M_1 a8 = 6) (ip' := 67) (ls' := [some (.inr a0), some (.inl i1), some (.inl i2), some (.inl i3), some (.inl i4), some (.inr a5), some (.inr a6), some (.inr a7), some (.inr a8), some (.inl i9)]) (st' := [.inr (h_r M_1 a8 0)]) (M' := M_1) c_91 rfl).trans (t_i ?_ rfl)
  refine (ev_ns c_91 3 (ip' := 70) (ls' := [some (.inr a0), some (.inl i1), some (.inl i2), some (.inl i3), some (.inl i4), some (.inr a5), some (.inr a6), some (.inr a7), some (.inr a8), some (.inl i9)]) (st' := [.inl (-1), .inr 0, .inl 1, .inr (h_r M_1 a8 0)]) (M' := M_1) rfl).trans ?_
  refine (ev_gV (a_rec M_1 3 [.inr (h_r M_1 a8 0), .inl 1, .inr 0, .inl (-1)] = true ∧ ([] : List mV).length ≤ 8) (as := [.inr (h_r M_1 a8 0), .inl 1, .inr 0, .inl (-1)]) (rr := []) c_91 c_17 rfl).trans (t_i (t_cV ?_) rfl)
  intro M_2
  refine (ev_ns c_91 2 (ip' := 73) (ls' := [some (.inr a0), some (.inl i1), some (.inl i2), some (.inl i3), some (.inl i4), some (.inr a5), some (.inr a6), some (.inr a7), some (.inr a8), some (.inl i9)]) (st' := [.inr a6, .inr a6]) (M' := M_2) rfl).trans ?_
  refine (ev_g (h_k M_2 a6 = 4) (ip' := 74) (ls' := [some (.inr a0), some (.inl i1), some (.inl i2), some (.inl i3), some (.inl i4), some (.inr a5), some (.inr a6), some (.inr a7), some (.inr a8), some (.inl i9)]) (st' := [.inl (h_i M_2 a6 6), .inr a6]) (M' := M_2) c_91 rfl).trans (t_i ?_ rfl)
  refine (ev_ns c_91 2 (ip' := 76) (ls' := [some (.inr a0), some (.inl i1), some (.inl i2), some (.inl i3), some (.inl i4), some (.inr a5), some (.inr a6), some (.inr a7), some (.inr a8), some (.inl i9)]) (st' := [.inl ((h_i M_2 a6 6) - 1), .inr a6]) (M' := M_2) rfl).trans ?_
  refine (ev_g (h_k M_2 a6 = 4) (ip' := 77) (ls' := [some (.inr a0), some (.inl i1), some (.inl i2), some (.inl i3), some (.inl i4), some (.inr a5), some (.inr a6), some (.inr a7), some (.inr a8), some (.inl i9)]) (st' := []) (M' := h_si M_2 a6 6 ((h_i M_2 a6 6) - 1)) c_91 rfl).trans (t_i ?_ rfl)
  refine (ev_ns c_91 1 (ip' := 78) (ls' := [some (.inr a0), some (.inl i1), some (.inl i2), some (.inl i3), some (.inl i4), some (.inr a5), some (.inr a6), some (.inr a7), some (.inr a8), some (.inl i9)]) (st' := [.inr a0]) (M' := h_si M_2 a6 6 ((h_i M_2 a6 6) - 1)) rfl).trans ?_
  refine (ev_gI (a_rec (h_si M_2 a6 6 ((h_i M_2 a6 6) - 1)) 7 [.inr a0] = true ∧ ([] : List mV).length ≤ 8) (as := [.inr a0]) (rr := []) c_91 c_74 rfl).trans (t_i (t_cI ?_) rfl)
  intro v_4 M_3
  exact ev_gd (v_4 = 0 ∨ v_4 = 1) c_91 rfl
/- 92: GranuleHall.giveData(LGranuleHall$Realm;LGranuleHall$Entry;LGranuleHall$Granule;)V -/
set_option maxRecDepth 20000 in
theorem e_92_0 (a0 : Nat) (a1 : Nat) (a2 : Nat) (M : mM) : ev 92 0 [some (.inr a0), some (.inr a1), some (.inr a2)] [] M = if h_k M a1 = 2 then (if (a_rec M 3 [.inr a2, .inl 5, .inr a0, .inl (h_i M a1 1)] = true ∧ ([] : List mV).length ≤ 8) then (c_V (ev 17 0 [some (.inr a2), some (.inl 5), some (.inr a0), some (.inl (h_i M a1 1))] [] M) fun M_1 => if h_k M_1 a1 = 2 then (if h_k (h_sr M_1 a1 3 a2) a0 = 4 then (if h_k (h_sr M_1 a1 3 a2) a0 = 4 then (some (none, h_si (h_sr M_1 a1 3 a2) a0 7 ((h_i (h_sr M_1 a1 3 a2) a0 7) + 1))) else none) else none) else none) else none) else none := by
  refine (ev_ns c_92 4 (ip' := 4) (ls' := [some (.inr a0), some (.inr a1), some (.inr a2)]) (st' := [.inr a1, .inr a0, .inl 5, .inr a2]) (M' := M) rfl).trans ?_
  refine (ev_g (h_k M a1 = 2) (ip' := 5) (ls' := [some (.inr a0), some (.inr a1), some (.inr a2)]) (st' := [.inl (h_i M a1 1), .inr a0, .inl 5, .inr a2]) (M' := M) c_92 rfl).trans (t_i ?_ rfl)
  refine (ev_gV (a_rec M 3 [.inr a2, .inl 5, .inr a0, .inl (h_i M a1 1)] = true ∧ ([] : List mV).length ≤ 8) (as := [.inr a2, .inl 5, .inr a0, .inl (h_i M a1 1)]) (rr := []) c_92 c_17 rfl).trans (t_i (t_cV ?_) rfl)
  intro M_1
  refine (ev_ns c_92 2 (ip' := 8) (ls' := [some (.inr a0), some (.inr a1), some (.inr a2)]) (st' := [.inr a2, .inr a1]) (M' := M_1) rfl).trans ?_
  refine (ev_g (h_k M_1 a1 = 2) (ip' := 9) (ls' := [some (.inr a0), some (.inr a1), some (.inr a2)]) (st' := []) (M' := h_sr M_1 a1 3 a2) c_92 rfl).trans (t_i ?_ rfl)
  refine (ev_ns c_92 2 (ip' := 11) (ls' := [some (.inr a0), some (.inr a1), some (.inr a2)]) (st' := [.inr a0, .inr a0]) (M' := h_sr M_1 a1 3 a2) rfl).trans ?_
  refine (ev_g (h_k (h_sr M_1 a1 3 a2) a0 = 4) (ip' := 12) (ls' := [some (.inr a0), some (.inr a1), some (.inr a2)]) (st' := [.inl (h_i (h_sr M_1 a1 3 a2) a0 7), .inr a0]) (M' := h_sr M_1 a1 3 a2) c_92 rfl).trans (t_i ?_ rfl)
  refine (ev_ns c_92 2 (ip' := 14) (ls' := [some (.inr a0), some (.inr a1), some (.inr a2)]) (st' := [.inl ((h_i (h_sr M_1 a1 3 a2) a0 7) + 1), .inr a0]) (M' := h_sr M_1 a1 3 a2) rfl).trans ?_
  refine (ev_g (h_k (h_sr M_1 a1 3 a2) a0 = 4) (ip' := 15) (ls' := [some (.inr a0), some (.inr a1), some (.inr a2)]) (st' := []) (M' := h_si (h_sr M_1 a1 3 a2) a0 7 ((h_i (h_sr M_1 a1 3 a2) a0 7) + 1)) c_92 rfl).trans (t_i ?_ rfl)
  exact ev_d c_92 rfl
/- 93: GranuleHall.settle(LGranuleHall$Rec;LGranuleHall$Granule;)V -/
set_option maxRecDepth 20000 in
theorem e_93_0 (a0 : Nat) (a1 : Nat) (M : mM) : ev 93 0 [some (.inr a0), some (.inr a1), none] [] M = if h_k M a0 = 5 then (if (h_i M a0 4) = 1 then (if h_k M a0 = 5 then (if h_k M a0 = 5 then (if (a_rec M 0 [.inr (h_r M a0 1), .inl (h_i M a0 5)] = true ∧ ([] : List mV).length ≤ 8) then (c_R (ev 95 0 [some (.inr (h_r M a0 1)), some (.inl (h_i M a0 5)), none, none, none] [] M) fun u_2 M_1 => if u_2 = 0 then (ev 93 15 [some (.inr a0), some (.inr a1), some (.inr u_2)] [] M_1) else (if (a_rec M_1 0 [.inr a1, .inr u_2] = true ∧ ([] : List mV).length ≤ 8) then (c_V (ev 94 0 [some (.inr a1), some (.inr u_2)] [] M_1) fun M_3 => ev 93 15 [some (.inr a0), some (.inr a1), some (.inr u_2)] [] M_3) else none)) else none) else none) else none) else (if h_k M a0 = 5 then (if (h_i M a0 4) = 2 then (if h_k M a0 = 5 then (if h_k M a0 = 5 then (if h_k M a0 = 5 then (if (h_i M a0 6) = (h_i M a0 7) then (ev 93 41 [some (.inr a0), some (.inr a1), none] [.inl 0, .inl 0, .inr (h_r M a0 3)] M) else (ev 93 41 [some (.inr a0), some (.inr a1), none] [.inl 1, .inl 0, .inr (h_r M a0 3)] M)) else none) else none) else none) else (ev 93 49 [some (.inr a0), some (.inr a1), none] [] M)) else none)) else none := by
  refine (ev_ns c_93 1 (ip' := 1) (ls' := [some (.inr a0), some (.inr a1), none]) (st' := [.inr a0]) (M' := M) rfl).trans ?_
  refine (ev_g (h_k M a0 = 5) (ip' := 2) (ls' := [some (.inr a0), some (.inr a1), none]) (st' := [.inl (h_i M a0 4)]) (M' := M) c_93 rfl).trans (t_i ?_ rfl)
  refine (ev_ns c_93 1 (ip' := 3) (ls' := [some (.inr a0), some (.inr a1), none]) (st' := [.inl 1, .inl (h_i M a0 4)]) (M' := M) rfl).trans ?_
  refine (ev_i ((h_i M a0 4) = 1) (i1 := 4) (l1 := [some (.inr a0), some (.inr a1), none]) (s1 := []) (M1 := M) (i2 := 26) (l2 := [some (.inr a0), some (.inr a1), none]) (s2 := []) (M2 := M) c_93 rfl).trans (t_i ?_ ?_)
  · skip
    refine (ev_ns c_93 1 (ip' := 5) (ls' := [some (.inr a0), some (.inr a1), none]) (st' := [.inr a0]) (M' := M) rfl).trans ?_
    refine (ev_g (h_k M a0 = 5) (ip' := 6) (ls' := [some (.inr a0), some (.inr a1), none]) (st' := [.inr (h_r M a0 1)]) (M' := M) c_93 rfl).trans (t_i ?_ rfl)
    refine (ev_ns c_93 1 (ip' := 7) (ls' := [some (.inr a0), some (.inr a1), none]) (st' := [.inr a0, .inr (h_r M a0 1)]) (M' := M) rfl).trans ?_
    refine (ev_g (h_k M a0 = 5) (ip' := 8) (ls' := [some (.inr a0), some (.inr a1), none]) (st' := [.inl (h_i M a0 5), .inr (h_r M a0 1)]) (M' := M) c_93 rfl).trans (t_i ?_ rfl)
    refine (ev_gR (a_rec M 0 [.inr (h_r M a0 1), .inl (h_i M a0 5)] = true ∧ ([] : List mV).length ≤ 8) (as := [.inr (h_r M a0 1), .inl (h_i M a0 5)]) (rr := []) c_93 c_95 rfl).trans (t_i (t_cR ?_) rfl)
    intro u_2 M_1
    refine (ev_ns c_93 2 (ip' := 11) (ls' := [some (.inr a0), some (.inr a1), some (.inr u_2)]) (st' := [.inr u_2]) (M' := M_1) rfl).trans ?_
    refine (ev_i (u_2 = 0) (i1 := 15) (l1 := [some (.inr a0), some (.inr a1), some (.inr u_2)]) (s1 := []) (M1 := M_1) (i2 := 12) (l2 := [some (.inr a0), some (.inr a1), some (.inr u_2)]) (s2 := []) (M2 := M_1) c_93 rfl).trans (t_i ?_ ?_)
    · skip
      exact rfl
    · skip
      refine (ev_ns c_93 2 (ip' := 14) (ls' := [some (.inr a0), some (.inr a1), some (.inr u_2)]) (st' := [.inr u_2, .inr a1]) (M' := M_1) rfl).trans ?_
      refine (ev_gV (a_rec M_1 0 [.inr a1, .inr u_2] = true ∧ ([] : List mV).length ≤ 8) (as := [.inr a1, .inr u_2]) (rr := []) c_93 c_94 rfl).trans (t_i (t_cV ?_) rfl)
      intro M_3
      exact rfl
  · skip
    refine (ev_ns c_93 1 (ip' := 27) (ls' := [some (.inr a0), some (.inr a1), none]) (st' := [.inr a0]) (M' := M) rfl).trans ?_
    refine (ev_g (h_k M a0 = 5) (ip' := 28) (ls' := [some (.inr a0), some (.inr a1), none]) (st' := [.inl (h_i M a0 4)]) (M' := M) c_93 rfl).trans (t_i ?_ rfl)
    refine (ev_ns c_93 1 (ip' := 29) (ls' := [some (.inr a0), some (.inr a1), none]) (st' := [.inl 2, .inl (h_i M a0 4)]) (M' := M) rfl).trans ?_
    refine (ev_i ((h_i M a0 4) = 2) (i1 := 30) (l1 := [some (.inr a0), some (.inr a1), none]) (s1 := []) (M1 := M) (i2 := 49) (l2 := [some (.inr a0), some (.inr a1), none]) (s2 := []) (M2 := M) c_93 rfl).trans (t_i ?_ ?_)
    · skip
      refine (ev_ns c_93 1 (ip' := 31) (ls' := [some (.inr a0), some (.inr a1), none]) (st' := [.inr a0]) (M' := M) rfl).trans ?_
      refine (ev_g (h_k M a0 = 5) (ip' := 32) (ls' := [some (.inr a0), some (.inr a1), none]) (st' := [.inr (h_r M a0 3)]) (M' := M) c_93 rfl).trans (t_i ?_ rfl)
      refine (ev_ns c_93 2 (ip' := 34) (ls' := [some (.inr a0), some (.inr a1), none]) (st' := [.inr a0, .inl 0, .inr (h_r M a0 3)]) (M' := M) rfl).trans ?_
      refine (ev_g (h_k M a0 = 5) (ip' := 35) (ls' := [some (.inr a0), some (.inr a1), none]) (st' := [.inl (h_i M a0 6), .inl 0, .inr (h_r M a0 3)]) (M' := M) c_93 rfl).trans (t_i ?_ rfl)
      refine (ev_ns c_93 1 (ip' := 36) (ls' := [some (.inr a0), some (.inr a1), none]) (st' := [.inr a0, .inl (h_i M a0 6), .inl 0, .inr (h_r M a0 3)]) (M' := M) rfl).trans ?_
      refine (ev_g (h_k M a0 = 5) (ip' := 37) (ls' := [some (.inr a0), some (.inr a1), none]) (st' := [.inl (h_i M a0 7), .inl (h_i M a0 6), .inl 0, .inr (h_r M a0 3)]) (M' := M) c_93 rfl).trans (t_i ?_ rfl)
      refine (ev_i ((h_i M a0 6) = (h_i M a0 7)) (i1 := 40) (l1 := [some (.inr a0), some (.inr a1), none]) (s1 := [.inl 0, .inr (h_r M a0 3)]) (M1 := M) (i2 := 38) (l2 := [some (.inr a0), some (.inr a1), none]) (s2 := [.inl 0, .inr (h_r M a0 3)]) (M2 := M) c_93 rfl).trans (t_i ?_ ?_)
      · skip
        exact ev_ns c_93 1 (ip' := 41) (ls' := [some (.inr a0), some (.inr a1), none]) (st' := [.inl 0, .inl 0, .inr (h_r M a0 3)]) (M' := M) rfl
      · skip
        exact ev_ns c_93 2 (ip' := 41) (ls' := [some (.inr a0), some (.inr a1), none]) (st' := [.inl 1, .inl 0, .inr (h_r M a0 3)]) (M' := M) rfl
    · skip
      exact rfl
set_option maxRecDepth 20000 in
theorem e_93_15 (a0 : Nat) (a1 : Nat) (a2 : Nat) (M : mM) : ev 93 15 [some (.inr a0), some (.inr a1), some (.inr a2)] [] M = if h_k M a0 = 5 then (if a2 = 0 then (ev 93 23 [some (.inr a0), some (.inr a1), some (.inr a2)] [.inl 1, .inl 0, .inr (h_r M a0 3)] M) else (ev 93 23 [some (.inr a0), some (.inr a1), some (.inr a2)] [.inl 0, .inl 0, .inr (h_r M a0 3)] M)) else none := by
  refine (ev_ns c_93 1 (ip' := 16) (ls' := [some (.inr a0), some (.inr a1), some (.inr a2)]) (st' := [.inr a0]) (M' := M) rfl).trans ?_
  refine (ev_g (h_k M a0 = 5) (ip' := 17) (ls' := [some (.inr a0), some (.inr a1), some (.inr a2)]) (st' := [.inr (h_r M a0 3)]) (M' := M) c_93 rfl).trans (t_i ?_ rfl)
  refine (ev_ns c_93 2 (ip' := 19) (ls' := [some (.inr a0), some (.inr a1), some (.inr a2)]) (st' := [.inr a2, .inl 0, .inr (h_r M a0 3)]) (M' := M) rfl).trans ?_
  refine (ev_i (a2 = 0) (i1 := 20) (l1 := [some (.inr a0), some (.inr a1), some (.inr a2)]) (s1 := [.inl 0, .inr (h_r M a0 3)]) (M1 := M) (i2 := 22) (l2 := [some (.inr a0), some (.inr a1), some (.inr a2)]) (s2 := [.inl 0, .inr (h_r M a0 3)]) (M2 := M) c_93 rfl).trans (t_i ?_ ?_)
  · skip
    exact ev_ns c_93 2 (ip' := 23) (ls' := [some (.inr a0), some (.inr a1), some (.inr a2)]) (st' := [.inl 1, .inl 0, .inr (h_r M a0 3)]) (M' := M) rfl
  · skip
    exact ev_ns c_93 1 (ip' := 23) (ls' := [some (.inr a0), some (.inr a1), some (.inr a2)]) (st' := [.inl 0, .inl 0, .inr (h_r M a0 3)]) (M' := M) rfl
set_option maxRecDepth 20000 in
theorem e_93_23 (a0 : Nat) (a1 : Nat) (a2 : Nat) (t0 : Nat) (s1 : Int32) (s2 : Int32) (M : mM) : ev 93 23 [some (.inr a0), some (.inr a1), some (.inr a2)] [.inl s2, .inl s1, .inr t0] M = if (a_rec M 0 [.inl s2] = true ∧ ([.inl s1, .inr t0] : List mV).length ≤ 8) then (c_I (ev 89 0 [some (.inl s2)] [] M) fun v_2 M_1 => if h_k M_1 t0 = 9 ∧ h_in s1 (h_l M_1 t0) then (ev 93 49 [some (.inr a0), some (.inr a1), some (.inr a2)] [] (h_si M_1 t0 (s1).toNatClampNeg v_2)) else none) else none := by
  refine (ev_gI (a_rec M 0 [.inl s2] = true ∧ ([.inl s1, .inr t0] : List mV).length ≤ 8) (as := [.inl s2]) (rr := [.inl s1, .inr t0]) c_93 c_89 rfl).trans (t_i (t_cI ?_) rfl)
  intro v_2 M_1
  refine (ev_g (h_k M_1 t0 = 9 ∧ h_in s1 (h_l M_1 t0)) (ip' := 25) (ls' := [some (.inr a0), some (.inr a1), some (.inr a2)]) (st' := []) (M' := h_si M_1 t0 (s1).toNatClampNeg v_2) c_93 rfl).trans (t_i ?_ rfl)
  exact ev_ns c_93 1 (ip' := 49) (ls' := [some (.inr a0), some (.inr a1), some (.inr a2)]) (st' := []) (M' := h_si M_1 t0 (s1).toNatClampNeg v_2) rfl
set_option maxRecDepth 20000 in
theorem e_93_41 (a0 : Nat) (a1 : Nat) (t0 : Nat) (s1 : Int32) (s2 : Int32) (M : mM) : ev 93 41 [some (.inr a0), some (.inr a1), none] [.inl s2, .inl s1, .inr t0] M = if (a_rec M 0 [.inl s2] = true ∧ ([.inl s1, .inr t0] : List mV).length ≤ 8) then (c_I (ev 89 0 [some (.inl s2)] [] M) fun v_2 M_1 => if h_k M_1 t0 = 9 ∧ h_in s1 (h_l M_1 t0) then (if h_k (h_si M_1 t0 (s1).toNatClampNeg v_2) a0 = 5 then (if h_k (h_si M_1 t0 (s1).toNatClampNeg v_2) a0 = 5 then (if h_k (h_si M_1 t0 (s1).toNatClampNeg v_2) (h_r (h_si M_1 t0 (s1).toNatClampNeg v_2) a0 3) = 9 ∧ h_in 1 (h_l (h_si M_1 t0 (s1).toNatClampNeg v_2) (h_r (h_si M_1 t0 (s1).toNatClampNeg v_2) a0 3)) then (ev 93 49 [some (.inr a0), some (.inr a1), none] [] (h_si (h_si M_1 t0 (s1).toNatClampNeg v_2) (h_r (h_si M_1 t0 (s1).toNatClampNeg v_2) a0 3) 1 (h_i (h_si M_1 t0 (s1).toNatClampNeg v_2) a0 6))) else none) else none) else none) else none) else none := by
  refine (ev_gI (a_rec M 0 [.inl s2] = true ∧ ([.inl s1, .inr t0] : List mV).length ≤ 8) (as := [.inl s2]) (rr := [.inl s1, .inr t0]) c_93 c_89 rfl).trans (t_i (t_cI ?_) rfl)
  intro v_2 M_1
  refine (ev_g (h_k M_1 t0 = 9 ∧ h_in s1 (h_l M_1 t0)) (ip' := 43) (ls' := [some (.inr a0), some (.inr a1), none]) (st' := []) (M' := h_si M_1 t0 (s1).toNatClampNeg v_2) c_93 rfl).trans (t_i ?_ rfl)
  refine (ev_ns c_93 1 (ip' := 44) (ls' := [some (.inr a0), some (.inr a1), none]) (st' := [.inr a0]) (M' := h_si M_1 t0 (s1).toNatClampNeg v_2) rfl).trans ?_
  refine (ev_g (h_k (h_si M_1 t0 (s1).toNatClampNeg v_2) a0 = 5) (ip' := 45) (ls' := [some (.inr a0), some (.inr a1), none]) (st' := [.inr (h_r (h_si M_1 t0 (s1).toNatClampNeg v_2) a0 3)]) (M' := h_si M_1 t0 (s1).toNatClampNeg v_2) c_93 rfl).trans (t_i ?_ rfl)
  refine (ev_ns c_93 2 (ip' := 47) (ls' := [some (.inr a0), some (.inr a1), none]) (st' := [.inr a0, .inl 1, .inr (h_r (h_si M_1 t0 (s1).toNatClampNeg v_2) a0 3)]) (M' := h_si M_1 t0 (s1).toNatClampNeg v_2) rfl).trans ?_
  refine (ev_g (h_k (h_si M_1 t0 (s1).toNatClampNeg v_2) a0 = 5) (ip' := 48) (ls' := [some (.inr a0), some (.inr a1), none]) (st' := [.inl (h_i (h_si M_1 t0 (s1).toNatClampNeg v_2) a0 6), .inl 1, .inr (h_r (h_si M_1 t0 (s1).toNatClampNeg v_2) a0 3)]) (M' := h_si M_1 t0 (s1).toNatClampNeg v_2) c_93 rfl).trans (t_i ?_ rfl)
  refine (ev_g (h_k (h_si M_1 t0 (s1).toNatClampNeg v_2) (h_r (h_si M_1 t0 (s1).toNatClampNeg v_2) a0 3) = 9 ∧ h_in 1 (h_l (h_si M_1 t0 (s1).toNatClampNeg v_2) (h_r (h_si M_1 t0 (s1).toNatClampNeg v_2) a0 3))) (ip' := 49) (ls' := [some (.inr a0), some (.inr a1), none]) (st' := []) (M' := h_si (h_si M_1 t0 (s1).toNatClampNeg v_2) (h_r (h_si M_1 t0 (s1).toNatClampNeg v_2) a0 3) 1 (h_i (h_si M_1 t0 (s1).toNatClampNeg v_2) a0 6)) c_93 rfl).trans (t_i ?_ rfl)
  exact rfl
set_option maxRecDepth 20000 in
theorem e_93_49 (a0 : Nat) (a1 : Nat) (o2 : Option mV) (M : mM) : ev 93 49 [some (.inr a0), some (.inr a1), o2] [] M = if h_k M a0 = 5 then (some (none, h_si M a0 4 0)) else none := by
  refine (ev_ns c_93 2 (ip' := 51) (ls' := [some (.inr a0), some (.inr a1), o2]) (st' := [.inl 0, .inr a0]) (M' := M) rfl).trans ?_
  refine (ev_g (h_k M a0 = 5) (ip' := 52) (ls' := [some (.inr a0), some (.inr a1), o2]) (st' := []) (M' := h_si M a0 4 0) c_93 rfl).trans (t_i ?_ rfl)
  exact ev_d c_93 rfl
/- 94: GranuleHall.copyMessage(LGranuleHall$Granule;LGranuleHall$Granule;)V -/
set_option maxRecDepth 20000 in
theorem e_94_0 (a0 : Nat) (a1 : Nat) (M : mM) : ev 94 0 [some (.inr a0), some (.inr a1)] [] M = if h_k M a0 = 3 then (if h_k M a1 = 3 then (if ((h_k M (h_r M a0 1) = 9 ∨ h_k M (h_r M a0 1) = 14) ∧ h_k M (h_r M a1 1) = 9) ∧ (¬ (1 : Int32) < 0 ∧ ¬ (1 : Int32) < 0 ∧ ¬ (8 : Int32) < 0) ∧ (1 + 8 ≤ h_l M (h_r M a0 1) ∧ 1 + 8 ≤ h_l M (h_r M a1 1)) ∧ ([] : List mV).length ≤ 8 then (some (none, h_cp M (h_r M a0 1) 1 (h_r M a1 1) 1 8)) else none) else none) else none := by
  refine (ev_ns c_94 1 (ip' := 1) (ls' := [some (.inr a0), some (.inr a1)]) (st' := [.inr a0]) (M' := M) rfl).trans ?_
  refine (ev_g (h_k M a0 = 3) (ip' := 2) (ls' := [some (.inr a0), some (.inr a1)]) (st' := [.inr (h_r M a0 1)]) (M' := M) c_94 rfl).trans (t_i ?_ rfl)
  refine (ev_ns c_94 2 (ip' := 4) (ls' := [some (.inr a0), some (.inr a1)]) (st' := [.inr a1, .inl 1, .inr (h_r M a0 1)]) (M' := M) rfl).trans ?_
  refine (ev_g (h_k M a1 = 3) (ip' := 5) (ls' := [some (.inr a0), some (.inr a1)]) (st' := [.inr (h_r M a1 1), .inl 1, .inr (h_r M a0 1)]) (M' := M) c_94 rfl).trans (t_i ?_ rfl)
  refine (ev_ns c_94 2 (ip' := 7) (ls' := [some (.inr a0), some (.inr a1)]) (st' := [.inl 8, .inl 1, .inr (h_r M a1 1), .inl 1, .inr (h_r M a0 1)]) (M' := M) rfl).trans ?_
  refine (ev_g (((h_k M (h_r M a0 1) = 9 ∨ h_k M (h_r M a0 1) = 14) ∧ h_k M (h_r M a1 1) = 9) ∧ (¬ (1 : Int32) < 0 ∧ ¬ (1 : Int32) < 0 ∧ ¬ (8 : Int32) < 0) ∧ (1 + 8 ≤ h_l M (h_r M a0 1) ∧ 1 + 8 ≤ h_l M (h_r M a1 1)) ∧ ([] : List mV).length ≤ 8) (ip' := 8) (ls' := [some (.inr a0), some (.inr a1)]) (st' := []) (M' := h_cp M (h_r M a0 1) 1 (h_r M a1 1) 1 8) c_94 rfl).trans (t_i ?_ rfl)
  exact ev_d c_94 rfl
/- 95: GranuleHall.reached(LGranuleHall$Realm;I)LGranuleHall$Granule; -/
set_option maxRecDepth 20000 in
theorem e_95_0 (a0 : Nat) (i1 : Int32) (M : mM) : ev 95 0 [some (.inr a0), some (.inl i1), none, none, none] [] M = if (a_rec M 4 [.inr a0, .inl i1] = true ∧ ([] : List mV).length ≤ 8) then (c_R (ev 24 0 [some (.inr a0), some (.inl i1)] [] M) fun u_2 M_1 => if h_k M_1 u_2 = 2 then (if (h_r M_1 u_2 3) = 0 then (some (some (.inr 0), M_1)) else (if (a_rec M_1 0 [.inl i1] = true ∧ ([] : List mV).length ≤ 8) then (c_I (ev 84 0 [some (.inl i1)] [] M_1) fun v_4 M_3 => if v_4 = 0 then (if h_k M_3 (h_r M_1 u_2 3) = 3 then (if (h_i M_3 (h_r M_1 u_2 3) 2) = 0 then (ev 95 28 [some (.inr a0), some (.inl i1), some (.inr u_2), some (.inr (h_r M_1 u_2 3)), none] [.inl 1] M_3) else (ev 95 28 [some (.inr a0), some (.inl i1), some (.inr u_2), some (.inr (h_r M_1 u_2 3)), none] [.inl 0] M_3)) else none) else (if h_k M_3 u_2 = 2 then (if (h_i M_3 u_2 2) = 1 then (ev 95 28 [some (.inr a0), some (.inl i1), some (.inr u_2), some (.inr (h_r M_1 u_2 3)), none] [.inl 1] M_3) else (ev 95 28 [some (.inr a0), some (.inl i1), some (.inr u_2), some (.inr (h_r M_1 u_2 3)), none] [.inl 0] M_3)) else none)) else none)) else none) else none := by
  refine (ev_ns c_95 2 (ip' := 2) (ls' := [some (.inr a0), some (.inl i1), none, none, none]) (st' := [.inl i1, .inr a0]) (M' := M) rfl).trans ?_
  refine (ev_gR (a_rec M 4 [.inr a0, .inl i1] = true ∧ ([] : List mV).length ≤ 8) (as := [.inr a0, .inl i1]) (rr := []) c_95 c_24 rfl).trans (t_i (t_cR ?_) rfl)
  intro u_2 M_1
  refine (ev_ns c_95 2 (ip' := 5) (ls' := [some (.inr a0), some (.inl i1), some (.inr u_2), none, none]) (st' := [.inr u_2]) (M' := M_1) rfl).trans ?_
  refine (ev_g (h_k M_1 u_2 = 2) (ip' := 6) (ls' := [some (.inr a0), some (.inl i1), some (.inr u_2), none, none]) (st' := [.inr (h_r M_1 u_2 3)]) (M' := M_1) c_95 rfl).trans (t_i ?_ rfl)
  refine (ev_ns c_95 2 (ip' := 8) (ls' := [some (.inr a0), some (.inl i1), some (.inr u_2), some (.inr (h_r M_1 u_2 3)), none]) (st' := [.inr (h_r M_1 u_2 3)]) (M' := M_1) rfl).trans ?_
  refine (ev_i ((h_r M_1 u_2 3) = 0) (i1 := 9) (l1 := [some (.inr a0), some (.inl i1), some (.inr u_2), some (.inr (h_r M_1 u_2 3)), none]) (s1 := []) (M1 := M_1) (i2 := 11) (l2 := [some (.inr a0), some (.inl i1), some (.inr u_2), some (.inr (h_r M_1 u_2 3)), none]) (s2 := []) (M2 := M_1) c_95 rfl).trans (t_i ?_ ?_)
  · skip
    refine (ev_ns c_95 1 (ip' := 10) (ls' := [some (.inr a0), some (.inl i1), some (.inr u_2), some (.inr (h_r M_1 u_2 3)), none]) (st' := [.inr 0]) (M' := M_1) rfl).trans ?_
    exact ev_d c_95 rfl
  · skip
    refine (ev_ns c_95 1 (ip' := 12) (ls' := [some (.inr a0), some (.inl i1), some (.inr u_2), some (.inr (h_r M_1 u_2 3)), none]) (st' := [.inl i1]) (M' := M_1) rfl).trans ?_
    refine (ev_gI (a_rec M_1 0 [.inl i1] = true ∧ ([] : List mV).length ≤ 8) (as := [.inl i1]) (rr := []) c_95 c_84 rfl).trans (t_i (t_cI ?_) rfl)
    intro v_4 M_3
    refine (ev_i (v_4 = 0) (i1 := 22) (l1 := [some (.inr a0), some (.inl i1), some (.inr u_2), some (.inr (h_r M_1 u_2 3)), none]) (s1 := []) (M1 := M_3) (i2 := 14) (l2 := [some (.inr a0), some (.inl i1), some (.inr u_2), some (.inr (h_r M_1 u_2 3)), none]) (s2 := []) (M2 := M_3) c_95 rfl).trans (t_i ?_ ?_)
    · skip
      refine (ev_ns c_95 1 (ip' := 23) (ls' := [some (.inr a0), some (.inl i1), some (.inr u_2), some (.inr (h_r M_1 u_2 3)), none]) (st' := [.inr (h_r M_1 u_2 3)]) (M' := M_3) rfl).trans ?_
      refine (ev_g (h_k M_3 (h_r M_1 u_2 3) = 3) (ip' := 24) (ls' := [some (.inr a0), some (.inl i1), some (.inr u_2), some (.inr (h_r M_1 u_2 3)), none]) (st' := [.inl (h_i M_3 (h_r M_1 u_2 3) 2)]) (M' := M_3) c_95 rfl).trans (t_i ?_ rfl)
      refine (ev_i ((h_i M_3 (h_r M_1 u_2 3) 2) = 0) (i1 := 25) (l1 := [some (.inr a0), some (.inl i1), some (.inr u_2), some (.inr (h_r M_1 u_2 3)), none]) (s1 := []) (M1 := M_3) (i2 := 27) (l2 := [some (.inr a0), some (.inl i1), some (.inr u_2), some (.inr (h_r M_1 u_2 3)), none]) (s2 := []) (M2 := M_3) c_95 rfl).trans (t_i ?_ ?_)
      · skip
        exact ev_ns c_95 2 (ip' := 28) (ls' := [some (.inr a0), some (.inl i1), some (.inr u_2), some (.inr (h_r M_1 u_2 3)), none]) (st' := [.inl 1]) (M' := M_3) rfl
      · skip
        exact ev_ns c_95 1 (ip' := 28) (ls' := [some (.inr a0), some (.inl i1), some (.inr u_2), some (.inr (h_r M_1 u_2 3)), none]) (st' := [.inl 0]) (M' := M_3) rfl
    · skip
      refine (ev_ns c_95 1 (ip' := 15) (ls' := [some (.inr a0), some (.inl i1), some (.inr u_2), some (.inr (h_r M_1 u_2 3)), none]) (st' := [.inr u_2]) (M' := M_3) rfl).trans ?_
      refine (ev_g (h_k M_3 u_2 = 2) (ip' := 16) (ls' := [some (.inr a0), some (.inl i1), some (.inr u_2), some (.inr (h_r M_1 u_2 3)), none]) (st' := [.inl (h_i M_3 u_2 2)]) (M' := M_3) c_95 rfl).trans (t_i ?_ rfl)
      refine (ev_ns c_95 1 (ip' := 17) (ls' := [some (.inr a0), some (.inl i1), some (.inr u_2), some (.inr (h_r M_1 u_2 3)), none]) (st' := [.inl 1, .inl (h_i M_3 u_2 2)]) (M' := M_3) rfl).trans ?_
      refine (ev_i ((h_i M_3 u_2 2) = 1) (i1 := 18) (l1 := [some (.inr a0), some (.inl i1), some (.inr u_2), some (.inr (h_r M_1 u_2 3)), none]) (s1 := []) (M1 := M_3) (i2 := 20) (l2 := [some (.inr a0), some (.inl i1), some (.inr u_2), some (.inr (h_r M_1 u_2 3)), none]) (s2 := []) (M2 := M_3) c_95 rfl).trans (t_i ?_ ?_)
      · skip
        exact ev_ns c_95 2 (ip' := 28) (ls' := [some (.inr a0), some (.inl i1), some (.inr u_2), some (.inr (h_r M_1 u_2 3)), none]) (st' := [.inl 1]) (M' := M_3) rfl
      · skip
        exact ev_ns c_95 2 (ip' := 28) (ls' := [some (.inr a0), some (.inl i1), some (.inr u_2), some (.inr (h_r M_1 u_2 3)), none]) (st' := [.inl 0]) (M' := M_3) rfl
set_option maxRecDepth 20000 in
theorem e_95_28 (a0 : Nat) (i1 : Int32) (a2 : Nat) (a3 : Nat) (s0 : Int32) (M : mM) : ev 95 28 [some (.inr a0), some (.inl i1), some (.inr a2), some (.inr a3), none] [.inl s0] M = if s0 = 0 then (ev 95 34 [some (.inr a0), some (.inl i1), some (.inr a2), some (.inr a3), some (.inl s0)] [.inr 0] M) else (ev 95 34 [some (.inr a0), some (.inl i1), some (.inr a2), some (.inr a3), some (.inl s0)] [.inr a3] M) := by
  refine (ev_ns c_95 2 (ip' := 30) (ls' := [some (.inr a0), some (.inl i1), some (.inr a2), some (.inr a3), some (.inl s0)]) (st' := [.inl s0]) (M' := M) rfl).trans ?_
  refine (ev_i (s0 = 0) (i1 := 33) (l1 := [some (.inr a0), some (.inl i1), some (.inr a2), some (.inr a3), some (.inl s0)]) (s1 := []) (M1 := M) (i2 := 31) (l2 := [some (.inr a0), some (.inl i1), some (.inr a2), some (.inr a3), some (.inl s0)]) (s2 := []) (M2 := M) c_95 rfl).trans (t_i ?_ ?_)
  · skip
    exact ev_ns c_95 1 (ip' := 34) (ls' := [some (.inr a0), some (.inl i1), some (.inr a2), some (.inr a3), some (.inl s0)]) (st' := [.inr 0]) (M' := M) rfl
  · skip
    exact ev_ns c_95 2 (ip' := 34) (ls' := [some (.inr a0), some (.inl i1), some (.inr a2), some (.inr a3), some (.inl s0)]) (st' := [.inr a3]) (M' := M) rfl
set_option maxRecDepth 20000 in
theorem e_95_34 (a0 : Nat) (i1 : Int32) (a2 : Nat) (a3 : Nat) (i4 : Int32) (t0 : Nat) (M : mM) : ev 95 34 [some (.inr a0), some (.inl i1), some (.inr a2), some (.inr a3), some (.inl i4)] [.inr t0] M = some (some (.inr t0), M) := by
  exact ev_d c_95 rfl
/- 96: GranuleHall.miss(LGranuleHall$Rec;IZ)I -/
set_option maxRecDepth 20000 in
theorem e_96_0 (a0 : Nat) (a1 : Nat) (i2 : Int32) (i3 : Int32) (M : mM) : ev 96 0 [some (.inr a0), some (.inr a1), some (.inl i2), some (.inl i3)] [] M = if (a_rec M 0 [.inl i2] = true ∧ ([] : List mV).length ≤ 8) then (c_I (ev 84 0 [some (.inl i2)] [] M) fun v_2 M_1 => if v_2 = 0 then (ev 96 12 [some (.inr a0), some (.inr a1), some (.inl i2), some (.inl i3)] [] M_1) else (if h_k M_1 a1 = 5 then (if (a_rec M_1 4 [.inr (h_r M_1 a1 1), .inl i2] = true ∧ ([] : List mV).length ≤ 8) then (c_R (ev 24 0 [some (.inr (h_r M_1 a1 1)), some (.inl i2)] [] M_1) fun u_4 M_3 => if h_k M_3 u_4 = 2 then (if (h_i M_3 u_4 2) = 0 then (if (a_rec M_3 7 [.inr a0] = true ∧ ([] : List mV).length ≤ 8) then (c_I (ev 77 0 [some (.inr a0)] [] M_3) fun v_6 M_5 => some (some (.inl v_6), M_5)) else none) else (ev 96 12 [some (.inr a0), some (.inr a1), some (.inl i2), some (.inl i3)] [] M_3)) else none) else none) else none)) else none := by
  refine (ev_ns c_96 1 (ip' := 1) (ls' := [some (.inr a0), some (.inr a1), some (.inl i2), some (.inl i3)]) (st' := [.inl i2]) (M' := M) rfl).trans ?_
  refine (ev_gI (a_rec M 0 [.inl i2] = true ∧ ([] : List mV).length ≤ 8) (as := [.inl i2]) (rr := []) c_96 c_84 rfl).trans (t_i (t_cI ?_) rfl)
  intro v_2 M_1
  refine (ev_i (v_2 = 0) (i1 := 12) (l1 := [some (.inr a0), some (.inr a1), some (.inl i2), some (.inl i3)]) (s1 := []) (M1 := M_1) (i2 := 3) (l2 := [some (.inr a0), some (.inr a1), some (.inl i2), some (.inl i3)]) (s2 := []) (M2 := M_1) c_96 rfl).trans (t_i ?_ ?_)
  · skip
    exact rfl
  · skip
    refine (ev_ns c_96 1 (ip' := 4) (ls' := [some (.inr a0), some (.inr a1), some (.inl i2), some (.inl i3)]) (st' := [.inr a1]) (M' := M_1) rfl).trans ?_
    refine (ev_g (h_k M_1 a1 = 5) (ip' := 5) (ls' := [some (.inr a0), some (.inr a1), some (.inl i2), some (.inl i3)]) (st' := [.inr (h_r M_1 a1 1)]) (M' := M_1) c_96 rfl).trans (t_i ?_ rfl)
    refine (ev_ns c_96 1 (ip' := 6) (ls' := [some (.inr a0), some (.inr a1), some (.inl i2), some (.inl i3)]) (st' := [.inl i2, .inr (h_r M_1 a1 1)]) (M' := M_1) rfl).trans ?_
    refine (ev_gR (a_rec M_1 4 [.inr (h_r M_1 a1 1), .inl i2] = true ∧ ([] : List mV).length ≤ 8) (as := [.inr (h_r M_1 a1 1), .inl i2]) (rr := []) c_96 c_24 rfl).trans (t_i (t_cR ?_) rfl)
    intro u_4 M_3
    refine (ev_g (h_k M_3 u_4 = 2) (ip' := 8) (ls' := [some (.inr a0), some (.inr a1), some (.inl i2), some (.inl i3)]) (st' := [.inl (h_i M_3 u_4 2)]) (M' := M_3) c_96 rfl).trans (t_i ?_ rfl)
    refine (ev_i ((h_i M_3 u_4 2) = 0) (i1 := 9) (l1 := [some (.inr a0), some (.inr a1), some (.inl i2), some (.inl i3)]) (s1 := []) (M1 := M_3) (i2 := 12) (l2 := [some (.inr a0), some (.inr a1), some (.inl i2), some (.inl i3)]) (s2 := []) (M2 := M_3) c_96 rfl).trans (t_i ?_ ?_)
    · skip
      refine (ev_ns c_96 1 (ip' := 10) (ls' := [some (.inr a0), some (.inr a1), some (.inl i2), some (.inl i3)]) (st' := [.inr a0]) (M' := M_3) rfl).trans ?_
      refine (ev_gI (a_rec M_3 7 [.inr a0] = true ∧ ([] : List mV).length ≤ 8) (as := [.inr a0]) (rr := []) c_96 c_77 rfl).trans (t_i (t_cI ?_) rfl)
      intro v_6 M_5
      exact ev_d c_96 rfl
    · skip
      exact rfl
set_option maxRecDepth 20000 in
theorem e_96_12 (a0 : Nat) (a1 : Nat) (i2 : Int32) (i3 : Int32) (M : mM) : ev 96 12 [some (.inr a0), some (.inr a1), some (.inl i2), some (.inl i3)] [] M = if (a_rec M 0 [.inl i3] = true ∧ ([.inl i2, .inl 5, .inr a1, .inr a0] : List mV).length ≤ 8) then (c_I (ev 89 0 [some (.inl i3)] [] M) fun v_2 M_1 => if (a_rec M_1 7 [.inr a0, .inr a1, .inl 5, .inl i2, .inl v_2, .inl 0] = true ∧ ([] : List mV).length ≤ 8) then (c_I (ev 78 0 [some (.inr a0), some (.inr a1), some (.inl 5), some (.inl i2), some (.inl v_2), some (.inl 0), none] [] M_1) fun v_4 M_3 => some (some (.inl v_4), M_3)) else none) else none := by
  refine (ev_ns c_96 5 (ip' := 17) (ls' := [some (.inr a0), some (.inr a1), some (.inl i2), some (.inl i3)]) (st' := [.inl i3, .inl i2, .inl 5, .inr a1, .inr a0]) (M' := M) rfl).trans ?_
  refine (ev_gI (a_rec M 0 [.inl i3] = true ∧ ([.inl i2, .inl 5, .inr a1, .inr a0] : List mV).length ≤ 8) (as := [.inl i3]) (rr := [.inl i2, .inl 5, .inr a1, .inr a0]) c_96 c_89 rfl).trans (t_i (t_cI ?_) rfl)
  intro v_2 M_1
  refine (ev_ns c_96 1 (ip' := 19) (ls' := [some (.inr a0), some (.inr a1), some (.inl i2), some (.inl i3)]) (st' := [.inl 0, .inl v_2, .inl i2, .inl 5, .inr a1, .inr a0]) (M' := M_1) rfl).trans ?_
  refine (ev_gI (a_rec M_1 7 [.inr a0, .inr a1, .inl 5, .inl i2, .inl v_2, .inl 0] = true ∧ ([] : List mV).length ≤ 8) (as := [.inr a0, .inr a1, .inl 5, .inl i2, .inl v_2, .inl 0]) (rr := []) c_96 c_78 rfl).trans (t_i (t_cI ?_) rfl)
  intro v_4 M_3
  exact ev_d c_96 rfl
/- 97: GranuleHall.writeToken(LGranuleHall$Rec;[I)V -/
set_option maxRecDepth 20000 in
theorem e_97_0 (a0 : Nat) (a1 : Nat) (a2 : Nat) (M : mM) : ev 97 0 [some (.inr a0), some (.inr a1), some (.inr a2), none, none] [] M = if h_k M a1 = 5 then (if h_k M a2 = 9 ∧ h_in 0 (h_l M a2) then (if h_k (h_si M a2 0 1414482737) a1 = 5 then (if ((h_k (h_si M a2 0 1414482737) (h_r (h_si M a2 0 1414482737) a1 3) = 9 ∨ h_k (h_si M a2 0 1414482737) (h_r (h_si M a2 0 1414482737) a1 3) = 14) ∧ h_k (h_si M a2 0 1414482737) a2 = 9) ∧ (¬ (0 : Int32) < 0 ∧ ¬ (1 : Int32) < 0 ∧ ¬ (8 : Int32) < 0) ∧ (0 + 8 ≤ h_l (h_si M a2 0 1414482737) (h_r (h_si M a2 0 1414482737) a1 3) ∧ 1 + 8 ≤ h_l (h_si M a2 0 1414482737) a2) ∧ ([] : List mV).length ≤ 8 then (if (a_rec (h_cp (h_si M a2 0 1414482737) (h_r (h_si M a2 0 1414482737) a1 3) 0 a2 1 8) 4 [.inr (h_r M a1 1)] = true ∧ ([] : List mV).length ≤ 8) then (c_R (ev 22 0 [some (.inr (h_r M a1 1))] [] (h_cp (h_si M a2 0 1414482737) (h_r (h_si M a2 0 1414482737) a1 3) 0 a2 1 8)) fun u_2 M_1 => if ((h_k M_1 u_2 = 9 ∨ h_k M_1 u_2 = 14) ∧ h_k M_1 a2 = 9) ∧ (¬ (0 : Int32) < 0 ∧ ¬ (9 : Int32) < 0 ∧ ¬ (8 : Int32) < 0) ∧ (0 + 8 ≤ h_l M_1 u_2 ∧ 9 + 8 ≤ h_l M_1 a2) ∧ ([] : List mV).length ≤ 8 then (if h_k (h_cp M_1 u_2 0 a2 9 8) a0 = 7 then (if (a_rec (h_cp M_1 u_2 0 a2 9 8) 1 [.inr (h_r (h_cp M_1 u_2 0 a2 9 8) a0 1)] = true ∧ ([] : List mV).length ≤ 8) then (c_V (ev 1 0 [some (.inr (h_r (h_cp M_1 u_2 0 a2 9 8) a0 1))] [] (h_cp M_1 u_2 0 a2 9 8)) fun M_3 => ev 97 26 [some (.inr a0), some (.inr a1), some (.inr a2), some (.inr (h_r M a1 1)), some (.inl 1)] [] M_3) else none) else none) else none) else none) else none) else none) else none) else none := by
  refine (ev_ns c_97 1 (ip' := 1) (ls' := [some (.inr a0), some (.inr a1), some (.inr a2), none, none]) (st' := [.inr a1]) (M' := M) rfl).trans ?_
  refine (ev_g (h_k M a1 = 5) (ip' := 2) (ls' := [some (.inr a0), some (.inr a1), some (.inr a2), none, none]) (st' := [.inr (h_r M a1 1)]) (M' := M) c_97 rfl).trans (t_i ?_ rfl)
  refine (ev_ns c_97 4 (ip' := 6) (ls' := [some (.inr a0), some (.inr a1), some (.inr a2), some (.inr (h_r M a1 1)), none]) (st' := [.inl 1414482737, .inl 0, .inr a2]) (M' := M) rfl).trans ?_
  refine (ev_g (h_k M a2 = 9 ∧ h_in 0 (h_l M a2)) (ip' := 7) (ls' := [some (.inr a0), some (.inr a1), some (.inr a2), some (.inr (h_r M a1 1)), none]) (st' := []) (M' := h_si M a2 0 1414482737) c_97 rfl).trans (t_i ?_ rfl)
  refine (ev_ns c_97 1 (ip' := 8) (ls' := [some (.inr a0), some (.inr a1), some (.inr a2), some (.inr (h_r M a1 1)), none]) (st' := [.inr a1]) (M' := h_si M a2 0 1414482737) rfl).trans ?_
  refine (ev_g (h_k (h_si M a2 0 1414482737) a1 = 5) (ip' := 9) (ls' := [some (.inr a0), some (.inr a1), some (.inr a2), some (.inr (h_r M a1 1)), none]) (st' := [.inr (h_r (h_si M a2 0 1414482737) a1 3)]) (M' := h_si M a2 0 1414482737) c_97 rfl).trans (t_i ?_ rfl)
  refine (ev_ns c_97 4 (ip' := 13) (ls' := [some (.inr a0), some (.inr a1), some (.inr a2), some (.inr (h_r M a1 1)), none]) (st' := [.inl 8, .inl 1, .inr a2, .inl 0, .inr (h_r (h_si M a2 0 1414482737) a1 3)]) (M' := h_si M a2 0 1414482737) rfl).trans ?_
  refine (ev_g (((h_k (h_si M a2 0 1414482737) (h_r (h_si M a2 0 1414482737) a1 3) = 9 ∨ h_k (h_si M a2 0 1414482737) (h_r (h_si M a2 0 1414482737) a1 3) = 14) ∧ h_k (h_si M a2 0 1414482737) a2 = 9) ∧ (¬ (0 : Int32) < 0 ∧ ¬ (1 : Int32) < 0 ∧ ¬ (8 : Int32) < 0) ∧ (0 + 8 ≤ h_l (h_si M a2 0 1414482737) (h_r (h_si M a2 0 1414482737) a1 3) ∧ 1 + 8 ≤ h_l (h_si M a2 0 1414482737) a2) ∧ ([] : List mV).length ≤ 8) (ip' := 14) (ls' := [some (.inr a0), some (.inr a1), some (.inr a2), some (.inr (h_r M a1 1)), none]) (st' := []) (M' := h_cp (h_si M a2 0 1414482737) (h_r (h_si M a2 0 1414482737) a1 3) 0 a2 1 8) c_97 rfl).trans (t_i ?_ rfl)
  refine (ev_ns c_97 1 (ip' := 15) (ls' := [some (.inr a0), some (.inr a1), some (.inr a2), some (.inr (h_r M a1 1)), none]) (st' := [.inr (h_r M a1 1)]) (M' := h_cp (h_si M a2 0 1414482737) (h_r (h_si M a2 0 1414482737) a1 3) 0 a2 1 8) rfl).trans ?_
  refine (ev_gR (a_rec (h_cp (h_si M a2 0 1414482737) (h_r (h_si M a2 0 1414482737) a1 3) 0 a2 1 8) 4 [.inr (h_r M a1 1)] = true ∧ ([] : List mV).length ≤ 8) (as := [.inr (h_r M a1 1)]) (rr := []) c_97 c_22 rfl).trans (t_i (t_cR ?_) rfl)
  intro u_2 M_1
  refine (ev_ns c_97 4 (ip' := 20) (ls' := [some (.inr a0), some (.inr a1), some (.inr a2), some (.inr (h_r M a1 1)), none]) (st' := [.inl 8, .inl 9, .inr a2, .inl 0, .inr u_2]) (M' := M_1) rfl).trans ?_
  refine (ev_g (((h_k M_1 u_2 = 9 ∨ h_k M_1 u_2 = 14) ∧ h_k M_1 a2 = 9) ∧ (¬ (0 : Int32) < 0 ∧ ¬ (9 : Int32) < 0 ∧ ¬ (8 : Int32) < 0) ∧ (0 + 8 ≤ h_l M_1 u_2 ∧ 9 + 8 ≤ h_l M_1 a2) ∧ ([] : List mV).length ≤ 8) (ip' := 21) (ls' := [some (.inr a0), some (.inr a1), some (.inr a2), some (.inr (h_r M a1 1)), none]) (st' := []) (M' := h_cp M_1 u_2 0 a2 9 8) c_97 rfl).trans (t_i ?_ rfl)
  refine (ev_ns c_97 1 (ip' := 22) (ls' := [some (.inr a0), some (.inr a1), some (.inr a2), some (.inr (h_r M a1 1)), none]) (st' := [.inr a0]) (M' := h_cp M_1 u_2 0 a2 9 8) rfl).trans ?_
  refine (ev_g (h_k (h_cp M_1 u_2 0 a2 9 8) a0 = 7) (ip' := 23) (ls' := [some (.inr a0), some (.inr a1), some (.inr a2), some (.inr (h_r M a1 1)), none]) (st' := [.inr (h_r (h_cp M_1 u_2 0 a2 9 8) a0 1)]) (M' := h_cp M_1 u_2 0 a2 9 8) c_97 rfl).trans (t_i ?_ rfl)
  refine (ev_gV (a_rec (h_cp M_1 u_2 0 a2 9 8) 1 [.inr (h_r (h_cp M_1 u_2 0 a2 9 8) a0 1)] = true ∧ ([] : List mV).length ≤ 8) (as := [.inr (h_r (h_cp M_1 u_2 0 a2 9 8) a0 1)]) (rr := []) c_97 c_1 rfl).trans (t_i (t_cV ?_) rfl)
  intro M_3
  exact ev_ns c_97 2 (ip' := 26) (ls' := [some (.inr a0), some (.inr a1), some (.inr a2), some (.inr (h_r M a1 1)), some (.inl 1)]) (st' := []) (M' := M_3) rfl
set_option maxRecDepth 20000 in
theorem e_97_26 (a0 : Nat) (a1 : Nat) (a2 : Nat) (a3 : Nat) (i4 : Int32) (M : mM) : ev 97 26 [some (.inr a0), some (.inr a1), some (.inr a2), some (.inr a3), some (.inl i4)] [] M = if (5 : Int32) ≤ i4 then (if h_k M a0 = 7 then (if (a_rec M 1 [.inr (h_r M a0 1), .inr a2, .inl 17, .inl 8] = true ∧ ([] : List mV).length ≤ 8) then (c_V (ev 5 0 [some (.inr (h_r M a0 1)), some (.inr a2), some (.inl 17), some (.inl 8), none, none, none] [] M) fun M_1 => if h_k M_1 a0 = 7 then (if (a_rec M_1 1 [.inr (h_r M_1 a0 1)] = true ∧ ([] : List mV).length ≤ 8) then (c_V (ev 1 0 [some (.inr (h_r M_1 a0 1))] [] M_1) fun M_2 => if h_k M_2 a0 = 7 then (if (a_rec M_2 1 [.inr (h_r M_2 a0 1), .inr a2, .inl 25] = true ∧ ([] : List mV).length ≤ 8) then (c_V (ev 4 0 [some (.inr (h_r M_2 a0 1)), some (.inr a2), some (.inl 25), none] [] M_2) fun M_3 => if h_k M_3 a0 = 7 then (if (a_rec M_3 1 [.inr (h_r M_3 a0 1), .inr a2, .inl 25, .inl 7] = true ∧ ([] : List mV).length ≤ 8) then (c_V (ev 5 0 [some (.inr (h_r M_3 a0 1)), some (.inr a2), some (.inl 25), some (.inl 7), none, none, none] [] M_3) fun M_4 => some (none, M_4)) else none) else none) else none) else none) else none) else none) else none) else none) else (if h_k M a0 = 7 then (if h_k M a3 = 4 then (if (h_k M (h_r M a3 2) = 11 ∨ h_k M (h_r M a3 2) = 12 ∨ h_k M (h_r M a3 2) = 13) ∧ h_in i4 (h_l M (h_r M a3 2)) then (if (a_rec M 1 [.inr (h_r M a0 1), .inr (h_r M (h_r M a3 2) (i4).toNatClampNeg), .inl 8] = true ∧ ([] : List mV).length ≤ 8) then (c_V (ev 4 0 [some (.inr (h_r M a0 1)), some (.inr (h_r M (h_r M a3 2) (i4).toNatClampNeg)), some (.inl 8), none] [] M) fun M_5 => ev 97 26 [some (.inr a0), some (.inr a1), some (.inr a2), some (.inr a3), some (.inl (i4 + 1))] [] M_5) else none) else none) else none) else none) := by
  refine (ev_ns c_97 2 (ip' := 28) (ls' := [some (.inr a0), some (.inr a1), some (.inr a2), some (.inr a3), some (.inl i4)]) (st' := [.inl 5, .inl i4]) (M' := M) rfl).trans ?_
  refine (ev_i ((5 : Int32) ≤ i4) (i1 := 39) (l1 := [some (.inr a0), some (.inr a1), some (.inr a2), some (.inr a3), some (.inl i4)]) (s1 := []) (M1 := M) (i2 := 29) (l2 := [some (.inr a0), some (.inr a1), some (.inr a2), some (.inr a3), some (.inl i4)]) (s2 := []) (M2 := M) c_97 rfl).trans (t_i ?_ ?_)
  · skip
    refine (ev_ns c_97 1 (ip' := 40) (ls' := [some (.inr a0), some (.inr a1), some (.inr a2), some (.inr a3), some (.inl i4)]) (st' := [.inr a0]) (M' := M) rfl).trans ?_
    refine (ev_g (h_k M a0 = 7) (ip' := 41) (ls' := [some (.inr a0), some (.inr a1), some (.inr a2), some (.inr a3), some (.inl i4)]) (st' := [.inr (h_r M a0 1)]) (M' := M) c_97 rfl).trans (t_i ?_ rfl)
    refine (ev_ns c_97 3 (ip' := 44) (ls' := [some (.inr a0), some (.inr a1), some (.inr a2), some (.inr a3), some (.inl i4)]) (st' := [.inl 8, .inl 17, .inr a2, .inr (h_r M a0 1)]) (M' := M) rfl).trans ?_
    refine (ev_gV (a_rec M 1 [.inr (h_r M a0 1), .inr a2, .inl 17, .inl 8] = true ∧ ([] : List mV).length ≤ 8) (as := [.inr (h_r M a0 1), .inr a2, .inl 17, .inl 8]) (rr := []) c_97 c_5 rfl).trans (t_i (t_cV ?_) rfl)
    intro M_1
    refine (ev_ns c_97 1 (ip' := 46) (ls' := [some (.inr a0), some (.inr a1), some (.inr a2), some (.inr a3), some (.inl i4)]) (st' := [.inr a0]) (M' := M_1) rfl).trans ?_
    refine (ev_g (h_k M_1 a0 = 7) (ip' := 47) (ls' := [some (.inr a0), some (.inr a1), some (.inr a2), some (.inr a3), some (.inl i4)]) (st' := [.inr (h_r M_1 a0 1)]) (M' := M_1) c_97 rfl).trans (t_i ?_ rfl)
    refine (ev_gV (a_rec M_1 1 [.inr (h_r M_1 a0 1)] = true ∧ ([] : List mV).length ≤ 8) (as := [.inr (h_r M_1 a0 1)]) (rr := []) c_97 c_1 rfl).trans (t_i (t_cV ?_) rfl)
    intro M_2
    refine (ev_ns c_97 1 (ip' := 49) (ls' := [some (.inr a0), some (.inr a1), some (.inr a2), some (.inr a3), some (.inl i4)]) (st' := [.inr a0]) (M' := M_2) rfl).trans ?_
    refine (ev_g (h_k M_2 a0 = 7) (ip' := 50) (ls' := [some (.inr a0), some (.inr a1), some (.inr a2), some (.inr a3), some (.inl i4)]) (st' := [.inr (h_r M_2 a0 1)]) (M' := M_2) c_97 rfl).trans (t_i ?_ rfl)
    refine (ev_ns c_97 2 (ip' := 52) (ls' := [some (.inr a0), some (.inr a1), some (.inr a2), some (.inr a3), some (.inl i4)]) (st' := [.inl 25, .inr a2, .inr (h_r M_2 a0 1)]) (M' := M_2) rfl).trans ?_
    refine (ev_gV (a_rec M_2 1 [.inr (h_r M_2 a0 1), .inr a2, .inl 25] = true ∧ ([] : List mV).length ≤ 8) (as := [.inr (h_r M_2 a0 1), .inr a2, .inl 25]) (rr := []) c_97 c_4 rfl).trans (t_i (t_cV ?_) rfl)
    intro M_3
    refine (ev_ns c_97 1 (ip' := 54) (ls' := [some (.inr a0), some (.inr a1), some (.inr a2), some (.inr a3), some (.inl i4)]) (st' := [.inr a0]) (M' := M_3) rfl).trans ?_
    refine (ev_g (h_k M_3 a0 = 7) (ip' := 55) (ls' := [some (.inr a0), some (.inr a1), some (.inr a2), some (.inr a3), some (.inl i4)]) (st' := [.inr (h_r M_3 a0 1)]) (M' := M_3) c_97 rfl).trans (t_i ?_ rfl)
    refine (ev_ns c_97 3 (ip' := 58) (ls' := [some (.inr a0), some (.inr a1), some (.inr a2), some (.inr a3), some (.inl i4)]) (st' := [.inl 7, .inl 25, .inr a2, .inr (h_r M_3 a0 1)]) (M' := M_3) rfl).trans ?_
    refine (ev_gV (a_rec M_3 1 [.inr (h_r M_3 a0 1), .inr a2, .inl 25, .inl 7] = true ∧ ([] : List mV).length ≤ 8) (as := [.inr (h_r M_3 a0 1), .inr a2, .inl 25, .inl 7]) (rr := []) c_97 c_5 rfl).trans (t_i (t_cV ?_) rfl)
    intro M_4
    exact ev_d c_97 rfl
  · skip
    refine (ev_ns c_97 1 (ip' := 30) (ls' := [some (.inr a0), some (.inr a1), some (.inr a2), some (.inr a3), some (.inl i4)]) (st' := [.inr a0]) (M' := M) rfl).trans ?_
    refine (ev_g (h_k M a0 = 7) (ip' := 31) (ls' := [some (.inr a0), some (.inr a1), some (.inr a2), some (.inr a3), some (.inl i4)]) (st' := [.inr (h_r M a0 1)]) (M' := M) c_97 rfl).trans (t_i ?_ rfl)
    refine (ev_ns c_97 1 (ip' := 32) (ls' := [some (.inr a0), some (.inr a1), some (.inr a2), some (.inr a3), some (.inl i4)]) (st' := [.inr a3, .inr (h_r M a0 1)]) (M' := M) rfl).trans ?_
    refine (ev_g (h_k M a3 = 4) (ip' := 33) (ls' := [some (.inr a0), some (.inr a1), some (.inr a2), some (.inr a3), some (.inl i4)]) (st' := [.inr (h_r M a3 2), .inr (h_r M a0 1)]) (M' := M) c_97 rfl).trans (t_i ?_ rfl)
    refine (ev_ns c_97 1 (ip' := 34) (ls' := [some (.inr a0), some (.inr a1), some (.inr a2), some (.inr a3), some (.inl i4)]) (st' := [.inl i4, .inr (h_r M a3 2), .inr (h_r M a0 1)]) (M' := M) rfl).trans ?_
    refine (ev_g ((h_k M (h_r M a3 2) = 11 ∨ h_k M (h_r M a3 2) = 12 ∨ h_k M (h_r M a3 2) = 13) ∧ h_in i4 (h_l M (h_r M a3 2))) (ip' := 35) (ls' := [some (.inr a0), some (.inr a1), some (.inr a2), some (.inr a3), some (.inl i4)]) (st' := [.inr (h_r M (h_r M a3 2) (i4).toNatClampNeg), .inr (h_r M a0 1)]) (M' := M) c_97 rfl).trans (t_i ?_ rfl)
    refine (ev_ns c_97 1 (ip' := 36) (ls' := [some (.inr a0), some (.inr a1), some (.inr a2), some (.inr a3), some (.inl i4)]) (st' := [.inl 8, .inr (h_r M (h_r M a3 2) (i4).toNatClampNeg), .inr (h_r M a0 1)]) (M' := M) rfl).trans ?_
    refine (ev_gV (a_rec M 1 [.inr (h_r M a0 1), .inr (h_r M (h_r M a3 2) (i4).toNatClampNeg), .inl 8] = true ∧ ([] : List mV).length ≤ 8) (as := [.inr (h_r M a0 1), .inr (h_r M (h_r M a3 2) (i4).toNatClampNeg), .inl 8]) (rr := []) c_97 c_4 rfl).trans (t_i (t_cV ?_) rfl)
    intro M_5
    exact ev_ns c_97 2 (ip' := 26) (ls' := [some (.inr a0), some (.inr a1), some (.inr a2), some (.inr a3), some (.inl (i4 + 1))]) (st' := []) (M' := M_5) rfl
/- 98: GranuleHall.ofState(I)I -/
set_option maxRecDepth 20000 in
theorem e_98_0 (a0 : Nat) (i1 : Int32) (M : mM) : ev 98 0 [some (.inr a0), some (.inl i1), none, none, none, none, none] [] M = if h_k M a0 = 7 then (if 9 ≤ h_k M (h_r M a0 0) ∧ h_k M (h_r M a0 0) ≤ 13 then (ev 98 10 [some (.inr a0), some (.inl i1), some (.inl 0), some (.inr (h_r M a0 0)), some (.inl (Int32.ofNat (h_l M (h_r M a0 0)))), some (.inl 0), none] [] M) else none) else none := by
  refine (ev_ns c_98 3 (ip' := 3) (ls' := [some (.inr a0), some (.inl i1), some (.inl 0), none, none, none, none]) (st' := [.inr a0]) (M' := M) rfl).trans ?_
  refine (ev_g (h_k M a0 = 7) (ip' := 4) (ls' := [some (.inr a0), some (.inl i1), some (.inl 0), none, none, none, none]) (st' := [.inr (h_r M a0 0)]) (M' := M) c_98 rfl).trans (t_i ?_ rfl)
  refine (ev_ns c_98 2 (ip' := 6) (ls' := [some (.inr a0), some (.inl i1), some (.inl 0), some (.inr (h_r M a0 0)), none, none, none]) (st' := [.inr (h_r M a0 0)]) (M' := M) rfl).trans ?_
  refine (ev_g (9 ≤ h_k M (h_r M a0 0) ∧ h_k M (h_r M a0 0) ≤ 13) (ip' := 7) (ls' := [some (.inr a0), some (.inl i1), some (.inl 0), some (.inr (h_r M a0 0)), none, none, none]) (st' := [.inl (Int32.ofNat (h_l M (h_r M a0 0)))]) (M' := M) c_98 rfl).trans (t_i ?_ rfl)
  exact ev_ns c_98 3 (ip' := 10) (ls' := [some (.inr a0), some (.inl i1), some (.inl 0), some (.inr (h_r M a0 0)), some (.inl (Int32.ofNat (h_l M (h_r M a0 0)))), some (.inl 0), none]) (st' := []) (M' := M) rfl
set_option maxRecDepth 20000 in
theorem e_98_10 (a0 : Nat) (i1 : Int32) (i2 : Int32) (a3 : Nat) (i4 : Int32) (i5 : Int32) (o6 : Option mV) (M : mM) : ev 98 10 [some (.inr a0), some (.inl i1), some (.inl i2), some (.inr a3), some (.inl i4), some (.inl i5), o6] [] M = if i4 ≤ i5 then (some (some (.inl i2), M)) else (if (h_k M a3 = 11 ∨ h_k M a3 = 12 ∨ h_k M a3 = 13) ∧ h_in i5 (h_l M a3) then (if h_k M (h_r M a3 (i5).toNatClampNeg) = 3 then (if (h_i M (h_r M a3 (i5).toNatClampNeg) 2) = i1 then (ev 98 25 [some (.inr a0), some (.inl i1), some (.inl i2), some (.inr a3), some (.inl i4), some (.inl i5), some (.inr (h_r M a3 (i5).toNatClampNeg))] [.inl 1, .inl i2] M) else (ev 98 25 [some (.inr a0), some (.inl i1), some (.inl i2), some (.inr a3), some (.inl i4), some (.inl i5), some (.inr (h_r M a3 (i5).toNatClampNeg))] [.inl 0, .inl i2] M)) else none) else none) := by
  refine (ev_ns c_98 2 (ip' := 12) (ls' := [some (.inr a0), some (.inl i1), some (.inl i2), some (.inr a3), some (.inl i4), some (.inl i5), o6]) (st' := [.inl i4, .inl i5]) (M' := M) rfl).trans ?_
  refine (ev_i (i4 ≤ i5) (i1 := 30) (l1 := [some (.inr a0), some (.inl i1), some (.inl i2), some (.inr a3), some (.inl i4), some (.inl i5), o6]) (s1 := []) (M1 := M) (i2 := 13) (l2 := [some (.inr a0), some (.inl i1), some (.inl i2), some (.inr a3), some (.inl i4), some (.inl i5), o6]) (s2 := []) (M2 := M) c_98 rfl).trans (t_i ?_ ?_)
  · skip
    refine (ev_ns c_98 1 (ip' := 31) (ls' := [some (.inr a0), some (.inl i1), some (.inl i2), some (.inr a3), some (.inl i4), some (.inl i5), o6]) (st' := [.inl i2]) (M' := M) rfl).trans ?_
    exact ev_d c_98 rfl
  · skip
    refine (ev_ns c_98 2 (ip' := 15) (ls' := [some (.inr a0), some (.inl i1), some (.inl i2), some (.inr a3), some (.inl i4), some (.inl i5), o6]) (st' := [.inl i5, .inr a3]) (M' := M) rfl).trans ?_
    refine (ev_g ((h_k M a3 = 11 ∨ h_k M a3 = 12 ∨ h_k M a3 = 13) ∧ h_in i5 (h_l M a3)) (ip' := 16) (ls' := [some (.inr a0), some (.inl i1), some (.inl i2), some (.inr a3), some (.inl i4), some (.inl i5), o6]) (st' := [.inr (h_r M a3 (i5).toNatClampNeg)]) (M' := M) c_98 rfl).trans (t_i ?_ rfl)
    refine (ev_ns c_98 3 (ip' := 19) (ls' := [some (.inr a0), some (.inl i1), some (.inl i2), some (.inr a3), some (.inl i4), some (.inl i5), some (.inr (h_r M a3 (i5).toNatClampNeg))]) (st' := [.inr (h_r M a3 (i5).toNatClampNeg), .inl i2]) (M' := M) rfl).trans ?_
    refine (ev_g (h_k M (h_r M a3 (i5).toNatClampNeg) = 3) (ip' := 20) (ls' := [some (.inr a0), some (.inl i1), some (.inl i2), some (.inr a3), some (.inl i4), some (.inl i5), some (.inr (h_r M a3 (i5).toNatClampNeg))]) (st' := [.inl (h_i M (h_r M a3 (i5).toNatClampNeg) 2), .inl i2]) (M' := M) c_98 rfl).trans (t_i ?_ rfl)
    refine (ev_ns c_98 1 (ip' := 21) (ls' := [some (.inr a0), some (.inl i1), some (.inl i2), some (.inr a3), some (.inl i4), some (.inl i5), some (.inr (h_r M a3 (i5).toNatClampNeg))]) (st' := [.inl i1, .inl (h_i M (h_r M a3 (i5).toNatClampNeg) 2), .inl i2]) (M' := M) rfl).trans ?_
    refine (ev_i ((h_i M (h_r M a3 (i5).toNatClampNeg) 2) = i1) (i1 := 22) (l1 := [some (.inr a0), some (.inl i1), some (.inl i2), some (.inr a3), some (.inl i4), some (.inl i5), some (.inr (h_r M a3 (i5).toNatClampNeg))]) (s1 := [.inl i2]) (M1 := M) (i2 := 24) (l2 := [some (.inr a0), some (.inl i1), some (.inl i2), some (.inr a3), some (.inl i4), some (.inl i5), some (.inr (h_r M a3 (i5).toNatClampNeg))]) (s2 := [.inl i2]) (M2 := M) c_98 rfl).trans (t_i ?_ ?_)
    · skip
      exact ev_ns c_98 2 (ip' := 25) (ls' := [some (.inr a0), some (.inl i1), some (.inl i2), some (.inr a3), some (.inl i4), some (.inl i5), some (.inr (h_r M a3 (i5).toNatClampNeg))]) (st' := [.inl 1, .inl i2]) (M' := M) rfl
    · skip
      exact ev_ns c_98 1 (ip' := 25) (ls' := [some (.inr a0), some (.inl i1), some (.inl i2), some (.inr a3), some (.inl i4), some (.inl i5), some (.inr (h_r M a3 (i5).toNatClampNeg))]) (st' := [.inl 0, .inl i2]) (M' := M) rfl
set_option maxRecDepth 20000 in
theorem e_98_25 (a0 : Nat) (i1 : Int32) (i2 : Int32) (a3 : Nat) (i4 : Int32) (i5 : Int32) (a6 : Nat) (s0 : Int32) (s1 : Int32) (M : mM) : ev 98 25 [some (.inr a0), some (.inl i1), some (.inl i2), some (.inr a3), some (.inl i4), some (.inl i5), some (.inr a6)] [.inl s1, .inl s0] M = if (a_rec M 0 [.inl s1] = true ∧ ([.inl s0] : List mV).length ≤ 8) then (c_I (ev 89 0 [some (.inl s1)] [] M) fun v_2 M_1 => ev 98 10 [some (.inr a0), some (.inl i1), some (.inl (s0 + v_2)), some (.inr a3), some (.inl i4), some (.inl (i5 + 1)), some (.inr a6)] [] M_1) else none := by
  refine (ev_gI (a_rec M 0 [.inl s1] = true ∧ ([.inl s0] : List mV).length ≤ 8) (as := [.inl s1]) (rr := [.inl s0]) c_98 c_89 rfl).trans (t_i (t_cI ?_) rfl)
  intro v_2 M_1
  exact ev_ns c_98 4 (ip' := 10) (ls' := [some (.inr a0), some (.inl i1), some (.inl (s0 + v_2)), some (.inr a3), some (.inl i4), some (.inl (i5 + 1)), some (.inr a6)]) (st' := []) (M' := M_1) rfl
/- 99: GranuleHall.ofRealm(LGranuleHall$Realm;I)I -/
set_option maxRecDepth 20000 in
theorem e_99_0 (a0 : Nat) (a1 : Nat) (i2 : Int32) (M : mM) : ev 99 0 [some (.inr a0), some (.inr a1), some (.inl i2), none, none, none, none, none] [] M = if h_k M a0 = 7 then (if 9 ≤ h_k M (h_r M a0 0) ∧ h_k M (h_r M a0 0) ≤ 13 then (ev 99 10 [some (.inr a0), some (.inr a1), some (.inl i2), some (.inl 0), some (.inr (h_r M a0 0)), some (.inl (Int32.ofNat (h_l M (h_r M a0 0)))), some (.inl 0), none] [] M) else none) else none := by
  refine (ev_ns c_99 3 (ip' := 3) (ls' := [some (.inr a0), some (.inr a1), some (.inl i2), some (.inl 0), none, none, none, none]) (st' := [.inr a0]) (M' := M) rfl).trans ?_
  refine (ev_g (h_k M a0 = 7) (ip' := 4) (ls' := [some (.inr a0), some (.inr a1), some (.inl i2), some (.inl 0), none, none, none, none]) (st' := [.inr (h_r M a0 0)]) (M' := M) c_99 rfl).trans (t_i ?_ rfl)
  refine (ev_ns c_99 2 (ip' := 6) (ls' := [some (.inr a0), some (.inr a1), some (.inl i2), some (.inl 0), some (.inr (h_r M a0 0)), none, none, none]) (st' := [.inr (h_r M a0 0)]) (M' := M) rfl).trans ?_
  refine (ev_g (9 ≤ h_k M (h_r M a0 0) ∧ h_k M (h_r M a0 0) ≤ 13) (ip' := 7) (ls' := [some (.inr a0), some (.inr a1), some (.inl i2), some (.inl 0), some (.inr (h_r M a0 0)), none, none, none]) (st' := [.inl (Int32.ofNat (h_l M (h_r M a0 0)))]) (M' := M) c_99 rfl).trans (t_i ?_ rfl)
  exact ev_ns c_99 3 (ip' := 10) (ls' := [some (.inr a0), some (.inr a1), some (.inl i2), some (.inl 0), some (.inr (h_r M a0 0)), some (.inl (Int32.ofNat (h_l M (h_r M a0 0)))), some (.inl 0), none]) (st' := []) (M' := M) rfl
set_option maxRecDepth 20000 in
theorem e_99_10 (a0 : Nat) (a1 : Nat) (i2 : Int32) (i3 : Int32) (a4 : Nat) (i5 : Int32) (i6 : Int32) (o7 : Option mV) (M : mM) : ev 99 10 [some (.inr a0), some (.inr a1), some (.inl i2), some (.inl i3), some (.inr a4), some (.inl i5), some (.inl i6), o7] [] M = if i5 ≤ i6 then (some (some (.inl i3), M)) else (if (h_k M a4 = 11 ∨ h_k M a4 = 12 ∨ h_k M a4 = 13) ∧ h_in i6 (h_l M a4) then (if h_k M (h_r M a4 (i6).toNatClampNeg) = 3 then (if (h_i M (h_r M a4 (i6).toNatClampNeg) 2) = i2 then (if h_k M (h_r M a4 (i6).toNatClampNeg) = 3 then (if ¬ h_k M (h_r M (h_r M a4 (i6).toNatClampNeg) 3) = 14 ∧ ¬ h_k M a1 = 14 then (if (h_r M (h_r M a4 (i6).toNatClampNeg) 3) = a1 then (ev 99 29 [some (.inr a0), some (.inr a1), some (.inl i2), some (.inl i3), some (.inr a4), some (.inl i5), some (.inl i6), some (.inr (h_r M a4 (i6).toNatClampNeg))] [.inl 1, .inl i3] M) else (ev 99 28 [some (.inr a0), some (.inr a1), some (.inl i2), some (.inl i3), some (.inr a4), some (.inl i5), some (.inl i6), some (.inr (h_r M a4 (i6).toNatClampNeg))] [.inl i3] M)) else none) else none) else (ev 99 28 [some (.inr a0), some (.inr a1), some (.inl i2), some (.inl i3), some (.inr a4), some (.inl i5), some (.inl i6), some (.inr (h_r M a4 (i6).toNatClampNeg))] [.inl i3] M)) else none) else none) := by
  refine (ev_ns c_99 2 (ip' := 12) (ls' := [some (.inr a0), some (.inr a1), some (.inl i2), some (.inl i3), some (.inr a4), some (.inl i5), some (.inl i6), o7]) (st' := [.inl i5, .inl i6]) (M' := M) rfl).trans ?_
  refine (ev_i (i5 ≤ i6) (i1 := 34) (l1 := [some (.inr a0), some (.inr a1), some (.inl i2), some (.inl i3), some (.inr a4), some (.inl i5), some (.inl i6), o7]) (s1 := []) (M1 := M) (i2 := 13) (l2 := [some (.inr a0), some (.inr a1), some (.inl i2), some (.inl i3), some (.inr a4), some (.inl i5), some (.inl i6), o7]) (s2 := []) (M2 := M) c_99 rfl).trans (t_i ?_ ?_)
  · skip
    refine (ev_ns c_99 1 (ip' := 35) (ls' := [some (.inr a0), some (.inr a1), some (.inl i2), some (.inl i3), some (.inr a4), some (.inl i5), some (.inl i6), o7]) (st' := [.inl i3]) (M' := M) rfl).trans ?_
    exact ev_d c_99 rfl
  · skip
    refine (ev_ns c_99 2 (ip' := 15) (ls' := [some (.inr a0), some (.inr a1), some (.inl i2), some (.inl i3), some (.inr a4), some (.inl i5), some (.inl i6), o7]) (st' := [.inl i6, .inr a4]) (M' := M) rfl).trans ?_
    refine (ev_g ((h_k M a4 = 11 ∨ h_k M a4 = 12 ∨ h_k M a4 = 13) ∧ h_in i6 (h_l M a4)) (ip' := 16) (ls' := [some (.inr a0), some (.inr a1), some (.inl i2), some (.inl i3), some (.inr a4), some (.inl i5), some (.inl i6), o7]) (st' := [.inr (h_r M a4 (i6).toNatClampNeg)]) (M' := M) c_99 rfl).trans (t_i ?_ rfl)
    refine (ev_ns c_99 3 (ip' := 19) (ls' := [some (.inr a0), some (.inr a1), some (.inl i2), some (.inl i3), some (.inr a4), some (.inl i5), some (.inl i6), some (.inr (h_r M a4 (i6).toNatClampNeg))]) (st' := [.inr (h_r M a4 (i6).toNatClampNeg), .inl i3]) (M' := M) rfl).trans ?_
    refine (ev_g (h_k M (h_r M a4 (i6).toNatClampNeg) = 3) (ip' := 20) (ls' := [some (.inr a0), some (.inr a1), some (.inl i2), some (.inl i3), some (.inr a4), some (.inl i5), some (.inl i6), some (.inr (h_r M a4 (i6).toNatClampNeg))]) (st' := [.inl (h_i M (h_r M a4 (i6).toNatClampNeg) 2), .inl i3]) (M' := M) c_99 rfl).trans (t_i ?_ rfl)
    refine (ev_ns c_99 1 (ip' := 21) (ls' := [some (.inr a0), some (.inr a1), some (.inl i2), some (.inl i3), some (.inr a4), some (.inl i5), some (.inl i6), some (.inr (h_r M a4 (i6).toNatClampNeg))]) (st' := [.inl i2, .inl (h_i M (h_r M a4 (i6).toNatClampNeg) 2), .inl i3]) (M' := M) rfl).trans ?_
    refine (ev_i ((h_i M (h_r M a4 (i6).toNatClampNeg) 2) = i2) (i1 := 22) (l1 := [some (.inr a0), some (.inr a1), some (.inl i2), some (.inl i3), some (.inr a4), some (.inl i5), some (.inl i6), some (.inr (h_r M a4 (i6).toNatClampNeg))]) (s1 := [.inl i3]) (M1 := M) (i2 := 28) (l2 := [some (.inr a0), some (.inr a1), some (.inl i2), some (.inl i3), some (.inr a4), some (.inl i5), some (.inl i6), some (.inr (h_r M a4 (i6).toNatClampNeg))]) (s2 := [.inl i3]) (M2 := M) c_99 rfl).trans (t_i ?_ ?_)
    · skip
      refine (ev_ns c_99 1 (ip' := 23) (ls' := [some (.inr a0), some (.inr a1), some (.inl i2), some (.inl i3), some (.inr a4), some (.inl i5), some (.inl i6), some (.inr (h_r M a4 (i6).toNatClampNeg))]) (st' := [.inr (h_r M a4 (i6).toNatClampNeg), .inl i3]) (M' := M) rfl).trans ?_
      refine (ev_g (h_k M (h_r M a4 (i6).toNatClampNeg) = 3) (ip' := 24) (ls' := [some (.inr a0), some (.inr a1), some (.inl i2), some (.inl i3), some (.inr a4), some (.inl i5), some (.inl i6), some (.inr (h_r M a4 (i6).toNatClampNeg))]) (st' := [.inr (h_r M (h_r M a4 (i6).toNatClampNeg) 3), .inl i3]) (M' := M) c_99 rfl).trans (t_i ?_ rfl)
      refine (ev_ns c_99 1 (ip' := 25) (ls' := [some (.inr a0), some (.inr a1), some (.inl i2), some (.inl i3), some (.inr a4), some (.inl i5), some (.inl i6), some (.inr (h_r M a4 (i6).toNatClampNeg))]) (st' := [.inr a1, .inr (h_r M (h_r M a4 (i6).toNatClampNeg) 3), .inl i3]) (M' := M) rfl).trans ?_
      refine (ev_gi (¬ h_k M (h_r M (h_r M a4 (i6).toNatClampNeg) 3) = 14 ∧ ¬ h_k M a1 = 14) ((h_r M (h_r M a4 (i6).toNatClampNeg) 3) = a1) (i1 := 26) (l1 := [some (.inr a0), some (.inr a1), some (.inl i2), some (.inl i3), some (.inr a4), some (.inl i5), some (.inl i6), some (.inr (h_r M a4 (i6).toNatClampNeg))]) (s1 := [.inl i3]) (M1 := M) (i2 := 28) (l2 := [some (.inr a0), some (.inr a1), some (.inl i2), some (.inl i3), some (.inr a4), some (.inl i5), some (.inl i6), some (.inr (h_r M a4 (i6).toNatClampNeg))]) (s2 := [.inl i3]) (M2 := M) c_99 rfl).trans (t_i (t_i ?_ ?_) rfl)
      · skip
        exact ev_ns c_99 2 (ip' := 29) (ls' := [some (.inr a0), some (.inr a1), some (.inl i2), some (.inl i3), some (.inr a4), some (.inl i5), some (.inl i6), some (.inr (h_r M a4 (i6).toNatClampNeg))]) (st' := [.inl 1, .inl i3]) (M' := M) rfl
      · skip
        exact rfl
    · skip
      exact rfl
set_option maxRecDepth 20000 in
theorem e_99_28 (a0 : Nat) (a1 : Nat) (i2 : Int32) (i3 : Int32) (a4 : Nat) (i5 : Int32) (i6 : Int32) (a7 : Nat) (s0 : Int32) (M : mM) : ev 99 28 [some (.inr a0), some (.inr a1), some (.inl i2), some (.inl i3), some (.inr a4), some (.inl i5), some (.inl i6), some (.inr a7)] [.inl s0] M = ev 99 29 [some (.inr a0), some (.inr a1), some (.inl i2), some (.inl i3), some (.inr a4), some (.inl i5), some (.inl i6), some (.inr a7)] [.inl 0, .inl s0] M := by
  exact ev_ns c_99 1 (ip' := 29) (ls' := [some (.inr a0), some (.inr a1), some (.inl i2), some (.inl i3), some (.inr a4), some (.inl i5), some (.inl i6), some (.inr a7)]) (st' := [.inl 0, .inl s0]) (M' := M) rfl
set_option maxRecDepth 20000 in
theorem e_99_29 (a0 : Nat) (a1 : Nat) (i2 : Int32) (i3 : Int32) (a4 : Nat) (i5 : Int32) (i6 : Int32) (a7 : Nat) (s0 : Int32) (s1 : Int32) (M : mM) : ev 99 29 [some (.inr a0), some (.inr a1), some (.inl i2), some (.inl i3), some (.inr a4), some (.inl i5), some (.inl i6), some (.inr a7)] [.inl s1, .inl s0] M = if (a_rec M 0 [.inl s1] = true ∧ ([.inl s0] : List mV).length ≤ 8) then (c_I (ev 89 0 [some (.inl s1)] [] M) fun v_2 M_1 => ev 99 10 [some (.inr a0), some (.inr a1), some (.inl i2), some (.inl (s0 + v_2)), some (.inr a4), some (.inl i5), some (.inl (i6 + 1)), some (.inr a7)] [] M_1) else none := by
  refine (ev_gI (a_rec M 0 [.inl s1] = true ∧ ([.inl s0] : List mV).length ≤ 8) (as := [.inl s1]) (rr := [.inl s0]) c_99 c_89 rfl).trans (t_i (t_cI ?_) rfl)
  intro v_2 M_1
  exact ev_ns c_99 4 (ip' := 10) (ls' := [some (.inr a0), some (.inr a1), some (.inl i2), some (.inl (s0 + v_2)), some (.inr a4), some (.inl i5), some (.inl (i6 + 1)), some (.inr a7)]) (st' := []) (M' := M_1) rfl
/- 100: GranuleHall.ramPages(LGranuleHall$Realm;)I -/
set_option maxRecDepth 20000 in
theorem e_100_0 (a0 : Nat) (a1 : Nat) (M : mM) : ev 100 0 [some (.inr a0), some (.inr a1), none, none, none, none, none] [] M = if h_k M a0 = 7 then (if 9 ≤ h_k M (h_r M a0 0) ∧ h_k M (h_r M a0 0) ≤ 13 then (ev 100 10 [some (.inr a0), some (.inr a1), some (.inl 0), some (.inr (h_r M a0 0)), some (.inl (Int32.ofNat (h_l M (h_r M a0 0)))), some (.inl 0), none] [] M) else none) else none := by
  refine (ev_ns c_100 3 (ip' := 3) (ls' := [some (.inr a0), some (.inr a1), some (.inl 0), none, none, none, none]) (st' := [.inr a0]) (M' := M) rfl).trans ?_
  refine (ev_g (h_k M a0 = 7) (ip' := 4) (ls' := [some (.inr a0), some (.inr a1), some (.inl 0), none, none, none, none]) (st' := [.inr (h_r M a0 0)]) (M' := M) c_100 rfl).trans (t_i ?_ rfl)
  refine (ev_ns c_100 2 (ip' := 6) (ls' := [some (.inr a0), some (.inr a1), some (.inl 0), some (.inr (h_r M a0 0)), none, none, none]) (st' := [.inr (h_r M a0 0)]) (M' := M) rfl).trans ?_
  refine (ev_g (9 ≤ h_k M (h_r M a0 0) ∧ h_k M (h_r M a0 0) ≤ 13) (ip' := 7) (ls' := [some (.inr a0), some (.inr a1), some (.inl 0), some (.inr (h_r M a0 0)), none, none, none]) (st' := [.inl (Int32.ofNat (h_l M (h_r M a0 0)))]) (M' := M) c_100 rfl).trans (t_i ?_ rfl)
  exact ev_ns c_100 3 (ip' := 10) (ls' := [some (.inr a0), some (.inr a1), some (.inl 0), some (.inr (h_r M a0 0)), some (.inl (Int32.ofNat (h_l M (h_r M a0 0)))), some (.inl 0), none]) (st' := []) (M' := M) rfl
set_option maxRecDepth 20000 in
theorem e_100_10 (a0 : Nat) (a1 : Nat) (i2 : Int32) (a3 : Nat) (i4 : Int32) (i5 : Int32) (o6 : Option mV) (M : mM) : ev 100 10 [some (.inr a0), some (.inr a1), some (.inl i2), some (.inr a3), some (.inl i4), some (.inl i5), o6] [] M = if i4 ≤ i5 then (some (some (.inl i2), M)) else (if (h_k M a3 = 11 ∨ h_k M a3 = 12 ∨ h_k M a3 = 13) ∧ h_in i5 (h_l M a3) then (if h_k M (h_r M a3 (i5).toNatClampNeg) = 3 then (if (h_r M (h_r M a3 (i5).toNatClampNeg) 6) = 0 then (ev 100 30 [some (.inr a0), some (.inr a1), some (.inl i2), some (.inr a3), some (.inl i4), some (.inl i5), some (.inr (h_r M a3 (i5).toNatClampNeg))] [] M) else (if h_k M (h_r M a3 (i5).toNatClampNeg) = 3 then (if ¬ h_k M (h_r M (h_r M a3 (i5).toNatClampNeg) 3) = 14 ∧ ¬ h_k M a1 = 14 then (if (h_r M (h_r M a3 (i5).toNatClampNeg) 3) = a1 then (if h_k M (h_r M a3 (i5).toNatClampNeg) = 3 then (if (a_rec M 6 [.inr (h_r M (h_r M a3 (i5).toNatClampNeg) 6)] = true ∧ ([.inl i2] : List mV).length ≤ 8) then (c_I (ev 31 0 [some (.inr (h_r M (h_r M a3 (i5).toNatClampNeg) 6)), none, none, none, none, none] [] M) fun v_2 M_1 => ev 100 30 [some (.inr a0), some (.inr a1), some (.inl (i2 + v_2)), some (.inr a3), some (.inl i4), some (.inl i5), some (.inr (h_r M a3 (i5).toNatClampNeg))] [] M_1) else none) else none) else (ev 100 30 [some (.inr a0), some (.inr a1), some (.inl i2), some (.inr a3), some (.inl i4), some (.inl i5), some (.inr (h_r M a3 (i5).toNatClampNeg))] [] M)) else none) else none)) else none) else none) := by
  refine (ev_ns c_100 2 (ip' := 12) (ls' := [some (.inr a0), some (.inr a1), some (.inl i2), some (.inr a3), some (.inl i4), some (.inl i5), o6]) (st' := [.inl i4, .inl i5]) (M' := M) rfl).trans ?_
  refine (ev_i (i4 ≤ i5) (i1 := 32) (l1 := [some (.inr a0), some (.inr a1), some (.inl i2), some (.inr a3), some (.inl i4), some (.inl i5), o6]) (s1 := []) (M1 := M) (i2 := 13) (l2 := [some (.inr a0), some (.inr a1), some (.inl i2), some (.inr a3), some (.inl i4), some (.inl i5), o6]) (s2 := []) (M2 := M) c_100 rfl).trans (t_i ?_ ?_)
  · skip
    refine (ev_ns c_100 1 (ip' := 33) (ls' := [some (.inr a0), some (.inr a1), some (.inl i2), some (.inr a3), some (.inl i4), some (.inl i5), o6]) (st' := [.inl i2]) (M' := M) rfl).trans ?_
    exact ev_d c_100 rfl
  · skip
    refine (ev_ns c_100 2 (ip' := 15) (ls' := [some (.inr a0), some (.inr a1), some (.inl i2), some (.inr a3), some (.inl i4), some (.inl i5), o6]) (st' := [.inl i5, .inr a3]) (M' := M) rfl).trans ?_
    refine (ev_g ((h_k M a3 = 11 ∨ h_k M a3 = 12 ∨ h_k M a3 = 13) ∧ h_in i5 (h_l M a3)) (ip' := 16) (ls' := [some (.inr a0), some (.inr a1), some (.inl i2), some (.inr a3), some (.inl i4), some (.inl i5), o6]) (st' := [.inr (h_r M a3 (i5).toNatClampNeg)]) (M' := M) c_100 rfl).trans (t_i ?_ rfl)
    refine (ev_ns c_100 2 (ip' := 18) (ls' := [some (.inr a0), some (.inr a1), some (.inl i2), some (.inr a3), some (.inl i4), some (.inl i5), some (.inr (h_r M a3 (i5).toNatClampNeg))]) (st' := [.inr (h_r M a3 (i5).toNatClampNeg)]) (M' := M) rfl).trans ?_
    refine (ev_g (h_k M (h_r M a3 (i5).toNatClampNeg) = 3) (ip' := 19) (ls' := [some (.inr a0), some (.inr a1), some (.inl i2), some (.inr a3), some (.inl i4), some (.inl i5), some (.inr (h_r M a3 (i5).toNatClampNeg))]) (st' := [.inr (h_r M (h_r M a3 (i5).toNatClampNeg) 6)]) (M' := M) c_100 rfl).trans (t_i ?_ rfl)
    refine (ev_i ((h_r M (h_r M a3 (i5).toNatClampNeg) 6) = 0) (i1 := 30) (l1 := [some (.inr a0), some (.inr a1), some (.inl i2), some (.inr a3), some (.inl i4), some (.inl i5), some (.inr (h_r M a3 (i5).toNatClampNeg))]) (s1 := []) (M1 := M) (i2 := 20) (l2 := [some (.inr a0), some (.inr a1), some (.inl i2), some (.inr a3), some (.inl i4), some (.inl i5), some (.inr (h_r M a3 (i5).toNatClampNeg))]) (s2 := []) (M2 := M) c_100 rfl).trans (t_i ?_ ?_)
    · skip
      exact rfl
    · skip
      refine (ev_ns c_100 1 (ip' := 21) (ls' := [some (.inr a0), some (.inr a1), some (.inl i2), some (.inr a3), some (.inl i4), some (.inl i5), some (.inr (h_r M a3 (i5).toNatClampNeg))]) (st' := [.inr (h_r M a3 (i5).toNatClampNeg)]) (M' := M) rfl).trans ?_
      refine (ev_g (h_k M (h_r M a3 (i5).toNatClampNeg) = 3) (ip' := 22) (ls' := [some (.inr a0), some (.inr a1), some (.inl i2), some (.inr a3), some (.inl i4), some (.inl i5), some (.inr (h_r M a3 (i5).toNatClampNeg))]) (st' := [.inr (h_r M (h_r M a3 (i5).toNatClampNeg) 3)]) (M' := M) c_100 rfl).trans (t_i ?_ rfl)
      refine (ev_ns c_100 1 (ip' := 23) (ls' := [some (.inr a0), some (.inr a1), some (.inl i2), some (.inr a3), some (.inl i4), some (.inl i5), some (.inr (h_r M a3 (i5).toNatClampNeg))]) (st' := [.inr a1, .inr (h_r M (h_r M a3 (i5).toNatClampNeg) 3)]) (M' := M) rfl).trans ?_
      refine (ev_gi (¬ h_k M (h_r M (h_r M a3 (i5).toNatClampNeg) 3) = 14 ∧ ¬ h_k M a1 = 14) ((h_r M (h_r M a3 (i5).toNatClampNeg) 3) = a1) (i1 := 24) (l1 := [some (.inr a0), some (.inr a1), some (.inl i2), some (.inr a3), some (.inl i4), some (.inl i5), some (.inr (h_r M a3 (i5).toNatClampNeg))]) (s1 := []) (M1 := M) (i2 := 30) (l2 := [some (.inr a0), some (.inr a1), some (.inl i2), some (.inr a3), some (.inl i4), some (.inl i5), some (.inr (h_r M a3 (i5).toNatClampNeg))]) (s2 := []) (M2 := M) c_100 rfl).trans (t_i (t_i ?_ ?_) rfl)
      · skip
        refine (ev_ns c_100 2 (ip' := 26) (ls' := [some (.inr a0), some (.inr a1), some (.inl i2), some (.inr a3), some (.inl i4), some (.inl i5), some (.inr (h_r M a3 (i5).toNatClampNeg))]) (st' := [.inr (h_r M a3 (i5).toNatClampNeg), .inl i2]) (M' := M) rfl).trans ?_
        refine (ev_g (h_k M (h_r M a3 (i5).toNatClampNeg) = 3) (ip' := 27) (ls' := [some (.inr a0), some (.inr a1), some (.inl i2), some (.inr a3), some (.inl i4), some (.inl i5), some (.inr (h_r M a3 (i5).toNatClampNeg))]) (st' := [.inr (h_r M (h_r M a3 (i5).toNatClampNeg) 6), .inl i2]) (M' := M) c_100 rfl).trans (t_i ?_ rfl)
        refine (ev_gI (a_rec M 6 [.inr (h_r M (h_r M a3 (i5).toNatClampNeg) 6)] = true ∧ ([.inl i2] : List mV).length ≤ 8) (as := [.inr (h_r M (h_r M a3 (i5).toNatClampNeg) 6)]) (rr := [.inl i2]) c_100 c_31 rfl).trans (t_i (t_cI ?_) rfl)
        intro v_2 M_1
        exact ev_ns c_100 2 (ip' := 30) (ls' := [some (.inr a0), some (.inr a1), some (.inl (i2 + v_2)), some (.inr a3), some (.inl i4), some (.inl i5), some (.inr (h_r M a3 (i5).toNatClampNeg))]) (st' := []) (M' := M_1) rfl
      · skip
        exact rfl
set_option maxRecDepth 20000 in
theorem e_100_30 (a0 : Nat) (a1 : Nat) (i2 : Int32) (a3 : Nat) (i4 : Int32) (i5 : Int32) (a6 : Nat) (M : mM) : ev 100 30 [some (.inr a0), some (.inr a1), some (.inl i2), some (.inr a3), some (.inl i4), some (.inl i5), some (.inr a6)] [] M = ev 100 10 [some (.inr a0), some (.inr a1), some (.inl i2), some (.inr a3), some (.inl i4), some (.inl (i5 + 1)), some (.inr a6)] [] M := by
  exact ev_ns c_100 2 (ip' := 10) (ls' := [some (.inr a0), some (.inr a1), some (.inl i2), some (.inr a3), some (.inl i4), some (.inl (i5 + 1)), some (.inr a6)]) (st' := []) (M' := M) rfl
/- 101: GranuleHall.countPlaces()V -/
set_option maxRecDepth 20000 in
theorem e_101_0 (a0 : Nat) (M : mM) : ev 101 0 [some (.inr a0), none, none, none, none, none] [] M = if h_k M a0 = 7 then (if 9 ≤ h_k M (h_r M a0 0) ∧ h_k M (h_r M a0 0) ≤ 13 then (ev 101 8 [some (.inr a0), some (.inr (h_r M a0 0)), some (.inl (Int32.ofNat (h_l M (h_r M a0 0)))), some (.inl 0), none, none] [] M) else none) else none := by
  refine (ev_ns c_101 1 (ip' := 1) (ls' := [some (.inr a0), none, none, none, none, none]) (st' := [.inr a0]) (M' := M) rfl).trans ?_
  refine (ev_g (h_k M a0 = 7) (ip' := 2) (ls' := [some (.inr a0), none, none, none, none, none]) (st' := [.inr (h_r M a0 0)]) (M' := M) c_101 rfl).trans (t_i ?_ rfl)
  refine (ev_ns c_101 2 (ip' := 4) (ls' := [some (.inr a0), some (.inr (h_r M a0 0)), none, none, none, none]) (st' := [.inr (h_r M a0 0)]) (M' := M) rfl).trans ?_
  refine (ev_g (9 ≤ h_k M (h_r M a0 0) ∧ h_k M (h_r M a0 0) ≤ 13) (ip' := 5) (ls' := [some (.inr a0), some (.inr (h_r M a0 0)), none, none, none, none]) (st' := [.inl (Int32.ofNat (h_l M (h_r M a0 0)))]) (M' := M) c_101 rfl).trans (t_i ?_ rfl)
  exact ev_ns c_101 3 (ip' := 8) (ls' := [some (.inr a0), some (.inr (h_r M a0 0)), some (.inl (Int32.ofNat (h_l M (h_r M a0 0)))), some (.inl 0), none, none]) (st' := []) (M' := M) rfl
set_option maxRecDepth 20000 in
theorem e_101_8 (a0 : Nat) (a1 : Nat) (i2 : Int32) (i3 : Int32) (o4 : Option mV) (M : mM) : ev 101 8 [some (.inr a0), some (.inr a1), some (.inl i2), some (.inl i3), o4, none] [] M = if i2 ≤ i3 then (if h_k M a0 = 7 then (if 9 ≤ h_k M (h_r M a0 0) ∧ h_k M (h_r M a0 0) ≤ 13 then (ev 101 31 [some (.inr a0), some (.inr (h_r M a0 0)), some (.inl (Int32.ofNat (h_l M (h_r M a0 0)))), some (.inl 0), o4, none] [] M) else none) else none) else (if (h_k M a1 = 11 ∨ h_k M a1 = 12 ∨ h_k M a1 = 13) ∧ h_in i3 (h_l M a1) then (if h_k M (h_r M a1 (i3).toNatClampNeg) = 3 then (if h_k (h_si M (h_r M a1 (i3).toNatClampNeg) 7 0) (h_r M a1 (i3).toNatClampNeg) = 3 then (ev 101 8 [some (.inr a0), some (.inr a1), some (.inl i2), some (.inl (i3 + 1)), some (.inr (h_r M a1 (i3).toNatClampNeg)), none] [] (h_si (h_si M (h_r M a1 (i3).toNatClampNeg) 7 0) (h_r M a1 (i3).toNatClampNeg) 8 0)) else none) else none) else none) := by
  refine (ev_ns c_101 2 (ip' := 10) (ls' := [some (.inr a0), some (.inr a1), some (.inl i2), some (.inl i3), o4, none]) (st' := [.inl i2, .inl i3]) (M' := M) rfl).trans ?_
  refine (ev_i (i2 ≤ i3) (i1 := 23) (l1 := [some (.inr a0), some (.inr a1), some (.inl i2), some (.inl i3), o4, none]) (s1 := []) (M1 := M) (i2 := 11) (l2 := [some (.inr a0), some (.inr a1), some (.inl i2), some (.inl i3), o4, none]) (s2 := []) (M2 := M) c_101 rfl).trans (t_i ?_ ?_)
  · skip
    refine (ev_ns c_101 1 (ip' := 24) (ls' := [some (.inr a0), some (.inr a1), some (.inl i2), some (.inl i3), o4, none]) (st' := [.inr a0]) (M' := M) rfl).trans ?_
    refine (ev_g (h_k M a0 = 7) (ip' := 25) (ls' := [some (.inr a0), some (.inr a1), some (.inl i2), some (.inl i3), o4, none]) (st' := [.inr (h_r M a0 0)]) (M' := M) c_101 rfl).trans (t_i ?_ rfl)
    refine (ev_ns c_101 2 (ip' := 27) (ls' := [some (.inr a0), some (.inr (h_r M a0 0)), some (.inl i2), some (.inl i3), o4, none]) (st' := [.inr (h_r M a0 0)]) (M' := M) rfl).trans ?_
    refine (ev_g (9 ≤ h_k M (h_r M a0 0) ∧ h_k M (h_r M a0 0) ≤ 13) (ip' := 28) (ls' := [some (.inr a0), some (.inr (h_r M a0 0)), some (.inl i2), some (.inl i3), o4, none]) (st' := [.inl (Int32.ofNat (h_l M (h_r M a0 0)))]) (M' := M) c_101 rfl).trans (t_i ?_ rfl)
    exact ev_ns c_101 3 (ip' := 31) (ls' := [some (.inr a0), some (.inr (h_r M a0 0)), some (.inl (Int32.ofNat (h_l M (h_r M a0 0)))), some (.inl 0), o4, none]) (st' := []) (M' := M) rfl
  · skip
    refine (ev_ns c_101 2 (ip' := 13) (ls' := [some (.inr a0), some (.inr a1), some (.inl i2), some (.inl i3), o4, none]) (st' := [.inl i3, .inr a1]) (M' := M) rfl).trans ?_
    refine (ev_g ((h_k M a1 = 11 ∨ h_k M a1 = 12 ∨ h_k M a1 = 13) ∧ h_in i3 (h_l M a1)) (ip' := 14) (ls' := [some (.inr a0), some (.inr a1), some (.inl i2), some (.inl i3), o4, none]) (st' := [.inr (h_r M a1 (i3).toNatClampNeg)]) (M' := M) c_101 rfl).trans (t_i ?_ rfl)
    refine (ev_ns c_101 3 (ip' := 17) (ls' := [some (.inr a0), some (.inr a1), some (.inl i2), some (.inl i3), some (.inr (h_r M a1 (i3).toNatClampNeg)), none]) (st' := [.inl 0, .inr (h_r M a1 (i3).toNatClampNeg)]) (M' := M) rfl).trans ?_
    refine (ev_g (h_k M (h_r M a1 (i3).toNatClampNeg) = 3) (ip' := 18) (ls' := [some (.inr a0), some (.inr a1), some (.inl i2), some (.inl i3), some (.inr (h_r M a1 (i3).toNatClampNeg)), none]) (st' := []) (M' := h_si M (h_r M a1 (i3).toNatClampNeg) 7 0) c_101 rfl).trans (t_i ?_ rfl)
    refine (ev_ns c_101 2 (ip' := 20) (ls' := [some (.inr a0), some (.inr a1), some (.inl i2), some (.inl i3), some (.inr (h_r M a1 (i3).toNatClampNeg)), none]) (st' := [.inl 0, .inr (h_r M a1 (i3).toNatClampNeg)]) (M' := h_si M (h_r M a1 (i3).toNatClampNeg) 7 0) rfl).trans ?_
    refine (ev_g (h_k (h_si M (h_r M a1 (i3).toNatClampNeg) 7 0) (h_r M a1 (i3).toNatClampNeg) = 3) (ip' := 21) (ls' := [some (.inr a0), some (.inr a1), some (.inl i2), some (.inl i3), some (.inr (h_r M a1 (i3).toNatClampNeg)), none]) (st' := []) (M' := h_si (h_si M (h_r M a1 (i3).toNatClampNeg) 7 0) (h_r M a1 (i3).toNatClampNeg) 8 0) c_101 rfl).trans (t_i ?_ rfl)
    exact ev_ns c_101 2 (ip' := 8) (ls' := [some (.inr a0), some (.inr a1), some (.inl i2), some (.inl (i3 + 1)), some (.inr (h_r M a1 (i3).toNatClampNeg)), none]) (st' := []) (M' := h_si (h_si M (h_r M a1 (i3).toNatClampNeg) 7 0) (h_r M a1 (i3).toNatClampNeg) 8 0) rfl
set_option maxRecDepth 20000 in
theorem e_101_31 (a0 : Nat) (a1 : Nat) (i2 : Int32) (i3 : Int32) (o4 : Option mV) (o5 : Option mV) (M : mM) : ev 101 31 [some (.inr a0), some (.inr a1), some (.inl i2), some (.inl i3), o4, o5] [] M = if i2 ≤ i3 then (some (none, M)) else (if (h_k M a1 = 11 ∨ h_k M a1 = 12 ∨ h_k M a1 = 13) ∧ h_in i3 (h_l M a1) then (if (a_rec M 3 [.inr (h_r M a1 (i3).toNatClampNeg)] = true ∧ ([] : List mV).length ≤ 8) then (c_R (ev 20 0 [some (.inr (h_r M a1 (i3).toNatClampNeg))] [] M) fun u_2 M_1 => if u_2 = 0 then (ev 101 51 [some (.inr a0), some (.inr a1), some (.inl i2), some (.inl i3), some (.inr (h_r M a1 (i3).toNatClampNeg)), some (.inr u_2)] [] M_1) else (if h_k M_1 u_2 = 4 then (if h_k M_1 (h_r M_1 u_2 1) = 6 then (if h_k M_1 (h_r M_1 (h_r M_1 u_2 1) 0) = 3 then (if h_k M_1 (h_r M_1 (h_r M_1 u_2 1) 0) = 3 then (ev 101 51 [some (.inr a0), some (.inr a1), some (.inl i2), some (.inl i3), some (.inr (h_r M a1 (i3).toNatClampNeg)), some (.inr u_2)] [] (h_si M_1 (h_r M_1 (h_r M_1 u_2 1) 0) 7 ((h_i M_1 (h_r M_1 (h_r M_1 u_2 1) 0) 7) + 1))) else none) else none) else none) else none)) else none) else none) := by
  refine (ev_ns c_101 2 (ip' := 33) (ls' := [some (.inr a0), some (.inr a1), some (.inl i2), some (.inl i3), o4, o5]) (st' := [.inl i2, .inl i3]) (M' := M) rfl).trans ?_
  refine (ev_i (i2 ≤ i3) (i1 := 59) (l1 := [some (.inr a0), some (.inr a1), some (.inl i2), some (.inl i3), o4, o5]) (s1 := []) (M1 := M) (i2 := 34) (l2 := [some (.inr a0), some (.inr a1), some (.inl i2), some (.inl i3), o4, o5]) (s2 := []) (M2 := M) c_101 rfl).trans (t_i ?_ ?_)
  · skip
    exact ev_d c_101 rfl
  · skip
    refine (ev_ns c_101 2 (ip' := 36) (ls' := [some (.inr a0), some (.inr a1), some (.inl i2), some (.inl i3), o4, o5]) (st' := [.inl i3, .inr a1]) (M' := M) rfl).trans ?_
    refine (ev_g ((h_k M a1 = 11 ∨ h_k M a1 = 12 ∨ h_k M a1 = 13) ∧ h_in i3 (h_l M a1)) (ip' := 37) (ls' := [some (.inr a0), some (.inr a1), some (.inl i2), some (.inl i3), o4, o5]) (st' := [.inr (h_r M a1 (i3).toNatClampNeg)]) (M' := M) c_101 rfl).trans (t_i ?_ rfl)
    refine (ev_ns c_101 2 (ip' := 39) (ls' := [some (.inr a0), some (.inr a1), some (.inl i2), some (.inl i3), some (.inr (h_r M a1 (i3).toNatClampNeg)), o5]) (st' := [.inr (h_r M a1 (i3).toNatClampNeg)]) (M' := M) rfl).trans ?_
    refine (ev_gR (a_rec M 3 [.inr (h_r M a1 (i3).toNatClampNeg)] = true ∧ ([] : List mV).length ≤ 8) (as := [.inr (h_r M a1 (i3).toNatClampNeg)]) (rr := []) c_101 c_20 rfl).trans (t_i (t_cR ?_) rfl)
    intro u_2 M_1
    refine (ev_ns c_101 2 (ip' := 42) (ls' := [some (.inr a0), some (.inr a1), some (.inl i2), some (.inl i3), some (.inr (h_r M a1 (i3).toNatClampNeg)), some (.inr u_2)]) (st' := [.inr u_2]) (M' := M_1) rfl).trans ?_
    refine (ev_i (u_2 = 0) (i1 := 51) (l1 := [some (.inr a0), some (.inr a1), some (.inl i2), some (.inl i3), some (.inr (h_r M a1 (i3).toNatClampNeg)), some (.inr u_2)]) (s1 := []) (M1 := M_1) (i2 := 43) (l2 := [some (.inr a0), some (.inr a1), some (.inl i2), some (.inl i3), some (.inr (h_r M a1 (i3).toNatClampNeg)), some (.inr u_2)]) (s2 := []) (M2 := M_1) c_101 rfl).trans (t_i ?_ ?_)
    · skip
      exact rfl
    · skip
      refine (ev_ns c_101 1 (ip' := 44) (ls' := [some (.inr a0), some (.inr a1), some (.inl i2), some (.inl i3), some (.inr (h_r M a1 (i3).toNatClampNeg)), some (.inr u_2)]) (st' := [.inr u_2]) (M' := M_1) rfl).trans ?_
      refine (ev_g (h_k M_1 u_2 = 4) (ip' := 45) (ls' := [some (.inr a0), some (.inr a1), some (.inl i2), some (.inl i3), some (.inr (h_r M a1 (i3).toNatClampNeg)), some (.inr u_2)]) (st' := [.inr (h_r M_1 u_2 1)]) (M' := M_1) c_101 rfl).trans (t_i ?_ rfl)
      refine (ev_g (h_k M_1 (h_r M_1 u_2 1) = 6) (ip' := 46) (ls' := [some (.inr a0), some (.inr a1), some (.inl i2), some (.inl i3), some (.inr (h_r M a1 (i3).toNatClampNeg)), some (.inr u_2)]) (st' := [.inr (h_r M_1 (h_r M_1 u_2 1) 0)]) (M' := M_1) c_101 rfl).trans (t_i ?_ rfl)
      refine (ev_ns c_101 1 (ip' := 47) (ls' := [some (.inr a0), some (.inr a1), some (.inl i2), some (.inl i3), some (.inr (h_r M a1 (i3).toNatClampNeg)), some (.inr u_2)]) (st' := [.inr (h_r M_1 (h_r M_1 u_2 1) 0), .inr (h_r M_1 (h_r M_1 u_2 1) 0)]) (M' := M_1) rfl).trans ?_
      refine (ev_g (h_k M_1 (h_r M_1 (h_r M_1 u_2 1) 0) = 3) (ip' := 48) (ls' := [some (.inr a0), some (.inr a1), some (.inl i2), some (.inl i3), some (.inr (h_r M a1 (i3).toNatClampNeg)), some (.inr u_2)]) (st' := [.inl (h_i M_1 (h_r M_1 (h_r M_1 u_2 1) 0) 7), .inr (h_r M_1 (h_r M_1 u_2 1) 0)]) (M' := M_1) c_101 rfl).trans (t_i ?_ rfl)
      refine (ev_ns c_101 2 (ip' := 50) (ls' := [some (.inr a0), some (.inr a1), some (.inl i2), some (.inl i3), some (.inr (h_r M a1 (i3).toNatClampNeg)), some (.inr u_2)]) (st' := [.inl ((h_i M_1 (h_r M_1 (h_r M_1 u_2 1) 0) 7) + 1), .inr (h_r M_1 (h_r M_1 u_2 1) 0)]) (M' := M_1) rfl).trans ?_
      refine (ev_g (h_k M_1 (h_r M_1 (h_r M_1 u_2 1) 0) = 3) (ip' := 51) (ls' := [some (.inr a0), some (.inr a1), some (.inl i2), some (.inl i3), some (.inr (h_r M a1 (i3).toNatClampNeg)), some (.inr u_2)]) (st' := []) (M' := h_si M_1 (h_r M_1 (h_r M_1 u_2 1) 0) 7 ((h_i M_1 (h_r M_1 (h_r M_1 u_2 1) 0) 7) + 1)) c_101 rfl).trans (t_i ?_ rfl)
      exact rfl
set_option maxRecDepth 20000 in
theorem e_101_51 (a0 : Nat) (a1 : Nat) (i2 : Int32) (i3 : Int32) (a4 : Nat) (a5 : Nat) (M : mM) : ev 101 51 [some (.inr a0), some (.inr a1), some (.inl i2), some (.inl i3), some (.inr a4), some (.inr a5)] [] M = if h_k M a4 = 3 then (if (h_r M a4 6) = 0 then (ev 101 57 [some (.inr a0), some (.inr a1), some (.inl i2), some (.inl i3), some (.inr a4), some (.inr a5)] [] M) else (if h_k M a4 = 3 then (if (a_rec M 6 [.inr (h_r M a4 6)] = true ∧ ([] : List mV).length ≤ 8) then (c_V (ev 32 0 [some (.inr (h_r M a4 6)), none, none, none, none, none] [] M) fun M_1 => ev 101 57 [some (.inr a0), some (.inr a1), some (.inl i2), some (.inl i3), some (.inr a4), some (.inr a5)] [] M_1) else none) else none)) else none := by
  refine (ev_ns c_101 1 (ip' := 52) (ls' := [some (.inr a0), some (.inr a1), some (.inl i2), some (.inl i3), some (.inr a4), some (.inr a5)]) (st' := [.inr a4]) (M' := M) rfl).trans ?_
  refine (ev_g (h_k M a4 = 3) (ip' := 53) (ls' := [some (.inr a0), some (.inr a1), some (.inl i2), some (.inl i3), some (.inr a4), some (.inr a5)]) (st' := [.inr (h_r M a4 6)]) (M' := M) c_101 rfl).trans (t_i ?_ rfl)
  refine (ev_i ((h_r M a4 6) = 0) (i1 := 57) (l1 := [some (.inr a0), some (.inr a1), some (.inl i2), some (.inl i3), some (.inr a4), some (.inr a5)]) (s1 := []) (M1 := M) (i2 := 54) (l2 := [some (.inr a0), some (.inr a1), some (.inl i2), some (.inl i3), some (.inr a4), some (.inr a5)]) (s2 := []) (M2 := M) c_101 rfl).trans (t_i ?_ ?_)
  · skip
    exact rfl
  · skip
    refine (ev_ns c_101 1 (ip' := 55) (ls' := [some (.inr a0), some (.inr a1), some (.inl i2), some (.inl i3), some (.inr a4), some (.inr a5)]) (st' := [.inr a4]) (M' := M) rfl).trans ?_
    refine (ev_g (h_k M a4 = 3) (ip' := 56) (ls' := [some (.inr a0), some (.inr a1), some (.inl i2), some (.inl i3), some (.inr a4), some (.inr a5)]) (st' := [.inr (h_r M a4 6)]) (M' := M) c_101 rfl).trans (t_i ?_ rfl)
    refine (ev_gV (a_rec M 6 [.inr (h_r M a4 6)] = true ∧ ([] : List mV).length ≤ 8) (as := [.inr (h_r M a4 6)]) (rr := []) c_101 c_32 rfl).trans (t_i (t_cV ?_) rfl)
    intro M_1
    exact rfl
set_option maxRecDepth 20000 in
theorem e_101_57 (a0 : Nat) (a1 : Nat) (i2 : Int32) (i3 : Int32) (a4 : Nat) (a5 : Nat) (M : mM) : ev 101 57 [some (.inr a0), some (.inr a1), some (.inl i2), some (.inl i3), some (.inr a4), some (.inr a5)] [] M = ev 101 31 [some (.inr a0), some (.inr a1), some (.inl i2), some (.inl (i3 + 1)), some (.inr a4), some (.inr a5)] [] M := by
  exact ev_ns c_101 2 (ip' := 31) (ls' := [some (.inr a0), some (.inr a1), some (.inl i2), some (.inl (i3 + 1)), some (.inr a4), some (.inr a5)]) (st' := []) (M' := M) rfl
/- 102: GranuleHall.isAstray(LGranuleHall$Granule;)Z -/
set_option maxRecDepth 20000 in
theorem e_102_0 (a0 : Nat) (a1 : Nat) (M : mM) : ev 102 0 [some (.inr a0), some (.inr a1)] [] M = if h_k M a1 = 3 then (if ((h_i M a1 2) : Int32) = 2 then (if h_k M a1 = 3 then (if (a_rec M 7 [.inr a0, .inr (h_r M a1 3)] = true ∧ ([] : List mV).length ≤ 8) then (c_I (ev 103 0 [some (.inr a0), some (.inr (h_r M a1 3))] [] M) fun v_2 M_1 => if v_2 = 0 then (ev 102 11 [some (.inr a0), some (.inr a1)] [.inl 1] M_1) else (ev 102 11 [some (.inr a0), some (.inr a1)] [.inl 0] M_1)) else none) else none) else (if ((h_i M a1 2) : Int32) = 3 then (if h_k M a1 = 3 then (if (h_r M a1 5) = 0 then (ev 102 25 [some (.inr a0), some (.inr a1)] [] M) else (if h_k M a1 = 3 then (if (h_r M a1 3) = 0 then (ev 102 25 [some (.inr a0), some (.inr a1)] [] M) else (if h_k M a1 = 3 then (if h_k M (h_r M a1 3) = 4 then (if (a_rec M 3 [.inr (h_r M (h_r M a1 3) 0)] = true ∧ ([] : List mV).length ≤ 8) then (c_R (ev 20 0 [some (.inr (h_r M (h_r M a1 3) 0))] [] M) fun u_4 M_3 => if h_k M_3 a1 = 3 then (if ¬ h_k M_3 u_4 = 14 ∧ ¬ h_k M_3 (h_r M_3 a1 3) = 14 then (if u_4 = (h_r M_3 a1 3) then (ev 102 28 [some (.inr a0), some (.inr a1)] [.inl 0] M_3) else (ev 102 25 [some (.inr a0), some (.inr a1)] [] M_3)) else none) else none) else none) else none) else none)) else none)) else none) else (if ((h_i M a1 2) : Int32) = 4 then (if h_k M a1 = 3 then (if (h_i M a1 7) = 1 then (ev 102 36 [some (.inr a0), some (.inr a1)] [.inl 0] M) else (ev 102 36 [some (.inr a0), some (.inr a1)] [.inl 1] M)) else none) else (if ((h_i M a1 2) : Int32) = 5 then (if h_k M a1 = 3 then (if (h_i M a1 8) = 1 then (ev 102 44 [some (.inr a0), some (.inr a1)] [.inl 0] M) else (ev 102 44 [some (.inr a0), some (.inr a1)] [.inl 1] M)) else none) else (if h_k M a1 = 3 then (if (h_i M a1 8) = 0 then (ev 102 51 [some (.inr a0), some (.inr a1)] [.inl 0] M) else (ev 102 51 [some (.inr a0), some (.inr a1)] [.inl 1] M)) else none))))) else none := by
  refine (ev_ns c_102 1 (ip' := 1) (ls' := [some (.inr a0), some (.inr a1)]) (st' := [.inr a1]) (M' := M) rfl).trans ?_
  refine (ev_g (h_k M a1 = 3) (ip' := 2) (ls' := [some (.inr a0), some (.inr a1)]) (st' := [.inl (h_i M a1 2)]) (M' := M) c_102 rfl).trans (t_i ?_ rfl)
  refine (ev_sw c_102 (x := (h_i M a1 2)) (ls := [some (.inr a0), some (.inr a1)]) (r := []) (M := M) (d := 45) (ts := [3, 12, 29, 37]) rfl).trans ?_
  refine t_i ?_ ?_
  · skip
    refine (ev_ns c_102 2 (ip' := 5) (ls' := [some (.inr a0), some (.inr a1)]) (st' := [.inr a1, .inr a0]) (M' := M) rfl).trans ?_
    refine (ev_g (h_k M a1 = 3) (ip' := 6) (ls' := [some (.inr a0), some (.inr a1)]) (st' := [.inr (h_r M a1 3), .inr a0]) (M' := M) c_102 rfl).trans (t_i ?_ rfl)
    refine (ev_gI (a_rec M 7 [.inr a0, .inr (h_r M a1 3)] = true ∧ ([] : List mV).length ≤ 8) (as := [.inr a0, .inr (h_r M a1 3)]) (rr := []) c_102 c_103 rfl).trans (t_i (t_cI ?_) rfl)
    intro v_2 M_1
    refine (ev_i (v_2 = 0) (i1 := 8) (l1 := [some (.inr a0), some (.inr a1)]) (s1 := []) (M1 := M_1) (i2 := 10) (l2 := [some (.inr a0), some (.inr a1)]) (s2 := []) (M2 := M_1) c_102 rfl).trans (t_i ?_ ?_)
    · skip
      exact ev_ns c_102 2 (ip' := 11) (ls' := [some (.inr a0), some (.inr a1)]) (st' := [.inl 1]) (M' := M_1) rfl
    · skip
      exact ev_ns c_102 1 (ip' := 11) (ls' := [some (.inr a0), some (.inr a1)]) (st' := [.inl 0]) (M' := M_1) rfl
  refine t_i ?_ ?_
  · skip
    refine (ev_ns c_102 1 (ip' := 13) (ls' := [some (.inr a0), some (.inr a1)]) (st' := [.inr a1]) (M' := M) rfl).trans ?_
    refine (ev_g (h_k M a1 = 3) (ip' := 14) (ls' := [some (.inr a0), some (.inr a1)]) (st' := [.inr (h_r M a1 5)]) (M' := M) c_102 rfl).trans (t_i ?_ rfl)
    refine (ev_i ((h_r M a1 5) = 0) (i1 := 25) (l1 := [some (.inr a0), some (.inr a1)]) (s1 := []) (M1 := M) (i2 := 15) (l2 := [some (.inr a0), some (.inr a1)]) (s2 := []) (M2 := M) c_102 rfl).trans (t_i ?_ ?_)
    · skip
      exact rfl
    · skip
      refine (ev_ns c_102 1 (ip' := 16) (ls' := [some (.inr a0), some (.inr a1)]) (st' := [.inr a1]) (M' := M) rfl).trans ?_
      refine (ev_g (h_k M a1 = 3) (ip' := 17) (ls' := [some (.inr a0), some (.inr a1)]) (st' := [.inr (h_r M a1 3)]) (M' := M) c_102 rfl).trans (t_i ?_ rfl)
      refine (ev_i ((h_r M a1 3) = 0) (i1 := 25) (l1 := [some (.inr a0), some (.inr a1)]) (s1 := []) (M1 := M) (i2 := 18) (l2 := [some (.inr a0), some (.inr a1)]) (s2 := []) (M2 := M) c_102 rfl).trans (t_i ?_ ?_)
      · skip
        exact rfl
      · skip
        refine (ev_ns c_102 1 (ip' := 19) (ls' := [some (.inr a0), some (.inr a1)]) (st' := [.inr a1]) (M' := M) rfl).trans ?_
        refine (ev_g (h_k M a1 = 3) (ip' := 20) (ls' := [some (.inr a0), some (.inr a1)]) (st' := [.inr (h_r M a1 3)]) (M' := M) c_102 rfl).trans (t_i ?_ rfl)
        refine (ev_g (h_k M (h_r M a1 3) = 4) (ip' := 21) (ls' := [some (.inr a0), some (.inr a1)]) (st' := [.inr (h_r M (h_r M a1 3) 0)]) (M' := M) c_102 rfl).trans (t_i ?_ rfl)
        refine (ev_gR (a_rec M 3 [.inr (h_r M (h_r M a1 3) 0)] = true ∧ ([] : List mV).length ≤ 8) (as := [.inr (h_r M (h_r M a1 3) 0)]) (rr := []) c_102 c_20 rfl).trans (t_i (t_cR ?_) rfl)
        intro u_4 M_3
        refine (ev_ns c_102 1 (ip' := 23) (ls' := [some (.inr a0), some (.inr a1)]) (st' := [.inr a1, .inr u_4]) (M' := M_3) rfl).trans ?_
        refine (ev_g (h_k M_3 a1 = 3) (ip' := 24) (ls' := [some (.inr a0), some (.inr a1)]) (st' := [.inr (h_r M_3 a1 3), .inr u_4]) (M' := M_3) c_102 rfl).trans (t_i ?_ rfl)
        refine (ev_gi (¬ h_k M_3 u_4 = 14 ∧ ¬ h_k M_3 (h_r M_3 a1 3) = 14) (u_4 = (h_r M_3 a1 3)) (i1 := 27) (l1 := [some (.inr a0), some (.inr a1)]) (s1 := []) (M1 := M_3) (i2 := 25) (l2 := [some (.inr a0), some (.inr a1)]) (s2 := []) (M2 := M_3) c_102 rfl).trans (t_i (t_i ?_ ?_) rfl)
        · skip
          exact ev_ns c_102 1 (ip' := 28) (ls' := [some (.inr a0), some (.inr a1)]) (st' := [.inl 0]) (M' := M_3) rfl
        · skip
          exact rfl
  refine t_i ?_ ?_
  · skip
    refine (ev_ns c_102 1 (ip' := 30) (ls' := [some (.inr a0), some (.inr a1)]) (st' := [.inr a1]) (M' := M) rfl).trans ?_
    refine (ev_g (h_k M a1 = 3) (ip' := 31) (ls' := [some (.inr a0), some (.inr a1)]) (st' := [.inl (h_i M a1 7)]) (M' := M) c_102 rfl).trans (t_i ?_ rfl)
    refine (ev_ns c_102 1 (ip' := 32) (ls' := [some (.inr a0), some (.inr a1)]) (st' := [.inl 1, .inl (h_i M a1 7)]) (M' := M) rfl).trans ?_
    refine (ev_i ((h_i M a1 7) = 1) (i1 := 35) (l1 := [some (.inr a0), some (.inr a1)]) (s1 := []) (M1 := M) (i2 := 33) (l2 := [some (.inr a0), some (.inr a1)]) (s2 := []) (M2 := M) c_102 rfl).trans (t_i ?_ ?_)
    · skip
      exact ev_ns c_102 1 (ip' := 36) (ls' := [some (.inr a0), some (.inr a1)]) (st' := [.inl 0]) (M' := M) rfl
    · skip
      exact ev_ns c_102 2 (ip' := 36) (ls' := [some (.inr a0), some (.inr a1)]) (st' := [.inl 1]) (M' := M) rfl
  refine t_i ?_ ?_
  · skip
    refine (ev_ns c_102 1 (ip' := 38) (ls' := [some (.inr a0), some (.inr a1)]) (st' := [.inr a1]) (M' := M) rfl).trans ?_
    refine (ev_g (h_k M a1 = 3) (ip' := 39) (ls' := [some (.inr a0), some (.inr a1)]) (st' := [.inl (h_i M a1 8)]) (M' := M) c_102 rfl).trans (t_i ?_ rfl)
    refine (ev_ns c_102 1 (ip' := 40) (ls' := [some (.inr a0), some (.inr a1)]) (st' := [.inl 1, .inl (h_i M a1 8)]) (M' := M) rfl).trans ?_
    refine (ev_i ((h_i M a1 8) = 1) (i1 := 43) (l1 := [some (.inr a0), some (.inr a1)]) (s1 := []) (M1 := M) (i2 := 41) (l2 := [some (.inr a0), some (.inr a1)]) (s2 := []) (M2 := M) c_102 rfl).trans (t_i ?_ ?_)
    · skip
      exact ev_ns c_102 1 (ip' := 44) (ls' := [some (.inr a0), some (.inr a1)]) (st' := [.inl 0]) (M' := M) rfl
    · skip
      exact ev_ns c_102 2 (ip' := 44) (ls' := [some (.inr a0), some (.inr a1)]) (st' := [.inl 1]) (M' := M) rfl
  refine (ev_ns c_102 1 (ip' := 46) (ls' := [some (.inr a0), some (.inr a1)]) (st' := [.inr a1]) (M' := M) rfl).trans ?_
  refine (ev_g (h_k M a1 = 3) (ip' := 47) (ls' := [some (.inr a0), some (.inr a1)]) (st' := [.inl (h_i M a1 8)]) (M' := M) c_102 rfl).trans (t_i ?_ rfl)
  refine (ev_i ((h_i M a1 8) = 0) (i1 := 50) (l1 := [some (.inr a0), some (.inr a1)]) (s1 := []) (M1 := M) (i2 := 48) (l2 := [some (.inr a0), some (.inr a1)]) (s2 := []) (M2 := M) c_102 rfl).trans (t_i ?_ ?_)
  · skip
    exact ev_ns c_102 1 (ip' := 51) (ls' := [some (.inr a0), some (.inr a1)]) (st' := [.inl 0]) (M' := M) rfl
  · skip
    exact ev_ns c_102 2 (ip' := 51) (ls' := [some (.inr a0), some (.inr a1)]) (st' := [.inl 1]) (M' := M) rfl
set_option maxRecDepth 20000 in
theorem e_102_11 (a0 : Nat) (a1 : Nat) (s0 : Int32) (M : mM) : ev 102 11 [some (.inr a0), some (.inr a1)] [.inl s0] M = if s0 = 0 ∨ s0 = 1 then some (some (.inl s0), M) else none := by
  exact ev_gd (s0 = 0 ∨ s0 = 1) c_102 rfl
set_option maxRecDepth 20000 in
theorem e_102_25 (a0 : Nat) (a1 : Nat) (M : mM) : ev 102 25 [some (.inr a0), some (.inr a1)] [] M = ev 102 28 [some (.inr a0), some (.inr a1)] [.inl 1] M := by
  exact ev_ns c_102 2 (ip' := 28) (ls' := [some (.inr a0), some (.inr a1)]) (st' := [.inl 1]) (M' := M) rfl
set_option maxRecDepth 20000 in
theorem e_102_28 (a0 : Nat) (a1 : Nat) (s0 : Int32) (M : mM) : ev 102 28 [some (.inr a0), some (.inr a1)] [.inl s0] M = if s0 = 0 ∨ s0 = 1 then some (some (.inl s0), M) else none := by
  exact ev_gd (s0 = 0 ∨ s0 = 1) c_102 rfl
set_option maxRecDepth 20000 in
theorem e_102_36 (a0 : Nat) (a1 : Nat) (s0 : Int32) (M : mM) : ev 102 36 [some (.inr a0), some (.inr a1)] [.inl s0] M = if s0 = 0 ∨ s0 = 1 then some (some (.inl s0), M) else none := by
  exact ev_gd (s0 = 0 ∨ s0 = 1) c_102 rfl
set_option maxRecDepth 20000 in
theorem e_102_44 (a0 : Nat) (a1 : Nat) (s0 : Int32) (M : mM) : ev 102 44 [some (.inr a0), some (.inr a1)] [.inl s0] M = if s0 = 0 ∨ s0 = 1 then some (some (.inl s0), M) else none := by
  exact ev_gd (s0 = 0 ∨ s0 = 1) c_102 rfl
set_option maxRecDepth 20000 in
theorem e_102_51 (a0 : Nat) (a1 : Nat) (s0 : Int32) (M : mM) : ev 102 51 [some (.inr a0), some (.inr a1)] [.inl s0] M = if s0 = 0 ∨ s0 = 1 then some (some (.inl s0), M) else none := by
  exact ev_gd (s0 = 0 ∨ s0 = 1) c_102 rfl
/- 103: GranuleHall.keepsItsNumbers(LGranuleHall$Realm;)Z -/
set_option maxRecDepth 20000 in
theorem e_103_0 (a0 : Nat) (a1 : Nat) (M : mM) : ev 103 0 [some (.inr a0), some (.inr a1)] [] M = if a1 = 0 then (ev 103 25 [some (.inr a0), some (.inr a1)] [] M) else (if h_k M a1 = 4 then (if (a_rec M 7 [.inr a0, .inr a1, .inl 3] = true ∧ ([.inl (h_i M a1 4)] : List mV).length ≤ 8) then (c_I (ev 99 0 [some (.inr a0), some (.inr a1), some (.inl 3), none, none, none, none, none] [] M) fun v_2 M_1 => if (h_i M a1 4) = v_2 then (if h_k M_1 a1 = 4 then (if (a_rec M_1 7 [.inr a0, .inr a1, .inl 4] = true ∧ ([.inl (h_i M_1 a1 6)] : List mV).length ≤ 8) then (c_I (ev 99 0 [some (.inr a0), some (.inr a1), some (.inl 4), none, none, none, none, none] [] M_1) fun v_4 M_3 => if (h_i M_1 a1 6) = v_4 then (if h_k M_3 a1 = 4 then (if (a_rec M_3 7 [.inr a0, .inr a1, .inl 5] = true ∧ ([.inl (h_i M_3 a1 7)] : List mV).length ≤ 8) then (c_I (ev 99 0 [some (.inr a0), some (.inr a1), some (.inl 5), none, none, none, none, none] [] M_3) fun v_6 M_5 => if (h_i M_3 a1 7) = v_6 then (ev 103 26 [some (.inr a0), some (.inr a1)] [.inl 1] M_5) else (ev 103 25 [some (.inr a0), some (.inr a1)] [] M_5)) else none) else none) else (ev 103 25 [some (.inr a0), some (.inr a1)] [] M_3)) else none) else none) else (ev 103 25 [some (.inr a0), some (.inr a1)] [] M_1)) else none) else none) := by
  refine (ev_ns c_103 1 (ip' := 1) (ls' := [some (.inr a0), some (.inr a1)]) (st' := [.inr a1]) (M' := M) rfl).trans ?_
  refine (ev_i (a1 = 0) (i1 := 25) (l1 := [some (.inr a0), some (.inr a1)]) (s1 := []) (M1 := M) (i2 := 2) (l2 := [some (.inr a0), some (.inr a1)]) (s2 := []) (M2 := M) c_103 rfl).trans (t_i ?_ ?_)
  · skip
    exact rfl
  · skip
    refine (ev_ns c_103 1 (ip' := 3) (ls' := [some (.inr a0), some (.inr a1)]) (st' := [.inr a1]) (M' := M) rfl).trans ?_
    refine (ev_g (h_k M a1 = 4) (ip' := 4) (ls' := [some (.inr a0), some (.inr a1)]) (st' := [.inl (h_i M a1 4)]) (M' := M) c_103 rfl).trans (t_i ?_ rfl)
    refine (ev_ns c_103 3 (ip' := 7) (ls' := [some (.inr a0), some (.inr a1)]) (st' := [.inl 3, .inr a1, .inr a0, .inl (h_i M a1 4)]) (M' := M) rfl).trans ?_
    refine (ev_gI (a_rec M 7 [.inr a0, .inr a1, .inl 3] = true ∧ ([.inl (h_i M a1 4)] : List mV).length ≤ 8) (as := [.inr a0, .inr a1, .inl 3]) (rr := [.inl (h_i M a1 4)]) c_103 c_99 rfl).trans (t_i (t_cI ?_) rfl)
    intro v_2 M_1
    refine (ev_i ((h_i M a1 4) = v_2) (i1 := 9) (l1 := [some (.inr a0), some (.inr a1)]) (s1 := []) (M1 := M_1) (i2 := 25) (l2 := [some (.inr a0), some (.inr a1)]) (s2 := []) (M2 := M_1) c_103 rfl).trans (t_i ?_ ?_)
    · skip
      refine (ev_ns c_103 1 (ip' := 10) (ls' := [some (.inr a0), some (.inr a1)]) (st' := [.inr a1]) (M' := M_1) rfl).trans ?_
      refine (ev_g (h_k M_1 a1 = 4) (ip' := 11) (ls' := [some (.inr a0), some (.inr a1)]) (st' := [.inl (h_i M_1 a1 6)]) (M' := M_1) c_103 rfl).trans (t_i ?_ rfl)
      refine (ev_ns c_103 3 (ip' := 14) (ls' := [some (.inr a0), some (.inr a1)]) (st' := [.inl 4, .inr a1, .inr a0, .inl (h_i M_1 a1 6)]) (M' := M_1) rfl).trans ?_
      refine (ev_gI (a_rec M_1 7 [.inr a0, .inr a1, .inl 4] = true ∧ ([.inl (h_i M_1 a1 6)] : List mV).length ≤ 8) (as := [.inr a0, .inr a1, .inl 4]) (rr := [.inl (h_i M_1 a1 6)]) c_103 c_99 rfl).trans (t_i (t_cI ?_) rfl)
      intro v_4 M_3
      refine (ev_i ((h_i M_1 a1 6) = v_4) (i1 := 16) (l1 := [some (.inr a0), some (.inr a1)]) (s1 := []) (M1 := M_3) (i2 := 25) (l2 := [some (.inr a0), some (.inr a1)]) (s2 := []) (M2 := M_3) c_103 rfl).trans (t_i ?_ ?_)
      · skip
        refine (ev_ns c_103 1 (ip' := 17) (ls' := [some (.inr a0), some (.inr a1)]) (st' := [.inr a1]) (M' := M_3) rfl).trans ?_
        refine (ev_g (h_k M_3 a1 = 4) (ip' := 18) (ls' := [some (.inr a0), some (.inr a1)]) (st' := [.inl (h_i M_3 a1 7)]) (M' := M_3) c_103 rfl).trans (t_i ?_ rfl)
        refine (ev_ns c_103 3 (ip' := 21) (ls' := [some (.inr a0), some (.inr a1)]) (st' := [.inl 5, .inr a1, .inr a0, .inl (h_i M_3 a1 7)]) (M' := M_3) rfl).trans ?_
        refine (ev_gI (a_rec M_3 7 [.inr a0, .inr a1, .inl 5] = true ∧ ([.inl (h_i M_3 a1 7)] : List mV).length ≤ 8) (as := [.inr a0, .inr a1, .inl 5]) (rr := [.inl (h_i M_3 a1 7)]) c_103 c_99 rfl).trans (t_i (t_cI ?_) rfl)
        intro v_6 M_5
        refine (ev_i ((h_i M_3 a1 7) = v_6) (i1 := 23) (l1 := [some (.inr a0), some (.inr a1)]) (s1 := []) (M1 := M_5) (i2 := 25) (l2 := [some (.inr a0), some (.inr a1)]) (s2 := []) (M2 := M_5) c_103 rfl).trans (t_i ?_ ?_)
        · skip
          exact ev_ns c_103 2 (ip' := 26) (ls' := [some (.inr a0), some (.inr a1)]) (st' := [.inl 1]) (M' := M_5) rfl
        · skip
          exact rfl
      · skip
        exact rfl
    · skip
      exact rfl
set_option maxRecDepth 20000 in
theorem e_103_25 (a0 : Nat) (a1 : Nat) (M : mM) : ev 103 25 [some (.inr a0), some (.inr a1)] [] M = ev 103 26 [some (.inr a0), some (.inr a1)] [.inl 0] M := by
  exact ev_ns c_103 1 (ip' := 26) (ls' := [some (.inr a0), some (.inr a1)]) (st' := [.inl 0]) (M' := M) rfl
set_option maxRecDepth 20000 in
theorem e_103_26 (a0 : Nat) (a1 : Nat) (s0 : Int32) (M : mM) : ev 103 26 [some (.inr a0), some (.inr a1)] [.inl s0] M = if s0 = 0 ∨ s0 = 1 then some (some (.inl s0), M) else none := by
  exact ev_gd (s0 = 0 ∨ s0 = 1) c_103 rfl
