/-! equations of the methods, printed by program (wip/whole/gen/eqs.py) -/
/- 140: GranuleHallModel.table(IIII)Z -/
set_option maxRecDepth 20000 in
theorem e_140_0 (a0 : Nat) (i1 : Int32) (i2 : Int32) (i3 : Int32) (i4 : Int32) (M : mM) : ev 140 0 [some (.inr a0), some (.inl i1), some (.inl i2), some (.inl i3), some (.inl i4), none, none] [] M = if (a_rec M 8 [.inr a0, .inl i1] = true ∧ ([] : List mV).length ≤ 8) then (c_I (ev 107 0 [some (.inr a0), some (.inl i1)] [] M) fun v_2 M_1 => if v_2 = 0 then (ev 140 13 [some (.inr a0), some (.inl i1), some (.inl i2), some (.inl i3), some (.inl i4), none, none] [] M_1) else (if (a_rec M_1 8 [.inr a0, .inl i2] = true ∧ ([] : List mV).length ≤ 8) then (c_I (ev 107 0 [some (.inr a0), some (.inl i2)] [] M_1) fun v_4 M_3 => if v_4 = 0 then (ev 140 13 [some (.inr a0), some (.inl i1), some (.inl i2), some (.inl i3), some (.inl i4), none, none] [] M_3) else (if (a_rec M_3 8 [.inr a0, .inl i3, .inl i4] = true ∧ ([] : List mV).length ≤ 8) then (c_I (ev 139 0 [some (.inr a0), some (.inl i3), some (.inl i4)] [] M_3) fun v_6 M_5 => if v_6 = 0 then (ev 140 13 [some (.inr a0), some (.inl i1), some (.inl i2), some (.inl i3), some (.inl i4), none, none] [] M_5) else (if (a_rec M_5 8 [.inr a0, .inl i1, .inl 2] = true ∧ ([] : List mV).length ≤ 8) then (c_I (ev 108 0 [some (.inr a0), some (.inl i1), some (.inl 2)] [] M_5) fun v_8 M_7 => if v_8 = 0 then (ev 140 27 [some (.inr a0), some (.inl i1), some (.inl i2), some (.inl i3), some (.inl i4), none, none] [] M_7) else (if (a_rec M_7 8 [.inr a0, .inl i2, .inl 1] = true ∧ ([] : List mV).length ≤ 8) then (c_I (ev 108 0 [some (.inr a0), some (.inl i2), some (.inl 1)] [] M_7) fun v_10 M_9 => if v_10 = 0 then (ev 140 27 [some (.inr a0), some (.inl i1), some (.inl i2), some (.inl i3), some (.inl i4), none, none] [] M_9) else (if (a_rec M_9 8 [.inr a0, .inl i1, .inl i3, .inl (i4 - 1)] = true ∧ ([] : List mV).length ≤ 8) then (c_I (ev 118 0 [some (.inr a0), some (.inl i1), some (.inl i3), some (.inl (i4 - 1)), none, none] [] M_9) fun v_12 M_11 => if (a_rec M_11 8 [.inr a0, .inl v_12] = true ∧ ([] : List mV).length ≤ 8) then (c_I (ev 120 0 [some (.inr a0), some (.inl v_12)] [] M_11) fun v_14 M_13 => if v_14 = (i4 - 1) then (if h_k M_13 a0 = 8 then (if (h_k M_13 (h_r M_13 a0 14) = 9 ∨ h_k M_13 (h_r M_13 a0 14) = 14) ∧ h_in v_12 (h_l M_13 (h_r M_13 a0 14)) then (if (h_i M_13 (h_r M_13 a0 14) (v_12).toNatClampNeg) = 0 then (if h_k M_13 a0 = 8 then (if (h_k M_13 (h_r M_13 a0 16) = 9 ∨ h_k M_13 (h_r M_13 a0 16) = 14) ∧ h_in v_12 (h_l M_13 (h_r M_13 a0 16)) then (if h_k M_13 a0 = 8 then (if h_k M_13 (h_r M_13 a0 14) = 9 ∧ h_in v_12 (h_l M_13 (h_r M_13 a0 14)) then (if h_k (h_si M_13 (h_r M_13 a0 14) (v_12).toNatClampNeg 2) a0 = 8 then (if h_k (h_si M_13 (h_r M_13 a0 14) (v_12).toNatClampNeg 2) (h_r (h_si M_13 (h_r M_13 a0 14) (v_12).toNatClampNeg 2) a0 15) = 9 ∧ h_in v_12 (h_l (h_si M_13 (h_r M_13 a0 14) (v_12).toNatClampNeg 2) (h_r (h_si M_13 (h_r M_13 a0 14) (v_12).toNatClampNeg 2) a0 15)) then (if h_k (h_si (h_si M_13 (h_r M_13 a0 14) (v_12).toNatClampNeg 2) (h_r (h_si M_13 (h_r M_13 a0 14) (v_12).toNatClampNeg 2) a0 15) (v_12).toNatClampNeg i2) a0 = 8 then (if h_k (h_si (h_si M_13 (h_r M_13 a0 14) (v_12).toNatClampNeg 2) (h_r (h_si M_13 (h_r M_13 a0 14) (v_12).toNatClampNeg 2) a0 15) (v_12).toNatClampNeg i2) (h_r (h_si (h_si M_13 (h_r M_13 a0 14) (v_12).toNatClampNeg 2) (h_r (h_si M_13 (h_r M_13 a0 14) (v_12).toNatClampNeg 2) a0 15) (v_12).toNatClampNeg i2) a0 16) = 9 ∧ h_in v_12 (h_l (h_si (h_si M_13 (h_r M_13 a0 14) (v_12).toNatClampNeg 2) (h_r (h_si M_13 (h_r M_13 a0 14) (v_12).toNatClampNeg 2) a0 15) (v_12).toNatClampNeg i2) (h_r (h_si (h_si M_13 (h_r M_13 a0 14) (v_12).toNatClampNeg 2) (h_r (h_si M_13 (h_r M_13 a0 14) (v_12).toNatClampNeg 2) a0 15) (v_12).toNatClampNeg i2) a0 16)) then (if (a_rec (h_si (h_si (h_si M_13 (h_r M_13 a0 14) (v_12).toNatClampNeg 2) (h_r (h_si M_13 (h_r M_13 a0 14) (v_12).toNatClampNeg 2) a0 15) (v_12).toNatClampNeg i2) (h_r (h_si (h_si M_13 (h_r M_13 a0 14) (v_12).toNatClampNeg 2) (h_r (h_si M_13 (h_r M_13 a0 14) (v_12).toNatClampNeg 2) a0 15) (v_12).toNatClampNeg i2) a0 16) (v_12).toNatClampNeg 0) 8 [.inr a0, .inl i2, .inl i1, .inl i4, .inl i3, .inl (h_i M_13 (h_r M_13 a0 16) (v_12).toNatClampNeg)] = true ∧ ([] : List mV).length ≤ 8) then (c_V (ev 124 0 [some (.inr a0), some (.inl i2), some (.inl i1), some (.inl i4), some (.inl i3), some (.inl (h_i M_13 (h_r M_13 a0 16) (v_12).toNatClampNeg)), none] [] (h_si (h_si (h_si M_13 (h_r M_13 a0 14) (v_12).toNatClampNeg 2) (h_r (h_si M_13 (h_r M_13 a0 14) (v_12).toNatClampNeg 2) a0 15) (v_12).toNatClampNeg i2) (h_r (h_si (h_si M_13 (h_r M_13 a0 14) (v_12).toNatClampNeg 2) (h_r (h_si M_13 (h_r M_13 a0 14) (v_12).toNatClampNeg 2) a0 15) (v_12).toNatClampNeg i2) a0 16) (v_12).toNatClampNeg 0)) fun M_15 => if (a_rec M_15 8 [.inr a0, .inl 0] = true ∧ ([] : List mV).length ≤ 8) then (c_I (ev 106 0 [some (.inr a0), some (.inl 0)] [] M_15) fun v_17 M_16 => if v_17 = 0 ∨ v_17 = 1 then some (some (.inl v_17), M_16) else none) else none) else none) else none) else none) else none) else none) else none) else none) else none) else none) else (ev 140 51 [some (.inr a0), some (.inl i1), some (.inl i2), some (.inl i3), some (.inl i4), some (.inl v_12), none] [] M_13)) else none) else none) else (ev 140 51 [some (.inr a0), some (.inl i1), some (.inl i2), some (.inl i3), some (.inl i4), some (.inl v_12), none] [] M_13)) else none) else none)) else none)) else none)) else none)) else none)) else none := by
  refine (ev_ns c_140 2 (ip' := 2) (ls' := [some (.inr a0), some (.inl i1), some (.inl i2), some (.inl i3), some (.inl i4), none, none]) (st' := [.inl i1, .inr a0]) (M' := M) rfl).trans ?_
  refine (ev_gI (a_rec M 8 [.inr a0, .inl i1] = true ∧ ([] : List mV).length ≤ 8) (as := [.inr a0, .inl i1]) (rr := []) c_140 c_107 rfl).trans (t_i (t_cI ?_) rfl)
  intro v_2 M_1
  refine (ev_i (v_2 = 0) (i1 := 13) (l1 := [some (.inr a0), some (.inl i1), some (.inl i2), some (.inl i3), some (.inl i4), none, none]) (s1 := []) (M1 := M_1) (i2 := 4) (l2 := [some (.inr a0), some (.inl i1), some (.inl i2), some (.inl i3), some (.inl i4), none, none]) (s2 := []) (M2 := M_1) c_140 rfl).trans (t_i ?_ ?_)
  · skip
    exact rfl
  · skip
    refine (ev_ns c_140 2 (ip' := 6) (ls' := [some (.inr a0), some (.inl i1), some (.inl i2), some (.inl i3), some (.inl i4), none, none]) (st' := [.inl i2, .inr a0]) (M' := M_1) rfl).trans ?_
    refine (ev_gI (a_rec M_1 8 [.inr a0, .inl i2] = true ∧ ([] : List mV).length ≤ 8) (as := [.inr a0, .inl i2]) (rr := []) c_140 c_107 rfl).trans (t_i (t_cI ?_) rfl)
    intro v_4 M_3
    refine (ev_i (v_4 = 0) (i1 := 13) (l1 := [some (.inr a0), some (.inl i1), some (.inl i2), some (.inl i3), some (.inl i4), none, none]) (s1 := []) (M1 := M_3) (i2 := 8) (l2 := [some (.inr a0), some (.inl i1), some (.inl i2), some (.inl i3), some (.inl i4), none, none]) (s2 := []) (M2 := M_3) c_140 rfl).trans (t_i ?_ ?_)
    · skip
      exact rfl
    · skip
      refine (ev_ns c_140 3 (ip' := 11) (ls' := [some (.inr a0), some (.inl i1), some (.inl i2), some (.inl i3), some (.inl i4), none, none]) (st' := [.inl i4, .inl i3, .inr a0]) (M' := M_3) rfl).trans ?_
      refine (ev_gI (a_rec M_3 8 [.inr a0, .inl i3, .inl i4] = true ∧ ([] : List mV).length ≤ 8) (as := [.inr a0, .inl i3, .inl i4]) (rr := []) c_140 c_139 rfl).trans (t_i (t_cI ?_) rfl)
      intro v_6 M_5
      refine (ev_i (v_6 = 0) (i1 := 13) (l1 := [some (.inr a0), some (.inl i1), some (.inl i2), some (.inl i3), some (.inl i4), none, none]) (s1 := []) (M1 := M_5) (i2 := 17) (l2 := [some (.inr a0), some (.inl i1), some (.inl i2), some (.inl i3), some (.inl i4), none, none]) (s2 := []) (M2 := M_5) c_140 rfl).trans (t_i ?_ ?_)
      · skip
        exact rfl
      · skip
        refine (ev_ns c_140 3 (ip' := 20) (ls' := [some (.inr a0), some (.inl i1), some (.inl i2), some (.inl i3), some (.inl i4), none, none]) (st' := [.inl 2, .inl i1, .inr a0]) (M' := M_5) rfl).trans ?_
        refine (ev_gI (a_rec M_5 8 [.inr a0, .inl i1, .inl 2] = true ∧ ([] : List mV).length ≤ 8) (as := [.inr a0, .inl i1, .inl 2]) (rr := []) c_140 c_108 rfl).trans (t_i (t_cI ?_) rfl)
        intro v_8 M_7
        refine (ev_i (v_8 = 0) (i1 := 27) (l1 := [some (.inr a0), some (.inl i1), some (.inl i2), some (.inl i3), some (.inl i4), none, none]) (s1 := []) (M1 := M_7) (i2 := 22) (l2 := [some (.inr a0), some (.inl i1), some (.inl i2), some (.inl i3), some (.inl i4), none, none]) (s2 := []) (M2 := M_7) c_140 rfl).trans (t_i ?_ ?_)
        · skip
          exact rfl
        · skip
          refine (ev_ns c_140 3 (ip' := 25) (ls' := [some (.inr a0), some (.inl i1), some (.inl i2), some (.inl i3), some (.inl i4), none, none]) (st' := [.inl 1, .inl i2, .inr a0]) (M' := M_7) rfl).trans ?_
          refine (ev_gI (a_rec M_7 8 [.inr a0, .inl i2, .inl 1] = true ∧ ([] : List mV).length ≤ 8) (as := [.inr a0, .inl i2, .inl 1]) (rr := []) c_140 c_108 rfl).trans (t_i (t_cI ?_) rfl)
          intro v_10 M_9
          refine (ev_i (v_10 = 0) (i1 := 27) (l1 := [some (.inr a0), some (.inl i1), some (.inl i2), some (.inl i3), some (.inl i4), none, none]) (s1 := []) (M1 := M_9) (i2 := 31) (l2 := [some (.inr a0), some (.inl i1), some (.inl i2), some (.inl i3), some (.inl i4), none, none]) (s2 := []) (M2 := M_9) c_140 rfl).trans (t_i ?_ ?_)
          · skip
            exact rfl
          · skip
            refine (ev_ns c_140 6 (ip' := 37) (ls' := [some (.inr a0), some (.inl i1), some (.inl i2), some (.inl i3), some (.inl i4), none, none]) (st' := [.inl (i4 - 1), .inl i3, .inl i1, .inr a0]) (M' := M_9) rfl).trans ?_
            refine (ev_gI (a_rec M_9 8 [.inr a0, .inl i1, .inl i3, .inl (i4 - 1)] = true ∧ ([] : List mV).length ≤ 8) (as := [.inr a0, .inl i1, .inl i3, .inl (i4 - 1)]) (rr := []) c_140 c_118 rfl).trans (t_i (t_cI ?_) rfl)
            intro v_12 M_11
            refine (ev_ns c_140 3 (ip' := 41) (ls' := [some (.inr a0), some (.inl i1), some (.inl i2), some (.inl i3), some (.inl i4), some (.inl v_12), none]) (st' := [.inl v_12, .inr a0]) (M' := M_11) rfl).trans ?_
            refine (ev_gI (a_rec M_11 8 [.inr a0, .inl v_12] = true ∧ ([] : List mV).length ≤ 8) (as := [.inr a0, .inl v_12]) (rr := []) c_140 c_120 rfl).trans (t_i (t_cI ?_) rfl)
            intro v_14 M_13
            refine (ev_ns c_140 3 (ip' := 45) (ls' := [some (.inr a0), some (.inl i1), some (.inl i2), some (.inl i3), some (.inl i4), some (.inl v_12), none]) (st' := [.inl (i4 - 1), .inl v_14]) (M' := M_13) rfl).trans ?_
            refine (ev_i (v_14 = (i4 - 1)) (i1 := 46) (l1 := [some (.inr a0), some (.inl i1), some (.inl i2), some (.inl i3), some (.inl i4), some (.inl v_12), none]) (s1 := []) (M1 := M_13) (i2 := 51) (l2 := [some (.inr a0), some (.inl i1), some (.inl i2), some (.inl i3), some (.inl i4), some (.inl v_12), none]) (s2 := []) (M2 := M_13) c_140 rfl).trans (t_i ?_ ?_)
            · skip
              refine (ev_ns c_140 1 (ip' := 47) (ls' := [some (.inr a0), some (.inl i1), some (.inl i2), some (.inl i3), some (.inl i4), some (.inl v_12), none]) (st' := [.inr a0]) (M' := M_13) rfl).trans ?_
              refine (ev_g (h_k M_13 a0 = 8) (ip' := 48) (ls' := [some (.inr a0), some (.inl i1), some (.inl i2), some (.inl i3), some (.inl i4), some (.inl v_12), none]) (st' := [.inr (h_r M_13 a0 14)]) (M' := M_13) c_140 rfl).trans (t_i ?_ rfl)
              refine (ev_ns c_140 1 (ip' := 49) (ls' := [some (.inr a0), some (.inl i1), some (.inl i2), some (.inl i3), some (.inl i4), some (.inl v_12), none]) (st' := [.inl v_12, .inr (h_r M_13 a0 14)]) (M' := M_13) rfl).trans ?_
              refine (ev_g ((h_k M_13 (h_r M_13 a0 14) = 9 ∨ h_k M_13 (h_r M_13 a0 14) = 14) ∧ h_in v_12 (h_l M_13 (h_r M_13 a0 14))) (ip' := 50) (ls' := [some (.inr a0), some (.inl i1), some (.inl i2), some (.inl i3), some (.inl i4), some (.inl v_12), none]) (st' := [.inl (h_i M_13 (h_r M_13 a0 14) (v_12).toNatClampNeg)]) (M' := M_13) c_140 rfl).trans (t_i ?_ rfl)
              refine (ev_i ((h_i M_13 (h_r M_13 a0 14) (v_12).toNatClampNeg) = 0) (i1 := 55) (l1 := [some (.inr a0), some (.inl i1), some (.inl i2), some (.inl i3), some (.inl i4), some (.inl v_12), none]) (s1 := []) (M1 := M_13) (i2 := 51) (l2 := [some (.inr a0), some (.inl i1), some (.inl i2), some (.inl i3), some (.inl i4), some (.inl v_12), none]) (s2 := []) (M2 := M_13) c_140 rfl).trans (t_i ?_ ?_)
              · skip
                refine (ev_ns c_140 1 (ip' := 56) (ls' := [some (.inr a0), some (.inl i1), some (.inl i2), some (.inl i3), some (.inl i4), some (.inl v_12), none]) (st' := [.inr a0]) (M' := M_13) rfl).trans ?_
                refine (ev_g (h_k M_13 a0 = 8) (ip' := 57) (ls' := [some (.inr a0), some (.inl i1), some (.inl i2), some (.inl i3), some (.inl i4), some (.inl v_12), none]) (st' := [.inr (h_r M_13 a0 16)]) (M' := M_13) c_140 rfl).trans (t_i ?_ rfl)
                refine (ev_ns c_140 1 (ip' := 58) (ls' := [some (.inr a0), some (.inl i1), some (.inl i2), some (.inl i3), some (.inl i4), some (.inl v_12), none]) (st' := [.inl v_12, .inr (h_r M_13 a0 16)]) (M' := M_13) rfl).trans ?_
                refine (ev_g ((h_k M_13 (h_r M_13 a0 16) = 9 ∨ h_k M_13 (h_r M_13 a0 16) = 14) ∧ h_in v_12 (h_l M_13 (h_r M_13 a0 16))) (ip' := 59) (ls' := [some (.inr a0), some (.inl i1), some (.inl i2), some (.inl i3), some (.inl i4), some (.inl v_12), none]) (st' := [.inl (h_i M_13 (h_r M_13 a0 16) (v_12).toNatClampNeg)]) (M' := M_13) c_140 rfl).trans (t_i ?_ rfl)
                refine (ev_ns c_140 2 (ip' := 61) (ls' := [some (.inr a0), some (.inl i1), some (.inl i2), some (.inl i3), some (.inl i4), some (.inl v_12), some (.inl (h_i M_13 (h_r M_13 a0 16) (v_12).toNatClampNeg))]) (st' := [.inr a0]) (M' := M_13) rfl).trans ?_
                refine (ev_g (h_k M_13 a0 = 8) (ip' := 62) (ls' := [some (.inr a0), some (.inl i1), some (.inl i2), some (.inl i3), some (.inl i4), some (.inl v_12), some (.inl (h_i M_13 (h_r M_13 a0 16) (v_12).toNatClampNeg))]) (st' := [.inr (h_r M_13 a0 14)]) (M' := M_13) c_140 rfl).trans (t_i ?_ rfl)
                refine (ev_ns c_140 2 (ip' := 64) (ls' := [some (.inr a0), some (.inl i1), some (.inl i2), some (.inl i3), some (.inl i4), some (.inl v_12), some (.inl (h_i M_13 (h_r M_13 a0 16) (v_12).toNatClampNeg))]) (st' := [.inl 2, .inl v_12, .inr (h_r M_13 a0 14)]) (M' := M_13) rfl).trans ?_
                refine (ev_g (h_k M_13 (h_r M_13 a0 14) = 9 ∧ h_in v_12 (h_l M_13 (h_r M_13 a0 14))) (ip' := 65) (ls' := [some (.inr a0), some (.inl i1), some (.inl i2), some (.inl i3), some (.inl i4), some (.inl v_12), some (.inl (h_i M_13 (h_r M_13 a0 16) (v_12).toNatClampNeg))]) (st' := []) (M' := h_si M_13 (h_r M_13 a0 14) (v_12).toNatClampNeg 2) c_140 rfl).trans (t_i ?_ rfl)
                refine (ev_ns c_140 1 (ip' := 66) (ls' := [some (.inr a0), some (.inl i1), some (.inl i2), some (.inl i3), some (.inl i4), some (.inl v_12), some (.inl (h_i M_13 (h_r M_13 a0 16) (v_12).toNatClampNeg))]) (st' := [.inr a0]) (M' := h_si M_13 (h_r M_13 a0 14) (v_12).toNatClampNeg 2) rfl).trans ?_
                refine (ev_g (h_k (h_si M_13 (h_r M_13 a0 14) (v_12).toNatClampNeg 2) a0 = 8) (ip' := 67) (ls' := [some (.inr a0), some (.inl i1), some (.inl i2), some (.inl i3), some (.inl i4), some (.inl v_12), some (.inl (h_i M_13 (h_r M_13 a0 16) (v_12).toNatClampNeg))]) (st' := [.inr (h_r (h_si M_13 (h_r M_13 a0 14) (v_12).toNatClampNeg 2) a0 15)]) (M' := h_si M_13 (h_r M_13 a0 14) (v_12).toNatClampNeg 2) c_140 rfl).trans (t_i ?_ rfl)
                refine (ev_ns c_140 2 (ip' := 69) (ls' := [some (.inr a0), some (.inl i1), some (.inl i2), some (.inl i3), some (.inl i4), some (.inl v_12), some (.inl (h_i M_13 (h_r M_13 a0 16) (v_12).toNatClampNeg))]) (st' := [.inl i2, .inl v_12, .inr (h_r (h_si M_13 (h_r M_13 a0 14) (v_12).toNatClampNeg 2) a0 15)]) (M' := h_si M_13 (h_r M_13 a0 14) (v_12).toNatClampNeg 2) rfl).trans ?_
                refine (ev_g (h_k (h_si M_13 (h_r M_13 a0 14) (v_12).toNatClampNeg 2) (h_r (h_si M_13 (h_r M_13 a0 14) (v_12).toNatClampNeg 2) a0 15) = 9 ∧ h_in v_12 (h_l (h_si M_13 (h_r M_13 a0 14) (v_12).toNatClampNeg 2) (h_r (h_si M_13 (h_r M_13 a0 14) (v_12).toNatClampNeg 2) a0 15))) (ip' := 70) (ls' := [some (.inr a0), some (.inl i1), some (.inl i2), some (.inl i3), some (.inl i4), some (.inl v_12), some (.inl (h_i M_13 (h_r M_13 a0 16) (v_12).toNatClampNeg))]) (st' := []) (M' := h_si (h_si M_13 (h_r M_13 a0 14) (v_12).toNatClampNeg 2) (h_r (h_si M_13 (h_r M_13 a0 14) (v_12).toNatClampNeg 2) a0 15) (v_12).toNatClampNeg i2) c_140 rfl).trans (t_i ?_ rfl)
                refine (ev_ns c_140 1 (ip' := 71) (ls' := [some (.inr a0), some (.inl i1), some (.inl i2), some (.inl i3), some (.inl i4), some (.inl v_12), some (.inl (h_i M_13 (h_r M_13 a0 16) (v_12).toNatClampNeg))]) (st' := [.inr a0]) (M' := h_si (h_si M_13 (h_r M_13 a0 14) (v_12).toNatClampNeg 2) (h_r (h_si M_13 (h_r M_13 a0 14) (v_12).toNatClampNeg 2) a0 15) (v_12).toNatClampNeg i2) rfl).trans ?_
                refine (ev_g (h_k (h_si (h_si M_13 (h_r M_13 a0 14) (v_12).toNatClampNeg 2) (h_r (h_si M_13 (h_r M_13 a0 14) (v_12).toNatClampNeg 2) a0 15) (v_12).toNatClampNeg i2) a0 = 8) (ip' := 72) (ls' := [some (.inr a0), some (.inl i1), some (.inl i2), some (.inl i3), some (.inl i4), some (.inl v_12), some (.inl (h_i M_13 (h_r M_13 a0 16) (v_12).toNatClampNeg))]) (st' := [.inr (h_r (h_si (h_si M_13 (h_r M_13 a0 14) (v_12).toNatClampNeg 2) (h_r (h_si M_13 (h_r M_13 a0 14) (v_12).toNatClampNeg 2) a0 15) (v_12).toNatClampNeg i2) a0 16)]) (M' := h_si (h_si M_13 (h_r M_13 a0 14) (v_12).toNatClampNeg 2) (h_r (h_si M_13 (h_r M_13 a0 14) (v_12).toNatClampNeg 2) a0 15) (v_12).toNatClampNeg i2) c_140 rfl).trans (t_i ?_ rfl)
                refine (ev_ns c_140 2 (ip' := 74) (ls' := [some (.inr a0), some (.inl i1), some (.inl i2), some (.inl i3), some (.inl i4), some (.inl v_12), some (.inl (h_i M_13 (h_r M_13 a0 16) (v_12).toNatClampNeg))]) (st' := [.inl 0, .inl v_12, .inr (h_r (h_si (h_si M_13 (h_r M_13 a0 14) (v_12).toNatClampNeg 2) (h_r (h_si M_13 (h_r M_13 a0 14) (v_12).toNatClampNeg 2) a0 15) (v_12).toNatClampNeg i2) a0 16)]) (M' := h_si (h_si M_13 (h_r M_13 a0 14) (v_12).toNatClampNeg 2) (h_r (h_si M_13 (h_r M_13 a0 14) (v_12).toNatClampNeg 2) a0 15) (v_12).toNatClampNeg i2) rfl).trans ?_
                refine (ev_g (h_k (h_si (h_si M_13 (h_r M_13 a0 14) (v_12).toNatClampNeg 2) (h_r (h_si M_13 (h_r M_13 a0 14) (v_12).toNatClampNeg 2) a0 15) (v_12).toNatClampNeg i2) (h_r (h_si (h_si M_13 (h_r M_13 a0 14) (v_12).toNatClampNeg 2) (h_r (h_si M_13 (h_r M_13 a0 14) (v_12).toNatClampNeg 2) a0 15) (v_12).toNatClampNeg i2) a0 16) = 9 ∧ h_in v_12 (h_l (h_si (h_si M_13 (h_r M_13 a0 14) (v_12).toNatClampNeg 2) (h_r (h_si M_13 (h_r M_13 a0 14) (v_12).toNatClampNeg 2) a0 15) (v_12).toNatClampNeg i2) (h_r (h_si (h_si M_13 (h_r M_13 a0 14) (v_12).toNatClampNeg 2) (h_r (h_si M_13 (h_r M_13 a0 14) (v_12).toNatClampNeg 2) a0 15) (v_12).toNatClampNeg i2) a0 16))) (ip' := 75) (ls' := [some (.inr a0), some (.inl i1), some (.inl i2), some (.inl i3), some (.inl i4), some (.inl v_12), some (.inl (h_i M_13 (h_r M_13 a0 16) (v_12).toNatClampNeg))]) (st' := []) (M' := h_si (h_si (h_si M_13 (h_r M_13 a0 14) (v_12).toNatClampNeg 2) (h_r (h_si M_13 (h_r M_13 a0 14) (v_12).toNatClampNeg 2) a0 15) (v_12).toNatClampNeg i2) (h_r (h_si (h_si M_13 (h_r M_13 a0 14) (v_12).toNatClampNeg 2) (h_r (h_si M_13 (h_r M_13 a0 14) (v_12).toNatClampNeg 2) a0 15) (v_12).toNatClampNeg i2) a0 16) (v_12).toNatClampNeg 0) c_140 rfl).trans (t_i ?_ rfl)
                refine (ev_ns c_140 6 (ip' := 81) (ls' := [some (.inr a0), some (.inl i1), some (.inl i2), some (.inl i3), some (.inl i4), some (.inl v_12), some (.inl (h_i M_13 (h_r M_13 a0 16) (v_12).toNatClampNeg))]) (st' := [.inl (h_i M_13 (h_r M_13 a0 16) (v_12).toNatClampNeg), .inl i3, .inl i4, .inl i1, .inl i2, .inr a0]) (M' := h_si (h_si (h_si M_13 (h_r M_13 a0 14) (v_12).toNatClampNeg 2) (h_r (h_si M_13 (h_r M_13 a0 14) (v_12).toNatClampNeg 2) a0 15) (v_12).toNatClampNeg i2) (h_r (h_si (h_si M_13 (h_r M_13 a0 14) (v_12).toNatClampNeg 2) (h_r (h_si M_13 (h_r M_13 a0 14) (v_12).toNatClampNeg 2) a0 15) (v_12).toNatClampNeg i2) a0 16) (v_12).toNatClampNeg 0) rfl).trans ?_
                refine (ev_gV (a_rec (h_si (h_si (h_si M_13 (h_r M_13 a0 14) (v_12).toNatClampNeg 2) (h_r (h_si M_13 (h_r M_13 a0 14) (v_12).toNatClampNeg 2) a0 15) (v_12).toNatClampNeg i2) (h_r (h_si (h_si M_13 (h_r M_13 a0 14) (v_12).toNatClampNeg 2) (h_r (h_si M_13 (h_r M_13 a0 14) (v_12).toNatClampNeg 2) a0 15) (v_12).toNatClampNeg i2) a0 16) (v_12).toNatClampNeg 0) 8 [.inr a0, .inl i2, .inl i1, .inl i4, .inl i3, .inl (h_i M_13 (h_r M_13 a0 16) (v_12).toNatClampNeg)] = true ∧ ([] : List mV).length ≤ 8) (as := [.inr a0, .inl i2, .inl i1, .inl i4, .inl i3, .inl (h_i M_13 (h_r M_13 a0 16) (v_12).toNatClampNeg)]) (rr := []) c_140 c_124 rfl).trans (t_i (t_cV ?_) rfl)
                intro M_15
                refine (ev_ns c_140 2 (ip' := 84) (ls' := [some (.inr a0), some (.inl i1), some (.inl i2), some (.inl i3), some (.inl i4), some (.inl v_12), some (.inl (h_i M_13 (h_r M_13 a0 16) (v_12).toNatClampNeg))]) (st' := [.inl 0, .inr a0]) (M' := M_15) rfl).trans ?_
                refine (ev_gI (a_rec M_15 8 [.inr a0, .inl 0] = true ∧ ([] : List mV).length ≤ 8) (as := [.inr a0, .inl 0]) (rr := []) c_140 c_106 rfl).trans (t_i (t_cI ?_) rfl)
                intro v_17 M_16
                exact ev_gd (v_17 = 0 ∨ v_17 = 1) c_140 rfl
              · skip
                exact rfl
            · skip
              exact rfl
set_option maxRecDepth 20000 in
theorem e_140_13 (a0 : Nat) (i1 : Int32) (i2 : Int32) (i3 : Int32) (i4 : Int32) (M : mM) : ev 140 13 [some (.inr a0), some (.inl i1), some (.inl i2), some (.inl i3), some (.inl i4), none, none] [] M = if (a_rec M 8 [.inr a0, .inl 1] = true ∧ ([] : List mV).length ≤ 8) then (c_I (ev 106 0 [some (.inr a0), some (.inl 1)] [] M) fun v_2 M_1 => if v_2 = 0 ∨ v_2 = 1 then some (some (.inl v_2), M_1) else none) else none := by
  refine (ev_ns c_140 2 (ip' := 15) (ls' := [some (.inr a0), some (.inl i1), some (.inl i2), some (.inl i3), some (.inl i4), none, none]) (st' := [.inl 1, .inr a0]) (M' := M) rfl).trans ?_
  refine (ev_gI (a_rec M 8 [.inr a0, .inl 1] = true ∧ ([] : List mV).length ≤ 8) (as := [.inr a0, .inl 1]) (rr := []) c_140 c_106 rfl).trans (t_i (t_cI ?_) rfl)
  intro v_2 M_1
  exact ev_gd (v_2 = 0 ∨ v_2 = 1) c_140 rfl
set_option maxRecDepth 20000 in
theorem e_140_27 (a0 : Nat) (i1 : Int32) (i2 : Int32) (i3 : Int32) (i4 : Int32) (M : mM) : ev 140 27 [some (.inr a0), some (.inl i1), some (.inl i2), some (.inl i3), some (.inl i4), none, none] [] M = if (a_rec M 8 [.inr a0, .inl 2] = true ∧ ([] : List mV).length ≤ 8) then (c_I (ev 106 0 [some (.inr a0), some (.inl 2)] [] M) fun v_2 M_1 => if v_2 = 0 ∨ v_2 = 1 then some (some (.inl v_2), M_1) else none) else none := by
  refine (ev_ns c_140 2 (ip' := 29) (ls' := [some (.inr a0), some (.inl i1), some (.inl i2), some (.inl i3), some (.inl i4), none, none]) (st' := [.inl 2, .inr a0]) (M' := M) rfl).trans ?_
  refine (ev_gI (a_rec M 8 [.inr a0, .inl 2] = true ∧ ([] : List mV).length ≤ 8) (as := [.inr a0, .inl 2]) (rr := []) c_140 c_106 rfl).trans (t_i (t_cI ?_) rfl)
  intro v_2 M_1
  exact ev_gd (v_2 = 0 ∨ v_2 = 1) c_140 rfl
set_option maxRecDepth 20000 in
theorem e_140_51 (a0 : Nat) (i1 : Int32) (i2 : Int32) (i3 : Int32) (i4 : Int32) (i5 : Int32) (M : mM) : ev 140 51 [some (.inr a0), some (.inl i1), some (.inl i2), some (.inl i3), some (.inl i4), some (.inl i5), none] [] M = if (a_rec M 8 [.inr a0, .inl 5] = true ∧ ([] : List mV).length ≤ 8) then (c_I (ev 106 0 [some (.inr a0), some (.inl 5)] [] M) fun v_2 M_1 => if v_2 = 0 ∨ v_2 = 1 then some (some (.inl v_2), M_1) else none) else none := by
  refine (ev_ns c_140 2 (ip' := 53) (ls' := [some (.inr a0), some (.inl i1), some (.inl i2), some (.inl i3), some (.inl i4), some (.inl i5), none]) (st' := [.inl 5, .inr a0]) (M' := M) rfl).trans ?_
  refine (ev_gI (a_rec M 8 [.inr a0, .inl 5] = true ∧ ([] : List mV).length ≤ 8) (as := [.inr a0, .inl 5]) (rr := []) c_140 c_106 rfl).trans (t_i (t_cI ?_) rfl)
  intro v_2 M_1
  exact ev_gd (v_2 = 0 ∨ v_2 = 1) c_140 rfl
/- 141: GranuleHallModel.bare(IIIZ)I -/
set_option maxRecDepth 20000 in
theorem e_141_0 (a0 : Nat) (i1 : Int32) (i2 : Int32) (i3 : Int32) (i4 : Int32) (M : mM) : ev 141 0 [some (.inr a0), some (.inl i1), some (.inl i2), some (.inl i3), some (.inl i4), none] [] M = if (a_rec M 8 [.inr a0, .inl i1] = true ∧ ([] : List mV).length ≤ 8) then (c_I (ev 107 0 [some (.inr a0), some (.inl i1)] [] M) fun v_2 M_1 => if v_2 = 0 then (ev 141 9 [some (.inr a0), some (.inl i1), some (.inl i2), some (.inl i3), some (.inl i4), none] [] M_1) else (if (a_rec M_1 8 [.inr a0, .inl i2, .inl i3] = true ∧ ([] : List mV).length ≤ 8) then (c_I (ev 139 0 [some (.inr a0), some (.inl i2), some (.inl i3)] [] M_1) fun v_4 M_3 => if v_4 = 0 then (ev 141 9 [some (.inr a0), some (.inl i1), some (.inl i2), some (.inl i3), some (.inl i4), none] [] M_3) else (if (a_rec M_3 8 [.inr a0, .inl i1, .inl 2] = true ∧ ([] : List mV).length ≤ 8) then (c_I (ev 108 0 [some (.inr a0), some (.inl i1), some (.inl 2)] [] M_3) fun v_6 M_5 => if v_6 = 0 then (if (a_rec M_5 8 [.inr a0, .inl 2] = true ∧ ([] : List mV).length ≤ 8) then (c_I (ev 105 0 [some (.inr a0), some (.inl 2)] [] M_5) fun v_8 M_7 => some (some (.inl v_8), M_7)) else none) else (if (a_rec M_5 8 [.inr a0, .inl i1, .inl i2, .inl (i3 - 1)] = true ∧ ([] : List mV).length ≤ 8) then (c_I (ev 118 0 [some (.inr a0), some (.inl i1), some (.inl i2), some (.inl (i3 - 1)), none, none] [] M_5) fun v_10 M_9 => if (a_rec M_9 8 [.inr a0, .inl v_10] = true ∧ ([] : List mV).length ≤ 8) then (c_I (ev 120 0 [some (.inr a0), some (.inl v_10)] [] M_9) fun v_12 M_11 => if v_12 = (i3 - 1) then (if h_k M_11 a0 = 8 then (if (h_k M_11 (h_r M_11 a0 14) = 9 ∨ h_k M_11 (h_r M_11 a0 14) = 14) ∧ h_in v_10 (h_l M_11 (h_r M_11 a0 14)) then (if (h_i M_11 (h_r M_11 a0 14) (v_10).toNatClampNeg) = 2 then (if h_k M_11 a0 = 8 then (if (h_k M_11 (h_r M_11 a0 15) = 9 ∨ h_k M_11 (h_r M_11 a0 15) = 14) ∧ h_in v_10 (h_l M_11 (h_r M_11 a0 15)) then (if (a_rec M_11 8 [.inr a0, .inl (h_i M_11 (h_r M_11 a0 15) (v_10).toNatClampNeg)] = true ∧ ([] : List mV).length ≤ 8) then (c_I (ev 125 0 [some (.inr a0), some (.inl (h_i M_11 (h_r M_11 a0 15) (v_10).toNatClampNeg)), none] [] M_11) fun v_14 M_13 => if v_14 = 0 then (ev 141 59 [some (.inr a0), some (.inl i1), some (.inl i2), some (.inl i3), some (.inl i4), some (.inl v_10)] [] M_13) else (if i4 = 0 then (ev 141 63 [some (.inr a0), some (.inl i1), some (.inl i2), some (.inl i3), some (.inl i4), some (.inl v_10)] [] M_13) else (if h_k M_13 a0 = 8 then (if (h_k M_13 (h_r M_13 a0 15) = 9 ∨ h_k M_13 (h_r M_13 a0 15) = 14) ∧ h_in v_10 (h_l M_13 (h_r M_13 a0 15)) then (if (a_rec M_13 8 [.inr a0, .inl (h_i M_13 (h_r M_13 a0 15) (v_10).toNatClampNeg)] = true ∧ ([] : List mV).length ≤ 8) then (c_I (ev 126 0 [some (.inr a0), some (.inl (h_i M_13 (h_r M_13 a0 15) (v_10).toNatClampNeg)), none] [] M_13) fun v_16 M_15 => if v_16 = 0 then (ev 141 59 [some (.inr a0), some (.inl i1), some (.inl i2), some (.inl i3), some (.inl i4), some (.inl v_10)] [] M_15) else (ev 141 63 [some (.inr a0), some (.inl i1), some (.inl i2), some (.inl i3), some (.inl i4), some (.inl v_10)] [] M_15)) else none) else none) else none))) else none) else none) else none) else (ev 141 59 [some (.inr a0), some (.inl i1), some (.inl i2), some (.inl i3), some (.inl i4), some (.inl v_10)] [] M_11)) else none) else none) else (ev 141 59 [some (.inr a0), some (.inl i1), some (.inl i2), some (.inl i3), some (.inl i4), some (.inl v_10)] [] M_11)) else none) else none)) else none)) else none)) else none := by
  refine (ev_ns c_141 2 (ip' := 2) (ls' := [some (.inr a0), some (.inl i1), some (.inl i2), some (.inl i3), some (.inl i4), none]) (st' := [.inl i1, .inr a0]) (M' := M) rfl).trans ?_
  refine (ev_gI (a_rec M 8 [.inr a0, .inl i1] = true ∧ ([] : List mV).length ≤ 8) (as := [.inr a0, .inl i1]) (rr := []) c_141 c_107 rfl).trans (t_i (t_cI ?_) rfl)
  intro v_2 M_1
  refine (ev_i (v_2 = 0) (i1 := 9) (l1 := [some (.inr a0), some (.inl i1), some (.inl i2), some (.inl i3), some (.inl i4), none]) (s1 := []) (M1 := M_1) (i2 := 4) (l2 := [some (.inr a0), some (.inl i1), some (.inl i2), some (.inl i3), some (.inl i4), none]) (s2 := []) (M2 := M_1) c_141 rfl).trans (t_i ?_ ?_)
  · skip
    exact rfl
  · skip
    refine (ev_ns c_141 3 (ip' := 7) (ls' := [some (.inr a0), some (.inl i1), some (.inl i2), some (.inl i3), some (.inl i4), none]) (st' := [.inl i3, .inl i2, .inr a0]) (M' := M_1) rfl).trans ?_
    refine (ev_gI (a_rec M_1 8 [.inr a0, .inl i2, .inl i3] = true ∧ ([] : List mV).length ≤ 8) (as := [.inr a0, .inl i2, .inl i3]) (rr := []) c_141 c_139 rfl).trans (t_i (t_cI ?_) rfl)
    intro v_4 M_3
    refine (ev_i (v_4 = 0) (i1 := 9) (l1 := [some (.inr a0), some (.inl i1), some (.inl i2), some (.inl i3), some (.inl i4), none]) (s1 := []) (M1 := M_3) (i2 := 13) (l2 := [some (.inr a0), some (.inl i1), some (.inl i2), some (.inl i3), some (.inl i4), none]) (s2 := []) (M2 := M_3) c_141 rfl).trans (t_i ?_ ?_)
    · skip
      exact rfl
    · skip
      refine (ev_ns c_141 3 (ip' := 16) (ls' := [some (.inr a0), some (.inl i1), some (.inl i2), some (.inl i3), some (.inl i4), none]) (st' := [.inl 2, .inl i1, .inr a0]) (M' := M_3) rfl).trans ?_
      refine (ev_gI (a_rec M_3 8 [.inr a0, .inl i1, .inl 2] = true ∧ ([] : List mV).length ≤ 8) (as := [.inr a0, .inl i1, .inl 2]) (rr := []) c_141 c_108 rfl).trans (t_i (t_cI ?_) rfl)
      intro v_6 M_5
      refine (ev_i (v_6 = 0) (i1 := 18) (l1 := [some (.inr a0), some (.inl i1), some (.inl i2), some (.inl i3), some (.inl i4), none]) (s1 := []) (M1 := M_5) (i2 := 22) (l2 := [some (.inr a0), some (.inl i1), some (.inl i2), some (.inl i3), some (.inl i4), none]) (s2 := []) (M2 := M_5) c_141 rfl).trans (t_i ?_ ?_)
      · skip
        refine (ev_ns c_141 2 (ip' := 20) (ls' := [some (.inr a0), some (.inl i1), some (.inl i2), some (.inl i3), some (.inl i4), none]) (st' := [.inl 2, .inr a0]) (M' := M_5) rfl).trans ?_
        refine (ev_gI (a_rec M_5 8 [.inr a0, .inl 2] = true ∧ ([] : List mV).length ≤ 8) (as := [.inr a0, .inl 2]) (rr := []) c_141 c_105 rfl).trans (t_i (t_cI ?_) rfl)
        intro v_8 M_7
        exact ev_d c_141 rfl
      · skip
        refine (ev_ns c_141 6 (ip' := 28) (ls' := [some (.inr a0), some (.inl i1), some (.inl i2), some (.inl i3), some (.inl i4), none]) (st' := [.inl (i3 - 1), .inl i2, .inl i1, .inr a0]) (M' := M_5) rfl).trans ?_
        refine (ev_gI (a_rec M_5 8 [.inr a0, .inl i1, .inl i2, .inl (i3 - 1)] = true ∧ ([] : List mV).length ≤ 8) (as := [.inr a0, .inl i1, .inl i2, .inl (i3 - 1)]) (rr := []) c_141 c_118 rfl).trans (t_i (t_cI ?_) rfl)
        intro v_10 M_9
        refine (ev_ns c_141 3 (ip' := 32) (ls' := [some (.inr a0), some (.inl i1), some (.inl i2), some (.inl i3), some (.inl i4), some (.inl v_10)]) (st' := [.inl v_10, .inr a0]) (M' := M_9) rfl).trans ?_
        refine (ev_gI (a_rec M_9 8 [.inr a0, .inl v_10] = true ∧ ([] : List mV).length ≤ 8) (as := [.inr a0, .inl v_10]) (rr := []) c_141 c_120 rfl).trans (t_i (t_cI ?_) rfl)
        intro v_12 M_11
        refine (ev_ns c_141 3 (ip' := 36) (ls' := [some (.inr a0), some (.inl i1), some (.inl i2), some (.inl i3), some (.inl i4), some (.inl v_10)]) (st' := [.inl (i3 - 1), .inl v_12]) (M' := M_11) rfl).trans ?_
        refine (ev_i (v_12 = (i3 - 1)) (i1 := 37) (l1 := [some (.inr a0), some (.inl i1), some (.inl i2), some (.inl i3), some (.inl i4), some (.inl v_10)]) (s1 := []) (M1 := M_11) (i2 := 59) (l2 := [some (.inr a0), some (.inl i1), some (.inl i2), some (.inl i3), some (.inl i4), some (.inl v_10)]) (s2 := []) (M2 := M_11) c_141 rfl).trans (t_i ?_ ?_)
        · skip
          refine (ev_ns c_141 1 (ip' := 38) (ls' := [some (.inr a0), some (.inl i1), some (.inl i2), some (.inl i3), some (.inl i4), some (.inl v_10)]) (st' := [.inr a0]) (M' := M_11) rfl).trans ?_
          refine (ev_g (h_k M_11 a0 = 8) (ip' := 39) (ls' := [some (.inr a0), some (.inl i1), some (.inl i2), some (.inl i3), some (.inl i4), some (.inl v_10)]) (st' := [.inr (h_r M_11 a0 14)]) (M' := M_11) c_141 rfl).trans (t_i ?_ rfl)
          refine (ev_ns c_141 1 (ip' := 40) (ls' := [some (.inr a0), some (.inl i1), some (.inl i2), some (.inl i3), some (.inl i4), some (.inl v_10)]) (st' := [.inl v_10, .inr (h_r M_11 a0 14)]) (M' := M_11) rfl).trans ?_
          refine (ev_g ((h_k M_11 (h_r M_11 a0 14) = 9 ∨ h_k M_11 (h_r M_11 a0 14) = 14) ∧ h_in v_10 (h_l M_11 (h_r M_11 a0 14))) (ip' := 41) (ls' := [some (.inr a0), some (.inl i1), some (.inl i2), some (.inl i3), some (.inl i4), some (.inl v_10)]) (st' := [.inl (h_i M_11 (h_r M_11 a0 14) (v_10).toNatClampNeg)]) (M' := M_11) c_141 rfl).trans (t_i ?_ rfl)
          refine (ev_ns c_141 1 (ip' := 42) (ls' := [some (.inr a0), some (.inl i1), some (.inl i2), some (.inl i3), some (.inl i4), some (.inl v_10)]) (st' := [.inl 2, .inl (h_i M_11 (h_r M_11 a0 14) (v_10).toNatClampNeg)]) (M' := M_11) rfl).trans ?_
          refine (ev_i ((h_i M_11 (h_r M_11 a0 14) (v_10).toNatClampNeg) = 2) (i1 := 43) (l1 := [some (.inr a0), some (.inl i1), some (.inl i2), some (.inl i3), some (.inl i4), some (.inl v_10)]) (s1 := []) (M1 := M_11) (i2 := 59) (l2 := [some (.inr a0), some (.inl i1), some (.inl i2), some (.inl i3), some (.inl i4), some (.inl v_10)]) (s2 := []) (M2 := M_11) c_141 rfl).trans (t_i ?_ ?_)
          · skip
            refine (ev_ns c_141 2 (ip' := 45) (ls' := [some (.inr a0), some (.inl i1), some (.inl i2), some (.inl i3), some (.inl i4), some (.inl v_10)]) (st' := [.inr a0, .inr a0]) (M' := M_11) rfl).trans ?_
            refine (ev_g (h_k M_11 a0 = 8) (ip' := 46) (ls' := [some (.inr a0), some (.inl i1), some (.inl i2), some (.inl i3), some (.inl i4), some (.inl v_10)]) (st' := [.inr (h_r M_11 a0 15), .inr a0]) (M' := M_11) c_141 rfl).trans (t_i ?_ rfl)
            refine (ev_ns c_141 1 (ip' := 47) (ls' := [some (.inr a0), some (.inl i1), some (.inl i2), some (.inl i3), some (.inl i4), some (.inl v_10)]) (st' := [.inl v_10, .inr (h_r M_11 a0 15), .inr a0]) (M' := M_11) rfl).trans ?_
            refine (ev_g ((h_k M_11 (h_r M_11 a0 15) = 9 ∨ h_k M_11 (h_r M_11 a0 15) = 14) ∧ h_in v_10 (h_l M_11 (h_r M_11 a0 15))) (ip' := 48) (ls' := [some (.inr a0), some (.inl i1), some (.inl i2), some (.inl i3), some (.inl i4), some (.inl v_10)]) (st' := [.inl (h_i M_11 (h_r M_11 a0 15) (v_10).toNatClampNeg), .inr a0]) (M' := M_11) c_141 rfl).trans (t_i ?_ rfl)
            refine (ev_gI (a_rec M_11 8 [.inr a0, .inl (h_i M_11 (h_r M_11 a0 15) (v_10).toNatClampNeg)] = true ∧ ([] : List mV).length ≤ 8) (as := [.inr a0, .inl (h_i M_11 (h_r M_11 a0 15) (v_10).toNatClampNeg)]) (rr := []) c_141 c_125 rfl).trans (t_i (t_cI ?_) rfl)
            intro v_14 M_13
            refine (ev_i (v_14 = 0) (i1 := 59) (l1 := [some (.inr a0), some (.inl i1), some (.inl i2), some (.inl i3), some (.inl i4), some (.inl v_10)]) (s1 := []) (M1 := M_13) (i2 := 50) (l2 := [some (.inr a0), some (.inl i1), some (.inl i2), some (.inl i3), some (.inl i4), some (.inl v_10)]) (s2 := []) (M2 := M_13) c_141 rfl).trans (t_i ?_ ?_)
            · skip
              exact rfl
            · skip
              refine (ev_ns c_141 1 (ip' := 51) (ls' := [some (.inr a0), some (.inl i1), some (.inl i2), some (.inl i3), some (.inl i4), some (.inl v_10)]) (st' := [.inl i4]) (M' := M_13) rfl).trans ?_
              refine (ev_i (i4 = 0) (i1 := 63) (l1 := [some (.inr a0), some (.inl i1), some (.inl i2), some (.inl i3), some (.inl i4), some (.inl v_10)]) (s1 := []) (M1 := M_13) (i2 := 52) (l2 := [some (.inr a0), some (.inl i1), some (.inl i2), some (.inl i3), some (.inl i4), some (.inl v_10)]) (s2 := []) (M2 := M_13) c_141 rfl).trans (t_i ?_ ?_)
              · skip
                exact rfl
              · skip
                refine (ev_ns c_141 2 (ip' := 54) (ls' := [some (.inr a0), some (.inl i1), some (.inl i2), some (.inl i3), some (.inl i4), some (.inl v_10)]) (st' := [.inr a0, .inr a0]) (M' := M_13) rfl).trans ?_
                refine (ev_g (h_k M_13 a0 = 8) (ip' := 55) (ls' := [some (.inr a0), some (.inl i1), some (.inl i2), some (.inl i3), some (.inl i4), some (.inl v_10)]) (st' := [.inr (h_r M_13 a0 15), .inr a0]) (M' := M_13) c_141 rfl).trans (t_i ?_ rfl)
                refine (ev_ns c_141 1 (ip' := 56) (ls' := [some (.inr a0), some (.inl i1), some (.inl i2), some (.inl i3), some (.inl i4), some (.inl v_10)]) (st' := [.inl v_10, .inr (h_r M_13 a0 15), .inr a0]) (M' := M_13) rfl).trans ?_
                refine (ev_g ((h_k M_13 (h_r M_13 a0 15) = 9 ∨ h_k M_13 (h_r M_13 a0 15) = 14) ∧ h_in v_10 (h_l M_13 (h_r M_13 a0 15))) (ip' := 57) (ls' := [some (.inr a0), some (.inl i1), some (.inl i2), some (.inl i3), some (.inl i4), some (.inl v_10)]) (st' := [.inl (h_i M_13 (h_r M_13 a0 15) (v_10).toNatClampNeg), .inr a0]) (M' := M_13) c_141 rfl).trans (t_i ?_ rfl)
                refine (ev_gI (a_rec M_13 8 [.inr a0, .inl (h_i M_13 (h_r M_13 a0 15) (v_10).toNatClampNeg)] = true ∧ ([] : List mV).length ≤ 8) (as := [.inr a0, .inl (h_i M_13 (h_r M_13 a0 15) (v_10).toNatClampNeg)]) (rr := []) c_141 c_126 rfl).trans (t_i (t_cI ?_) rfl)
                intro v_16 M_15
                refine (ev_i (v_16 = 0) (i1 := 59) (l1 := [some (.inr a0), some (.inl i1), some (.inl i2), some (.inl i3), some (.inl i4), some (.inl v_10)]) (s1 := []) (M1 := M_15) (i2 := 63) (l2 := [some (.inr a0), some (.inl i1), some (.inl i2), some (.inl i3), some (.inl i4), some (.inl v_10)]) (s2 := []) (M2 := M_15) c_141 rfl).trans (t_i ?_ ?_)
                · skip
                  exact rfl
                · skip
                  exact rfl
          · skip
            exact rfl
        · skip
          exact rfl
set_option maxRecDepth 20000 in
theorem e_141_9 (a0 : Nat) (i1 : Int32) (i2 : Int32) (i3 : Int32) (i4 : Int32) (M : mM) : ev 141 9 [some (.inr a0), some (.inl i1), some (.inl i2), some (.inl i3), some (.inl i4), none] [] M = if (a_rec M 8 [.inr a0, .inl 1] = true ∧ ([] : List mV).length ≤ 8) then (c_I (ev 105 0 [some (.inr a0), some (.inl 1)] [] M) fun v_2 M_1 => some (some (.inl v_2), M_1)) else none := by
  refine (ev_ns c_141 2 (ip' := 11) (ls' := [some (.inr a0), some (.inl i1), some (.inl i2), some (.inl i3), some (.inl i4), none]) (st' := [.inl 1, .inr a0]) (M' := M) rfl).trans ?_
  refine (ev_gI (a_rec M 8 [.inr a0, .inl 1] = true ∧ ([] : List mV).length ≤ 8) (as := [.inr a0, .inl 1]) (rr := []) c_141 c_105 rfl).trans (t_i (t_cI ?_) rfl)
  intro v_2 M_1
  exact ev_d c_141 rfl
set_option maxRecDepth 20000 in
theorem e_141_59 (a0 : Nat) (i1 : Int32) (i2 : Int32) (i3 : Int32) (i4 : Int32) (i5 : Int32) (M : mM) : ev 141 59 [some (.inr a0), some (.inl i1), some (.inl i2), some (.inl i3), some (.inl i4), some (.inl i5)] [] M = if (a_rec M 8 [.inr a0, .inl 5] = true ∧ ([] : List mV).length ≤ 8) then (c_I (ev 105 0 [some (.inr a0), some (.inl 5)] [] M) fun v_2 M_1 => some (some (.inl v_2), M_1)) else none := by
  refine (ev_ns c_141 2 (ip' := 61) (ls' := [some (.inr a0), some (.inl i1), some (.inl i2), some (.inl i3), some (.inl i4), some (.inl i5)]) (st' := [.inl 5, .inr a0]) (M' := M) rfl).trans ?_
  refine (ev_gI (a_rec M 8 [.inr a0, .inl 5] = true ∧ ([] : List mV).length ≤ 8) (as := [.inr a0, .inl 5]) (rr := []) c_141 c_105 rfl).trans (t_i (t_cI ?_) rfl)
  intro v_2 M_1
  exact ev_d c_141 rfl
set_option maxRecDepth 20000 in
theorem e_141_63 (a0 : Nat) (i1 : Int32) (i2 : Int32) (i3 : Int32) (i4 : Int32) (i5 : Int32) (M : mM) : ev 141 63 [some (.inr a0), some (.inl i1), some (.inl i2), some (.inl i3), some (.inl i4), some (.inl i5)] [] M = some (some (.inl i5), M) := by
  refine (ev_ns c_141 1 (ip' := 64) (ls' := [some (.inr a0), some (.inl i1), some (.inl i2), some (.inl i3), some (.inl i4), some (.inl i5)]) (st' := [.inl i5]) (M' := M) rfl).trans ?_
  exact ev_d c_141 rfl
/- 142: GranuleHallModel.drops(II)Z -/
set_option maxRecDepth 20000 in
theorem e_142_0 (a0 : Nat) (i1 : Int32) (i2 : Int32) (M : mM) : ev 142 0 [some (.inr a0), some (.inl i1), some (.inl i2)] [] M = if h_k M a0 = 8 then (if (h_k M (h_r M a0 15) = 9 ∨ h_k M (h_r M a0 15) = 14) ∧ h_in i1 (h_l M (h_r M a0 15)) then (if (a_rec M 8 [.inr a0, .inl (h_i M (h_r M a0 15) (i1).toNatClampNeg), .inl 1, .inl (-1)] = true ∧ ([] : List mV).length ≤ 8) then (c_V (ev 109 0 [some (.inr a0), some (.inl (h_i M (h_r M a0 15) (i1).toNatClampNeg)), some (.inl 1), some (.inl (-1)), none] [] M) fun M_1 => if h_k M_1 a0 = 8 then (if h_k M_1 (h_r M_1 a0 14) = 9 ∧ h_in i1 (h_l M_1 (h_r M_1 a0 14)) then (if h_k (h_si M_1 (h_r M_1 a0 14) (i1).toNatClampNeg 0) a0 = 8 then (if h_k (h_si M_1 (h_r M_1 a0 14) (i1).toNatClampNeg 0) (h_r (h_si M_1 (h_r M_1 a0 14) (i1).toNatClampNeg 0) a0 15) = 9 ∧ h_in i1 (h_l (h_si M_1 (h_r M_1 a0 14) (i1).toNatClampNeg 0) (h_r (h_si M_1 (h_r M_1 a0 14) (i1).toNatClampNeg 0) a0 15)) then (if h_k (h_si (h_si M_1 (h_r M_1 a0 14) (i1).toNatClampNeg 0) (h_r (h_si M_1 (h_r M_1 a0 14) (i1).toNatClampNeg 0) a0 15) (i1).toNatClampNeg (-1)) a0 = 8 then (if h_k (h_si (h_si M_1 (h_r M_1 a0 14) (i1).toNatClampNeg 0) (h_r (h_si M_1 (h_r M_1 a0 14) (i1).toNatClampNeg 0) a0 15) (i1).toNatClampNeg (-1)) (h_r (h_si (h_si M_1 (h_r M_1 a0 14) (i1).toNatClampNeg 0) (h_r (h_si M_1 (h_r M_1 a0 14) (i1).toNatClampNeg 0) a0 15) (i1).toNatClampNeg (-1)) a0 16) = 9 ∧ h_in i1 (h_l (h_si (h_si M_1 (h_r M_1 a0 14) (i1).toNatClampNeg 0) (h_r (h_si M_1 (h_r M_1 a0 14) (i1).toNatClampNeg 0) a0 15) (i1).toNatClampNeg (-1)) (h_r (h_si (h_si M_1 (h_r M_1 a0 14) (i1).toNatClampNeg 0) (h_r (h_si M_1 (h_r M_1 a0 14) (i1).toNatClampNeg 0) a0 15) (i1).toNatClampNeg (-1)) a0 16)) then (if (a_rec (h_si (h_si (h_si M_1 (h_r M_1 a0 14) (i1).toNatClampNeg 0) (h_r (h_si M_1 (h_r M_1 a0 14) (i1).toNatClampNeg 0) a0 15) (i1).toNatClampNeg (-1)) (h_r (h_si (h_si M_1 (h_r M_1 a0 14) (i1).toNatClampNeg 0) (h_r (h_si M_1 (h_r M_1 a0 14) (i1).toNatClampNeg 0) a0 15) (i1).toNatClampNeg (-1)) a0 16) (i1).toNatClampNeg i2) 8 [.inr a0, .inl 0] = true ∧ ([] : List mV).length ≤ 8) then (c_I (ev 106 0 [some (.inr a0), some (.inl 0)] [] (h_si (h_si (h_si M_1 (h_r M_1 a0 14) (i1).toNatClampNeg 0) (h_r (h_si M_1 (h_r M_1 a0 14) (i1).toNatClampNeg 0) a0 15) (i1).toNatClampNeg (-1)) (h_r (h_si (h_si M_1 (h_r M_1 a0 14) (i1).toNatClampNeg 0) (h_r (h_si M_1 (h_r M_1 a0 14) (i1).toNatClampNeg 0) a0 15) (i1).toNatClampNeg (-1)) a0 16) (i1).toNatClampNeg i2)) fun v_3 M_2 => if v_3 = 0 ∨ v_3 = 1 then some (some (.inl v_3), M_2) else none) else none) else none) else none) else none) else none) else none) else none) else none) else none) else none := by
  refine (ev_ns c_142 2 (ip' := 2) (ls' := [some (.inr a0), some (.inl i1), some (.inl i2)]) (st' := [.inr a0, .inr a0]) (M' := M) rfl).trans ?_
  refine (ev_g (h_k M a0 = 8) (ip' := 3) (ls' := [some (.inr a0), some (.inl i1), some (.inl i2)]) (st' := [.inr (h_r M a0 15), .inr a0]) (M' := M) c_142 rfl).trans (t_i ?_ rfl)
  refine (ev_ns c_142 1 (ip' := 4) (ls' := [some (.inr a0), some (.inl i1), some (.inl i2)]) (st' := [.inl i1, .inr (h_r M a0 15), .inr a0]) (M' := M) rfl).trans ?_
  refine (ev_g ((h_k M (h_r M a0 15) = 9 ∨ h_k M (h_r M a0 15) = 14) ∧ h_in i1 (h_l M (h_r M a0 15))) (ip' := 5) (ls' := [some (.inr a0), some (.inl i1), some (.inl i2)]) (st' := [.inl (h_i M (h_r M a0 15) (i1).toNatClampNeg), .inr a0]) (M' := M) c_142 rfl).trans (t_i ?_ rfl)
  refine (ev_ns c_142 2 (ip' := 7) (ls' := [some (.inr a0), some (.inl i1), some (.inl i2)]) (st' := [.inl (-1), .inl 1, .inl (h_i M (h_r M a0 15) (i1).toNatClampNeg), .inr a0]) (M' := M) rfl).trans ?_
  refine (ev_gV (a_rec M 8 [.inr a0, .inl (h_i M (h_r M a0 15) (i1).toNatClampNeg), .inl 1, .inl (-1)] = true ∧ ([] : List mV).length ≤ 8) (as := [.inr a0, .inl (h_i M (h_r M a0 15) (i1).toNatClampNeg), .inl 1, .inl (-1)]) (rr := []) c_142 c_109 rfl).trans (t_i (t_cV ?_) rfl)
  intro M_1
  refine (ev_ns c_142 1 (ip' := 9) (ls' := [some (.inr a0), some (.inl i1), some (.inl i2)]) (st' := [.inr a0]) (M' := M_1) rfl).trans ?_
  refine (ev_g (h_k M_1 a0 = 8) (ip' := 10) (ls' := [some (.inr a0), some (.inl i1), some (.inl i2)]) (st' := [.inr (h_r M_1 a0 14)]) (M' := M_1) c_142 rfl).trans (t_i ?_ rfl)
  refine (ev_ns c_142 2 (ip' := 12) (ls' := [some (.inr a0), some (.inl i1), some (.inl i2)]) (st' := [.inl 0, .inl i1, .inr (h_r M_1 a0 14)]) (M' := M_1) rfl).trans ?_
  refine (ev_g (h_k M_1 (h_r M_1 a0 14) = 9 ∧ h_in i1 (h_l M_1 (h_r M_1 a0 14))) (ip' := 13) (ls' := [some (.inr a0), some (.inl i1), some (.inl i2)]) (st' := []) (M' := h_si M_1 (h_r M_1 a0 14) (i1).toNatClampNeg 0) c_142 rfl).trans (t_i ?_ rfl)
  refine (ev_ns c_142 1 (ip' := 14) (ls' := [some (.inr a0), some (.inl i1), some (.inl i2)]) (st' := [.inr a0]) (M' := h_si M_1 (h_r M_1 a0 14) (i1).toNatClampNeg 0) rfl).trans ?_
  refine (ev_g (h_k (h_si M_1 (h_r M_1 a0 14) (i1).toNatClampNeg 0) a0 = 8) (ip' := 15) (ls' := [some (.inr a0), some (.inl i1), some (.inl i2)]) (st' := [.inr (h_r (h_si M_1 (h_r M_1 a0 14) (i1).toNatClampNeg 0) a0 15)]) (M' := h_si M_1 (h_r M_1 a0 14) (i1).toNatClampNeg 0) c_142 rfl).trans (t_i ?_ rfl)
  refine (ev_ns c_142 2 (ip' := 17) (ls' := [some (.inr a0), some (.inl i1), some (.inl i2)]) (st' := [.inl (-1), .inl i1, .inr (h_r (h_si M_1 (h_r M_1 a0 14) (i1).toNatClampNeg 0) a0 15)]) (M' := h_si M_1 (h_r M_1 a0 14) (i1).toNatClampNeg 0) rfl).trans ?_
  refine (ev_g (h_k (h_si M_1 (h_r M_1 a0 14) (i1).toNatClampNeg 0) (h_r (h_si M_1 (h_r M_1 a0 14) (i1).toNatClampNeg 0) a0 15) = 9 ∧ h_in i1 (h_l (h_si M_1 (h_r M_1 a0 14) (i1).toNatClampNeg 0) (h_r (h_si M_1 (h_r M_1 a0 14) (i1).toNatClampNeg 0) a0 15))) (ip' := 18) (ls' := [some (.inr a0), some (.inl i1), some (.inl i2)]) (st' := []) (M' := h_si (h_si M_1 (h_r M_1 a0 14) (i1).toNatClampNeg 0) (h_r (h_si M_1 (h_r M_1 a0 14) (i1).toNatClampNeg 0) a0 15) (i1).toNatClampNeg (-1)) c_142 rfl).trans (t_i ?_ rfl)
  refine (ev_ns c_142 1 (ip' := 19) (ls' := [some (.inr a0), some (.inl i1), some (.inl i2)]) (st' := [.inr a0]) (M' := h_si (h_si M_1 (h_r M_1 a0 14) (i1).toNatClampNeg 0) (h_r (h_si M_1 (h_r M_1 a0 14) (i1).toNatClampNeg 0) a0 15) (i1).toNatClampNeg (-1)) rfl).trans ?_
  refine (ev_g (h_k (h_si (h_si M_1 (h_r M_1 a0 14) (i1).toNatClampNeg 0) (h_r (h_si M_1 (h_r M_1 a0 14) (i1).toNatClampNeg 0) a0 15) (i1).toNatClampNeg (-1)) a0 = 8) (ip' := 20) (ls' := [some (.inr a0), some (.inl i1), some (.inl i2)]) (st' := [.inr (h_r (h_si (h_si M_1 (h_r M_1 a0 14) (i1).toNatClampNeg 0) (h_r (h_si M_1 (h_r M_1 a0 14) (i1).toNatClampNeg 0) a0 15) (i1).toNatClampNeg (-1)) a0 16)]) (M' := h_si (h_si M_1 (h_r M_1 a0 14) (i1).toNatClampNeg 0) (h_r (h_si M_1 (h_r M_1 a0 14) (i1).toNatClampNeg 0) a0 15) (i1).toNatClampNeg (-1)) c_142 rfl).trans (t_i ?_ rfl)
  refine (ev_ns c_142 2 (ip' := 22) (ls' := [some (.inr a0), some (.inl i1), some (.inl i2)]) (st' := [.inl i2, .inl i1, .inr (h_r (h_si (h_si M_1 (h_r M_1 a0 14) (i1).toNatClampNeg 0) (h_r (h_si M_1 (h_r M_1 a0 14) (i1).toNatClampNeg 0) a0 15) (i1).toNatClampNeg (-1)) a0 16)]) (M' := h_si (h_si M_1 (h_r M_1 a0 14) (i1).toNatClampNeg 0) (h_r (h_si M_1 (h_r M_1 a0 14) (i1).toNatClampNeg 0) a0 15) (i1).toNatClampNeg (-1)) rfl).trans ?_
  refine (ev_g (h_k (h_si (h_si M_1 (h_r M_1 a0 14) (i1).toNatClampNeg 0) (h_r (h_si M_1 (h_r M_1 a0 14) (i1).toNatClampNeg 0) a0 15) (i1).toNatClampNeg (-1)) (h_r (h_si (h_si M_1 (h_r M_1 a0 14) (i1).toNatClampNeg 0) (h_r (h_si M_1 (h_r M_1 a0 14) (i1).toNatClampNeg 0) a0 15) (i1).toNatClampNeg (-1)) a0 16) = 9 ∧ h_in i1 (h_l (h_si (h_si M_1 (h_r M_1 a0 14) (i1).toNatClampNeg 0) (h_r (h_si M_1 (h_r M_1 a0 14) (i1).toNatClampNeg 0) a0 15) (i1).toNatClampNeg (-1)) (h_r (h_si (h_si M_1 (h_r M_1 a0 14) (i1).toNatClampNeg 0) (h_r (h_si M_1 (h_r M_1 a0 14) (i1).toNatClampNeg 0) a0 15) (i1).toNatClampNeg (-1)) a0 16))) (ip' := 23) (ls' := [some (.inr a0), some (.inl i1), some (.inl i2)]) (st' := []) (M' := h_si (h_si (h_si M_1 (h_r M_1 a0 14) (i1).toNatClampNeg 0) (h_r (h_si M_1 (h_r M_1 a0 14) (i1).toNatClampNeg 0) a0 15) (i1).toNatClampNeg (-1)) (h_r (h_si (h_si M_1 (h_r M_1 a0 14) (i1).toNatClampNeg 0) (h_r (h_si M_1 (h_r M_1 a0 14) (i1).toNatClampNeg 0) a0 15) (i1).toNatClampNeg (-1)) a0 16) (i1).toNatClampNeg i2) c_142 rfl).trans (t_i ?_ rfl)
  refine (ev_ns c_142 2 (ip' := 25) (ls' := [some (.inr a0), some (.inl i1), some (.inl i2)]) (st' := [.inl 0, .inr a0]) (M' := h_si (h_si (h_si M_1 (h_r M_1 a0 14) (i1).toNatClampNeg 0) (h_r (h_si M_1 (h_r M_1 a0 14) (i1).toNatClampNeg 0) a0 15) (i1).toNatClampNeg (-1)) (h_r (h_si (h_si M_1 (h_r M_1 a0 14) (i1).toNatClampNeg 0) (h_r (h_si M_1 (h_r M_1 a0 14) (i1).toNatClampNeg 0) a0 15) (i1).toNatClampNeg (-1)) a0 16) (i1).toNatClampNeg i2) rfl).trans ?_
  refine (ev_gI (a_rec (h_si (h_si (h_si M_1 (h_r M_1 a0 14) (i1).toNatClampNeg 0) (h_r (h_si M_1 (h_r M_1 a0 14) (i1).toNatClampNeg 0) a0 15) (i1).toNatClampNeg (-1)) (h_r (h_si (h_si M_1 (h_r M_1 a0 14) (i1).toNatClampNeg 0) (h_r (h_si M_1 (h_r M_1 a0 14) (i1).toNatClampNeg 0) a0 15) (i1).toNatClampNeg (-1)) a0 16) (i1).toNatClampNeg i2) 8 [.inr a0, .inl 0] = true ∧ ([] : List mV).length ≤ 8) (as := [.inr a0, .inl 0]) (rr := []) c_142 c_106 rfl).trans (t_i (t_cI ?_) rfl)
  intro v_3 M_2
  exact ev_gd (v_3 = 0 ∨ v_3 = 1) c_142 rfl
/- 143: GranuleHallModel.untable(III)Z -/
set_option maxRecDepth 20000 in
theorem e_143_0 (a0 : Nat) (i1 : Int32) (i2 : Int32) (i3 : Int32) (M : mM) : ev 143 0 [some (.inr a0), some (.inl i1), some (.inl i2), some (.inl i3), none] [] M = if (a_rec M 8 [.inr a0, .inl i1, .inl i2, .inl i3, .inl 0] = true ∧ ([] : List mV).length ≤ 8) then (c_I (ev 141 0 [some (.inr a0), some (.inl i1), some (.inl i2), some (.inl i3), some (.inl 0), none] [] M) fun v_2 M_1 => if v_2 = (-1) then (ev 143 22 [some (.inr a0), some (.inl i1), some (.inl i2), some (.inl i3), some (.inl v_2)] [] M_1) else (if (a_rec M_1 0 [.inl i2] = true ∧ ([.inl v_2, .inr a0] : List mV).length ≤ 8) then (c_I (ev 123 0 [some (.inl i2)] [] M_1) fun v_4 M_3 => if v_4 = 0 then (ev 143 18 [some (.inr a0), some (.inl i1), some (.inl i2), some (.inl i3), some (.inl v_2)] [.inl 0, .inl v_2, .inr a0] M_3) else (ev 143 18 [some (.inr a0), some (.inl i1), some (.inl i2), some (.inl i3), some (.inl v_2)] [.inl 2, .inl v_2, .inr a0] M_3)) else none)) else none := by
  refine (ev_ns c_143 5 (ip' := 5) (ls' := [some (.inr a0), some (.inl i1), some (.inl i2), some (.inl i3), none]) (st' := [.inl 0, .inl i3, .inl i2, .inl i1, .inr a0]) (M' := M) rfl).trans ?_
  refine (ev_gI (a_rec M 8 [.inr a0, .inl i1, .inl i2, .inl i3, .inl 0] = true ∧ ([] : List mV).length ≤ 8) (as := [.inr a0, .inl i1, .inl i2, .inl i3, .inl 0]) (rr := []) c_143 c_141 rfl).trans (t_i (t_cI ?_) rfl)
  intro v_2 M_1
  refine (ev_ns c_143 3 (ip' := 9) (ls' := [some (.inr a0), some (.inl i1), some (.inl i2), some (.inl i3), some (.inl v_2)]) (st' := [.inl (-1), .inl v_2]) (M' := M_1) rfl).trans ?_
  refine (ev_i (v_2 = (-1)) (i1 := 22) (l1 := [some (.inr a0), some (.inl i1), some (.inl i2), some (.inl i3), some (.inl v_2)]) (s1 := []) (M1 := M_1) (i2 := 10) (l2 := [some (.inr a0), some (.inl i1), some (.inl i2), some (.inl i3), some (.inl v_2)]) (s2 := []) (M2 := M_1) c_143 rfl).trans (t_i ?_ ?_)
  · skip
    exact rfl
  · skip
    refine (ev_ns c_143 3 (ip' := 13) (ls' := [some (.inr a0), some (.inl i1), some (.inl i2), some (.inl i3), some (.inl v_2)]) (st' := [.inl i2, .inl v_2, .inr a0]) (M' := M_1) rfl).trans ?_
    refine (ev_gI (a_rec M_1 0 [.inl i2] = true ∧ ([.inl v_2, .inr a0] : List mV).length ≤ 8) (as := [.inl i2]) (rr := [.inl v_2, .inr a0]) c_143 c_123 rfl).trans (t_i (t_cI ?_) rfl)
    intro v_4 M_3
    refine (ev_i (v_4 = 0) (i1 := 17) (l1 := [some (.inr a0), some (.inl i1), some (.inl i2), some (.inl i3), some (.inl v_2)]) (s1 := [.inl v_2, .inr a0]) (M1 := M_3) (i2 := 15) (l2 := [some (.inr a0), some (.inl i1), some (.inl i2), some (.inl i3), some (.inl v_2)]) (s2 := [.inl v_2, .inr a0]) (M2 := M_3) c_143 rfl).trans (t_i ?_ ?_)
    · skip
      exact ev_ns c_143 1 (ip' := 18) (ls' := [some (.inr a0), some (.inl i1), some (.inl i2), some (.inl i3), some (.inl v_2)]) (st' := [.inl 0, .inl v_2, .inr a0]) (M' := M_3) rfl
    · skip
      exact ev_ns c_143 2 (ip' := 18) (ls' := [some (.inr a0), some (.inl i1), some (.inl i2), some (.inl i3), some (.inl v_2)]) (st' := [.inl 2, .inl v_2, .inr a0]) (M' := M_3) rfl
set_option maxRecDepth 20000 in
theorem e_143_18 (a0 : Nat) (i1 : Int32) (i2 : Int32) (i3 : Int32) (i4 : Int32) (t0 : Nat) (s1 : Int32) (s2 : Int32) (M : mM) : ev 143 18 [some (.inr a0), some (.inl i1), some (.inl i2), some (.inl i3), some (.inl i4)] [.inl s2, .inl s1, .inr t0] M = if (a_rec M 8 [.inr t0, .inl s1, .inl s2] = true ∧ ([] : List mV).length ≤ 8) then (c_I (ev 142 0 [some (.inr t0), some (.inl s1), some (.inl s2)] [] M) fun v_2 M_1 => if v_2 = 0 then (ev 143 22 [some (.inr a0), some (.inl i1), some (.inl i2), some (.inl i3), some (.inl i4)] [] M_1) else (ev 143 23 [some (.inr a0), some (.inl i1), some (.inl i2), some (.inl i3), some (.inl i4)] [.inl 1] M_1)) else none := by
  refine (ev_gI (a_rec M 8 [.inr t0, .inl s1, .inl s2] = true ∧ ([] : List mV).length ≤ 8) (as := [.inr t0, .inl s1, .inl s2]) (rr := []) c_143 c_142 rfl).trans (t_i (t_cI ?_) rfl)
  intro v_2 M_1
  refine (ev_i (v_2 = 0) (i1 := 22) (l1 := [some (.inr a0), some (.inl i1), some (.inl i2), some (.inl i3), some (.inl i4)]) (s1 := []) (M1 := M_1) (i2 := 20) (l2 := [some (.inr a0), some (.inl i1), some (.inl i2), some (.inl i3), some (.inl i4)]) (s2 := []) (M2 := M_1) c_143 rfl).trans (t_i ?_ ?_)
  · skip
    exact rfl
  · skip
    exact ev_ns c_143 2 (ip' := 23) (ls' := [some (.inr a0), some (.inl i1), some (.inl i2), some (.inl i3), some (.inl i4)]) (st' := [.inl 1]) (M' := M_1) rfl
set_option maxRecDepth 20000 in
theorem e_143_22 (a0 : Nat) (i1 : Int32) (i2 : Int32) (i3 : Int32) (i4 : Int32) (M : mM) : ev 143 22 [some (.inr a0), some (.inl i1), some (.inl i2), some (.inl i3), some (.inl i4)] [] M = ev 143 23 [some (.inr a0), some (.inl i1), some (.inl i2), some (.inl i3), some (.inl i4)] [.inl 0] M := by
  exact ev_ns c_143 1 (ip' := 23) (ls' := [some (.inr a0), some (.inl i1), some (.inl i2), some (.inl i3), some (.inl i4)]) (st' := [.inl 0]) (M' := M) rfl
set_option maxRecDepth 20000 in
theorem e_143_23 (a0 : Nat) (i1 : Int32) (i2 : Int32) (i3 : Int32) (i4 : Int32) (s0 : Int32) (M : mM) : ev 143 23 [some (.inr a0), some (.inl i1), some (.inl i2), some (.inl i3), some (.inl i4)] [.inl s0] M = if s0 = 0 ∨ s0 = 1 then some (some (.inl s0), M) else none := by
  exact ev_gd (s0 = 0 ∨ s0 = 1) c_143 rfl
/- 144: GranuleHallModel.fold(III)Z -/
set_option maxRecDepth 20000 in
theorem e_144_0 (a0 : Nat) (i1 : Int32) (i2 : Int32) (i3 : Int32) (M : mM) : ev 144 0 [some (.inr a0), some (.inl i1), some (.inl i2), some (.inl i3), none] [] M = if (a_rec M 8 [.inr a0, .inl i1, .inl i2, .inl i3, .inl 1] = true ∧ ([] : List mV).length ≤ 8) then (c_I (ev 141 0 [some (.inr a0), some (.inl i1), some (.inl i2), some (.inl i3), some (.inl 1), none] [] M) fun v_2 M_1 => if v_2 = (-1) then (ev 144 25 [some (.inr a0), some (.inl i1), some (.inl i2), some (.inl i3), some (.inl v_2)] [] M_1) else (if h_k M_1 a0 = 8 then (if h_k M_1 a0 = 8 then (if (h_k M_1 (h_r M_1 a0 15) = 9 ∨ h_k M_1 (h_r M_1 a0 15) = 14) ∧ h_in v_2 (h_l M_1 (h_r M_1 a0 15)) then (if (h_k M_1 (h_r M_1 a0 16) = 9 ∨ h_k M_1 (h_r M_1 a0 16) = 14) ∧ h_in (8 * (h_i M_1 (h_r M_1 a0 15) (v_2).toNatClampNeg)) (h_l M_1 (h_r M_1 a0 16)) then (if (a_rec M_1 8 [.inr a0, .inl v_2, .inl (h_i M_1 (h_r M_1 a0 16) ((8 * (h_i M_1 (h_r M_1 a0 15) (v_2).toNatClampNeg))).toNatClampNeg)] = true ∧ ([] : List mV).length ≤ 8) then (c_I (ev 142 0 [some (.inr a0), some (.inl v_2), some (.inl (h_i M_1 (h_r M_1 a0 16) ((8 * (h_i M_1 (h_r M_1 a0 15) (v_2).toNatClampNeg))).toNatClampNeg))] [] M_1) fun v_4 M_3 => if v_4 = 0 then (ev 144 25 [some (.inr a0), some (.inl i1), some (.inl i2), some (.inl i3), some (.inl v_2)] [] M_3) else (ev 144 26 [some (.inr a0), some (.inl i1), some (.inl i2), some (.inl i3), some (.inl v_2)] [.inl 1] M_3)) else none) else none) else none) else none) else none)) else none := by
  refine (ev_ns c_144 5 (ip' := 5) (ls' := [some (.inr a0), some (.inl i1), some (.inl i2), some (.inl i3), none]) (st' := [.inl 1, .inl i3, .inl i2, .inl i1, .inr a0]) (M' := M) rfl).trans ?_
  refine (ev_gI (a_rec M 8 [.inr a0, .inl i1, .inl i2, .inl i3, .inl 1] = true ∧ ([] : List mV).length ≤ 8) (as := [.inr a0, .inl i1, .inl i2, .inl i3, .inl 1]) (rr := []) c_144 c_141 rfl).trans (t_i (t_cI ?_) rfl)
  intro v_2 M_1
  refine (ev_ns c_144 3 (ip' := 9) (ls' := [some (.inr a0), some (.inl i1), some (.inl i2), some (.inl i3), some (.inl v_2)]) (st' := [.inl (-1), .inl v_2]) (M' := M_1) rfl).trans ?_
  refine (ev_i (v_2 = (-1)) (i1 := 25) (l1 := [some (.inr a0), some (.inl i1), some (.inl i2), some (.inl i3), some (.inl v_2)]) (s1 := []) (M1 := M_1) (i2 := 10) (l2 := [some (.inr a0), some (.inl i1), some (.inl i2), some (.inl i3), some (.inl v_2)]) (s2 := []) (M2 := M_1) c_144 rfl).trans (t_i ?_ ?_)
  · skip
    exact rfl
  · skip
    refine (ev_ns c_144 3 (ip' := 13) (ls' := [some (.inr a0), some (.inl i1), some (.inl i2), some (.inl i3), some (.inl v_2)]) (st' := [.inr a0, .inl v_2, .inr a0]) (M' := M_1) rfl).trans ?_
    refine (ev_g (h_k M_1 a0 = 8) (ip' := 14) (ls' := [some (.inr a0), some (.inl i1), some (.inl i2), some (.inl i3), some (.inl v_2)]) (st' := [.inr (h_r M_1 a0 16), .inl v_2, .inr a0]) (M' := M_1) c_144 rfl).trans (t_i ?_ rfl)
    refine (ev_ns c_144 2 (ip' := 16) (ls' := [some (.inr a0), some (.inl i1), some (.inl i2), some (.inl i3), some (.inl v_2)]) (st' := [.inr a0, .inl 8, .inr (h_r M_1 a0 16), .inl v_2, .inr a0]) (M' := M_1) rfl).trans ?_
    refine (ev_g (h_k M_1 a0 = 8) (ip' := 17) (ls' := [some (.inr a0), some (.inl i1), some (.inl i2), some (.inl i3), some (.inl v_2)]) (st' := [.inr (h_r M_1 a0 15), .inl 8, .inr (h_r M_1 a0 16), .inl v_2, .inr a0]) (M' := M_1) c_144 rfl).trans (t_i ?_ rfl)
    refine (ev_ns c_144 1 (ip' := 18) (ls' := [some (.inr a0), some (.inl i1), some (.inl i2), some (.inl i3), some (.inl v_2)]) (st' := [.inl v_2, .inr (h_r M_1 a0 15), .inl 8, .inr (h_r M_1 a0 16), .inl v_2, .inr a0]) (M' := M_1) rfl).trans ?_
    refine (ev_g ((h_k M_1 (h_r M_1 a0 15) = 9 ∨ h_k M_1 (h_r M_1 a0 15) = 14) ∧ h_in v_2 (h_l M_1 (h_r M_1 a0 15))) (ip' := 19) (ls' := [some (.inr a0), some (.inl i1), some (.inl i2), some (.inl i3), some (.inl v_2)]) (st' := [.inl (h_i M_1 (h_r M_1 a0 15) (v_2).toNatClampNeg), .inl 8, .inr (h_r M_1 a0 16), .inl v_2, .inr a0]) (M' := M_1) c_144 rfl).trans (t_i ?_ rfl)
    refine (ev_ns c_144 1 (ip' := 20) (ls' := [some (.inr a0), some (.inl i1), some (.inl i2), some (.inl i3), some (.inl v_2)]) (st' := [.inl (8 * (h_i M_1 (h_r M_1 a0 15) (v_2).toNatClampNeg)), .inr (h_r M_1 a0 16), .inl v_2, .inr a0]) (M' := M_1) rfl).trans ?_
    refine (ev_g ((h_k M_1 (h_r M_1 a0 16) = 9 ∨ h_k M_1 (h_r M_1 a0 16) = 14) ∧ h_in (8 * (h_i M_1 (h_r M_1 a0 15) (v_2).toNatClampNeg)) (h_l M_1 (h_r M_1 a0 16))) (ip' := 21) (ls' := [some (.inr a0), some (.inl i1), some (.inl i2), some (.inl i3), some (.inl v_2)]) (st' := [.inl (h_i M_1 (h_r M_1 a0 16) ((8 * (h_i M_1 (h_r M_1 a0 15) (v_2).toNatClampNeg))).toNatClampNeg), .inl v_2, .inr a0]) (M' := M_1) c_144 rfl).trans (t_i ?_ rfl)
    refine (ev_gI (a_rec M_1 8 [.inr a0, .inl v_2, .inl (h_i M_1 (h_r M_1 a0 16) ((8 * (h_i M_1 (h_r M_1 a0 15) (v_2).toNatClampNeg))).toNatClampNeg)] = true ∧ ([] : List mV).length ≤ 8) (as := [.inr a0, .inl v_2, .inl (h_i M_1 (h_r M_1 a0 16) ((8 * (h_i M_1 (h_r M_1 a0 15) (v_2).toNatClampNeg))).toNatClampNeg)]) (rr := []) c_144 c_142 rfl).trans (t_i (t_cI ?_) rfl)
    intro v_4 M_3
    refine (ev_i (v_4 = 0) (i1 := 25) (l1 := [some (.inr a0), some (.inl i1), some (.inl i2), some (.inl i3), some (.inl v_2)]) (s1 := []) (M1 := M_3) (i2 := 23) (l2 := [some (.inr a0), some (.inl i1), some (.inl i2), some (.inl i3), some (.inl v_2)]) (s2 := []) (M2 := M_3) c_144 rfl).trans (t_i ?_ ?_)
    · skip
      exact rfl
    · skip
      exact ev_ns c_144 2 (ip' := 26) (ls' := [some (.inr a0), some (.inl i1), some (.inl i2), some (.inl i3), some (.inl v_2)]) (st' := [.inl 1]) (M' := M_3) rfl
set_option maxRecDepth 20000 in
theorem e_144_25 (a0 : Nat) (i1 : Int32) (i2 : Int32) (i3 : Int32) (i4 : Int32) (M : mM) : ev 144 25 [some (.inr a0), some (.inl i1), some (.inl i2), some (.inl i3), some (.inl i4)] [] M = ev 144 26 [some (.inr a0), some (.inl i1), some (.inl i2), some (.inl i3), some (.inl i4)] [.inl 0] M := by
  exact ev_ns c_144 1 (ip' := 26) (ls' := [some (.inr a0), some (.inl i1), some (.inl i2), some (.inl i3), some (.inl i4)]) (st' := [.inl 0]) (M' := M) rfl
set_option maxRecDepth 20000 in
theorem e_144_26 (a0 : Nat) (i1 : Int32) (i2 : Int32) (i3 : Int32) (i4 : Int32) (s0 : Int32) (M : mM) : ev 144 26 [some (.inr a0), some (.inl i1), some (.inl i2), some (.inl i3), some (.inl i4)] [.inl s0] M = if s0 = 0 ∨ s0 = 1 then some (some (.inl s0), M) else none := by
  exact ev_gd (s0 = 0 ∨ s0 = 1) c_144 rfl
/- 145: GranuleHallModel.ripas(II)I -/
set_option maxRecDepth 20000 in
theorem e_145_0 (a0 : Nat) (i1 : Int32) (i2 : Int32) (M : mM) : ev 145 0 [some (.inr a0), some (.inl i1), some (.inl i2), none] [] M = if (a_rec M 8 [.inr a0, .inl i1] = true ∧ ([] : List mV).length ≤ 8) then (c_I (ev 107 0 [some (.inr a0), some (.inl i1)] [] M) fun v_2 M_1 => if v_2 = 0 then (ev 145 7 [some (.inr a0), some (.inl i1), some (.inl i2), none] [] M_1) else (if (a_rec M_1 0 [.inl i2] = true ∧ ([] : List mV).length ≤ 8) then (c_I (ev 123 0 [some (.inl i2)] [] M_1) fun v_4 M_3 => if v_4 = 0 then (ev 145 7 [some (.inr a0), some (.inl i1), some (.inl i2), none] [] M_3) else (if (a_rec M_3 8 [.inr a0, .inl i1, .inl 2] = true ∧ ([] : List mV).length ≤ 8) then (c_I (ev 108 0 [some (.inr a0), some (.inl i1), some (.inl 2)] [] M_3) fun v_6 M_5 => if v_6 = 0 then (if (a_rec M_5 8 [.inr a0, .inl 2] = true ∧ ([] : List mV).length ≤ 8) then (c_I (ev 105 0 [some (.inr a0), some (.inl 2)] [] M_5) fun v_8 M_7 => some (some (.inl v_8), M_7)) else none) else (if h_k M_5 a0 = 8 then (if (h_k M_5 (h_r M_5 a0 8) = 9 ∨ h_k M_5 (h_r M_5 a0 8) = 14) ∧ h_in i1 (h_l M_5 (h_r M_5 a0 8)) then (if (h_i M_5 (h_r M_5 a0 8) (i1).toNatClampNeg) = 0 then (if (a_rec M_5 8 [.inr a0, .inl i1, .inl i2] = true ∧ ([] : List mV).length ≤ 8) then (c_I (ev 119 0 [some (.inr a0), some (.inl i1), some (.inl i2)] [] M_5) fun v_10 M_9 => if h_k M_9 a0 = 8 then (if (h_k M_9 (h_r M_9 a0 14) = 9 ∨ h_k M_9 (h_r M_9 a0 14) = 14) ∧ h_in v_10 (h_l M_9 (h_r M_9 a0 14)) then (if (h_i M_9 (h_r M_9 a0 14) (v_10).toNatClampNeg) = 0 then (if h_k M_9 a0 = 8 then (if h_k M_9 (h_r M_9 a0 16) = 9 ∧ h_in v_10 (h_l M_9 (h_r M_9 a0 16)) then (if (a_rec (h_si M_9 (h_r M_9 a0 16) (v_10).toNatClampNeg 1) 8 [.inr a0, .inl i1, .inl 0] = true ∧ ([] : List mV).length ≤ 8) then (c_V (ev 112 0 [some (.inr a0), some (.inl i1), some (.inl 0), none] [] (h_si M_9 (h_r M_9 a0 16) (v_10).toNatClampNeg 1)) fun M_11 => if (a_rec M_11 8 [.inr a0, .inl 3] = true ∧ ([] : List mV).length ≤ 8) then (c_V (ev 111 0 [some (.inr a0), some (.inl 3)] [] M_11) fun M_12 => if (a_rec M_12 8 [.inr a0, .inl v_10] = true ∧ ([.inr a0] : List mV).length ≤ 8) then (c_I (ev 121 0 [some (.inr a0), some (.inl v_10)] [] M_12) fun v_14 M_13 => if (a_rec M_13 8 [.inr a0, .inl v_14] = true ∧ ([] : List mV).length ≤ 8) then (c_V (ev 111 0 [some (.inr a0), some (.inl v_14)] [] M_13) fun M_15 => if (a_rec M_15 8 [.inr a0, .inl v_10] = true ∧ ([.inr a0] : List mV).length ≤ 8) then (c_I (ev 120 0 [some (.inr a0), some (.inl v_10)] [] M_15) fun v_17 M_16 => if (a_rec M_16 0 [.inl v_17] = true ∧ ([.inr a0] : List mV).length ≤ 8) then (c_I (ev 116 0 [some (.inl v_17)] [] M_16) fun v_19 M_18 => if (a_rec M_18 8 [.inr a0, .inl v_19] = true ∧ ([] : List mV).length ≤ 8) then (c_V (ev 111 0 [some (.inr a0), some (.inl v_19)] [] M_18) fun M_20 => if (a_rec M_20 8 [.inr a0, .inl i1, .inl 0] = true ∧ ([] : List mV).length ≤ 8) then (c_V (ev 115 0 [some (.inr a0), some (.inl i1), some (.inl 0), none] [] M_20) fun M_21 => if h_k M_21 a0 = 8 then (if (a_rec (h_si M_21 a0 1 0) 8 [.inr a0, .inl v_10] = true ∧ ([] : List mV).length ≤ 8) then (c_I (ev 120 0 [some (.inr a0), some (.inl v_10)] [] (h_si M_21 a0 1 0)) fun v_23 M_22 => if (a_rec M_22 0 [.inl v_23] = true ∧ ([] : List mV).length ≤ 8) then (c_I (ev 116 0 [some (.inl v_23)] [] M_22) fun v_25 M_24 => some (some (.inl v_25), M_24)) else none) else none) else none) else none) else none) else none) else none) else none) else none) else none) else none) else none) else none) else (if (a_rec M_9 8 [.inr a0, .inl 5] = true ∧ ([] : List mV).length ≤ 8) then (c_I (ev 105 0 [some (.inr a0), some (.inl 5)] [] M_9) fun v_27 M_26 => some (some (.inl v_27), M_26)) else none)) else none) else none) else none) else (if (a_rec M_5 8 [.inr a0, .inl 3] = true ∧ ([] : List mV).length ≤ 8) then (c_I (ev 105 0 [some (.inr a0), some (.inl 3)] [] M_5) fun v_29 M_28 => some (some (.inl v_29), M_28)) else none)) else none) else none)) else none)) else none)) else none := by
  refine (ev_ns c_145 2 (ip' := 2) (ls' := [some (.inr a0), some (.inl i1), some (.inl i2), none]) (st' := [.inl i1, .inr a0]) (M' := M) rfl).trans ?_
  refine (ev_gI (a_rec M 8 [.inr a0, .inl i1] = true ∧ ([] : List mV).length ≤ 8) (as := [.inr a0, .inl i1]) (rr := []) c_145 c_107 rfl).trans (t_i (t_cI ?_) rfl)
  intro v_2 M_1
  refine (ev_i (v_2 = 0) (i1 := 7) (l1 := [some (.inr a0), some (.inl i1), some (.inl i2), none]) (s1 := []) (M1 := M_1) (i2 := 4) (l2 := [some (.inr a0), some (.inl i1), some (.inl i2), none]) (s2 := []) (M2 := M_1) c_145 rfl).trans (t_i ?_ ?_)
  · skip
    exact rfl
  · skip
    refine (ev_ns c_145 1 (ip' := 5) (ls' := [some (.inr a0), some (.inl i1), some (.inl i2), none]) (st' := [.inl i2]) (M' := M_1) rfl).trans ?_
    refine (ev_gI (a_rec M_1 0 [.inl i2] = true ∧ ([] : List mV).length ≤ 8) (as := [.inl i2]) (rr := []) c_145 c_123 rfl).trans (t_i (t_cI ?_) rfl)
    intro v_4 M_3
    refine (ev_i (v_4 = 0) (i1 := 7) (l1 := [some (.inr a0), some (.inl i1), some (.inl i2), none]) (s1 := []) (M1 := M_3) (i2 := 11) (l2 := [some (.inr a0), some (.inl i1), some (.inl i2), none]) (s2 := []) (M2 := M_3) c_145 rfl).trans (t_i ?_ ?_)
    · skip
      exact rfl
    · skip
      refine (ev_ns c_145 3 (ip' := 14) (ls' := [some (.inr a0), some (.inl i1), some (.inl i2), none]) (st' := [.inl 2, .inl i1, .inr a0]) (M' := M_3) rfl).trans ?_
      refine (ev_gI (a_rec M_3 8 [.inr a0, .inl i1, .inl 2] = true ∧ ([] : List mV).length ≤ 8) (as := [.inr a0, .inl i1, .inl 2]) (rr := []) c_145 c_108 rfl).trans (t_i (t_cI ?_) rfl)
      intro v_6 M_5
      refine (ev_i (v_6 = 0) (i1 := 16) (l1 := [some (.inr a0), some (.inl i1), some (.inl i2), none]) (s1 := []) (M1 := M_5) (i2 := 20) (l2 := [some (.inr a0), some (.inl i1), some (.inl i2), none]) (s2 := []) (M2 := M_5) c_145 rfl).trans (t_i ?_ ?_)
      · skip
        refine (ev_ns c_145 2 (ip' := 18) (ls' := [some (.inr a0), some (.inl i1), some (.inl i2), none]) (st' := [.inl 2, .inr a0]) (M' := M_5) rfl).trans ?_
        refine (ev_gI (a_rec M_5 8 [.inr a0, .inl 2] = true ∧ ([] : List mV).length ≤ 8) (as := [.inr a0, .inl 2]) (rr := []) c_145 c_105 rfl).trans (t_i (t_cI ?_) rfl)
        intro v_8 M_7
        exact ev_d c_145 rfl
      · skip
        refine (ev_ns c_145 1 (ip' := 21) (ls' := [some (.inr a0), some (.inl i1), some (.inl i2), none]) (st' := [.inr a0]) (M' := M_5) rfl).trans ?_
        refine (ev_g (h_k M_5 a0 = 8) (ip' := 22) (ls' := [some (.inr a0), some (.inl i1), some (.inl i2), none]) (st' := [.inr (h_r M_5 a0 8)]) (M' := M_5) c_145 rfl).trans (t_i ?_ rfl)
        refine (ev_ns c_145 1 (ip' := 23) (ls' := [some (.inr a0), some (.inl i1), some (.inl i2), none]) (st' := [.inl i1, .inr (h_r M_5 a0 8)]) (M' := M_5) rfl).trans ?_
        refine (ev_g ((h_k M_5 (h_r M_5 a0 8) = 9 ∨ h_k M_5 (h_r M_5 a0 8) = 14) ∧ h_in i1 (h_l M_5 (h_r M_5 a0 8))) (ip' := 24) (ls' := [some (.inr a0), some (.inl i1), some (.inl i2), none]) (st' := [.inl (h_i M_5 (h_r M_5 a0 8) (i1).toNatClampNeg)]) (M' := M_5) c_145 rfl).trans (t_i ?_ rfl)
        refine (ev_i ((h_i M_5 (h_r M_5 a0 8) (i1).toNatClampNeg) = 0) (i1 := 29) (l1 := [some (.inr a0), some (.inl i1), some (.inl i2), none]) (s1 := []) (M1 := M_5) (i2 := 25) (l2 := [some (.inr a0), some (.inl i1), some (.inl i2), none]) (s2 := []) (M2 := M_5) c_145 rfl).trans (t_i ?_ ?_)
        · skip
          refine (ev_ns c_145 3 (ip' := 32) (ls' := [some (.inr a0), some (.inl i1), some (.inl i2), none]) (st' := [.inl i2, .inl i1, .inr a0]) (M' := M_5) rfl).trans ?_
          refine (ev_gI (a_rec M_5 8 [.inr a0, .inl i1, .inl i2] = true ∧ ([] : List mV).length ≤ 8) (as := [.inr a0, .inl i1, .inl i2]) (rr := []) c_145 c_119 rfl).trans (t_i (t_cI ?_) rfl)
          intro v_10 M_9
          refine (ev_ns c_145 2 (ip' := 35) (ls' := [some (.inr a0), some (.inl i1), some (.inl i2), some (.inl v_10)]) (st' := [.inr a0]) (M' := M_9) rfl).trans ?_
          refine (ev_g (h_k M_9 a0 = 8) (ip' := 36) (ls' := [some (.inr a0), some (.inl i1), some (.inl i2), some (.inl v_10)]) (st' := [.inr (h_r M_9 a0 14)]) (M' := M_9) c_145 rfl).trans (t_i ?_ rfl)
          refine (ev_ns c_145 1 (ip' := 37) (ls' := [some (.inr a0), some (.inl i1), some (.inl i2), some (.inl v_10)]) (st' := [.inl v_10, .inr (h_r M_9 a0 14)]) (M' := M_9) rfl).trans ?_
          refine (ev_g ((h_k M_9 (h_r M_9 a0 14) = 9 ∨ h_k M_9 (h_r M_9 a0 14) = 14) ∧ h_in v_10 (h_l M_9 (h_r M_9 a0 14))) (ip' := 38) (ls' := [some (.inr a0), some (.inl i1), some (.inl i2), some (.inl v_10)]) (st' := [.inl (h_i M_9 (h_r M_9 a0 14) (v_10).toNatClampNeg)]) (M' := M_9) c_145 rfl).trans (t_i ?_ rfl)
          refine (ev_i ((h_i M_9 (h_r M_9 a0 14) (v_10).toNatClampNeg) = 0) (i1 := 43) (l1 := [some (.inr a0), some (.inl i1), some (.inl i2), some (.inl v_10)]) (s1 := []) (M1 := M_9) (i2 := 39) (l2 := [some (.inr a0), some (.inl i1), some (.inl i2), some (.inl v_10)]) (s2 := []) (M2 := M_9) c_145 rfl).trans (t_i ?_ ?_)
          · skip
            refine (ev_ns c_145 1 (ip' := 44) (ls' := [some (.inr a0), some (.inl i1), some (.inl i2), some (.inl v_10)]) (st' := [.inr a0]) (M' := M_9) rfl).trans ?_
            refine (ev_g (h_k M_9 a0 = 8) (ip' := 45) (ls' := [some (.inr a0), some (.inl i1), some (.inl i2), some (.inl v_10)]) (st' := [.inr (h_r M_9 a0 16)]) (M' := M_9) c_145 rfl).trans (t_i ?_ rfl)
            refine (ev_ns c_145 2 (ip' := 47) (ls' := [some (.inr a0), some (.inl i1), some (.inl i2), some (.inl v_10)]) (st' := [.inl 1, .inl v_10, .inr (h_r M_9 a0 16)]) (M' := M_9) rfl).trans ?_
            refine (ev_g (h_k M_9 (h_r M_9 a0 16) = 9 ∧ h_in v_10 (h_l M_9 (h_r M_9 a0 16))) (ip' := 48) (ls' := [some (.inr a0), some (.inl i1), some (.inl i2), some (.inl v_10)]) (st' := []) (M' := h_si M_9 (h_r M_9 a0 16) (v_10).toNatClampNeg 1) c_145 rfl).trans (t_i ?_ rfl)
            refine (ev_ns c_145 3 (ip' := 51) (ls' := [some (.inr a0), some (.inl i1), some (.inl i2), some (.inl v_10)]) (st' := [.inl 0, .inl i1, .inr a0]) (M' := h_si M_9 (h_r M_9 a0 16) (v_10).toNatClampNeg 1) rfl).trans ?_
            refine (ev_gV (a_rec (h_si M_9 (h_r M_9 a0 16) (v_10).toNatClampNeg 1) 8 [.inr a0, .inl i1, .inl 0] = true ∧ ([] : List mV).length ≤ 8) (as := [.inr a0, .inl i1, .inl 0]) (rr := []) c_145 c_112 rfl).trans (t_i (t_cV ?_) rfl)
            intro M_11
            refine (ev_ns c_145 2 (ip' := 54) (ls' := [some (.inr a0), some (.inl i1), some (.inl i2), some (.inl v_10)]) (st' := [.inl 3, .inr a0]) (M' := M_11) rfl).trans ?_
            refine (ev_gV (a_rec M_11 8 [.inr a0, .inl 3] = true ∧ ([] : List mV).length ≤ 8) (as := [.inr a0, .inl 3]) (rr := []) c_145 c_111 rfl).trans (t_i (t_cV ?_) rfl)
            intro M_12
            refine (ev_ns c_145 3 (ip' := 58) (ls' := [some (.inr a0), some (.inl i1), some (.inl i2), some (.inl v_10)]) (st' := [.inl v_10, .inr a0, .inr a0]) (M' := M_12) rfl).trans ?_
            refine (ev_gI (a_rec M_12 8 [.inr a0, .inl v_10] = true ∧ ([.inr a0] : List mV).length ≤ 8) (as := [.inr a0, .inl v_10]) (rr := [.inr a0]) c_145 c_121 rfl).trans (t_i (t_cI ?_) rfl)
            intro v_14 M_13
            refine (ev_gV (a_rec M_13 8 [.inr a0, .inl v_14] = true ∧ ([] : List mV).length ≤ 8) (as := [.inr a0, .inl v_14]) (rr := []) c_145 c_111 rfl).trans (t_i (t_cV ?_) rfl)
            intro M_15
            refine (ev_ns c_145 3 (ip' := 63) (ls' := [some (.inr a0), some (.inl i1), some (.inl i2), some (.inl v_10)]) (st' := [.inl v_10, .inr a0, .inr a0]) (M' := M_15) rfl).trans ?_
            refine (ev_gI (a_rec M_15 8 [.inr a0, .inl v_10] = true ∧ ([.inr a0] : List mV).length ≤ 8) (as := [.inr a0, .inl v_10]) (rr := [.inr a0]) c_145 c_120 rfl).trans (t_i (t_cI ?_) rfl)
            intro v_17 M_16
            refine (ev_gI (a_rec M_16 0 [.inl v_17] = true ∧ ([.inr a0] : List mV).length ≤ 8) (as := [.inl v_17]) (rr := [.inr a0]) c_145 c_116 rfl).trans (t_i (t_cI ?_) rfl)
            intro v_19 M_18
            refine (ev_gV (a_rec M_18 8 [.inr a0, .inl v_19] = true ∧ ([] : List mV).length ≤ 8) (as := [.inr a0, .inl v_19]) (rr := []) c_145 c_111 rfl).trans (t_i (t_cV ?_) rfl)
            intro M_20
            refine (ev_ns c_145 3 (ip' := 69) (ls' := [some (.inr a0), some (.inl i1), some (.inl i2), some (.inl v_10)]) (st' := [.inl 0, .inl i1, .inr a0]) (M' := M_20) rfl).trans ?_
            refine (ev_gV (a_rec M_20 8 [.inr a0, .inl i1, .inl 0] = true ∧ ([] : List mV).length ≤ 8) (as := [.inr a0, .inl i1, .inl 0]) (rr := []) c_145 c_115 rfl).trans (t_i (t_cV ?_) rfl)
            intro M_21
            refine (ev_ns c_145 2 (ip' := 72) (ls' := [some (.inr a0), some (.inl i1), some (.inl i2), some (.inl v_10)]) (st' := [.inl 0, .inr a0]) (M' := M_21) rfl).trans ?_
            refine (ev_g (h_k M_21 a0 = 8) (ip' := 73) (ls' := [some (.inr a0), some (.inl i1), some (.inl i2), some (.inl v_10)]) (st' := []) (M' := h_si M_21 a0 1 0) c_145 rfl).trans (t_i ?_ rfl)
            refine (ev_ns c_145 2 (ip' := 75) (ls' := [some (.inr a0), some (.inl i1), some (.inl i2), some (.inl v_10)]) (st' := [.inl v_10, .inr a0]) (M' := h_si M_21 a0 1 0) rfl).trans ?_
            refine (ev_gI (a_rec (h_si M_21 a0 1 0) 8 [.inr a0, .inl v_10] = true ∧ ([] : List mV).length ≤ 8) (as := [.inr a0, .inl v_10]) (rr := []) c_145 c_120 rfl).trans (t_i (t_cI ?_) rfl)
            intro v_23 M_22
            refine (ev_gI (a_rec M_22 0 [.inl v_23] = true ∧ ([] : List mV).length ≤ 8) (as := [.inl v_23]) (rr := []) c_145 c_116 rfl).trans (t_i (t_cI ?_) rfl)
            intro v_25 M_24
            exact ev_d c_145 rfl
          · skip
            refine (ev_ns c_145 2 (ip' := 41) (ls' := [some (.inr a0), some (.inl i1), some (.inl i2), some (.inl v_10)]) (st' := [.inl 5, .inr a0]) (M' := M_9) rfl).trans ?_
            refine (ev_gI (a_rec M_9 8 [.inr a0, .inl 5] = true ∧ ([] : List mV).length ≤ 8) (as := [.inr a0, .inl 5]) (rr := []) c_145 c_105 rfl).trans (t_i (t_cI ?_) rfl)
            intro v_27 M_26
            exact ev_d c_145 rfl
        · skip
          refine (ev_ns c_145 2 (ip' := 27) (ls' := [some (.inr a0), some (.inl i1), some (.inl i2), none]) (st' := [.inl 3, .inr a0]) (M' := M_5) rfl).trans ?_
          refine (ev_gI (a_rec M_5 8 [.inr a0, .inl 3] = true ∧ ([] : List mV).length ≤ 8) (as := [.inr a0, .inl 3]) (rr := []) c_145 c_105 rfl).trans (t_i (t_cI ?_) rfl)
          intro v_29 M_28
          exact ev_d c_145 rfl
set_option maxRecDepth 20000 in
theorem e_145_7 (a0 : Nat) (i1 : Int32) (i2 : Int32) (M : mM) : ev 145 7 [some (.inr a0), some (.inl i1), some (.inl i2), none] [] M = if (a_rec M 8 [.inr a0, .inl 1] = true ∧ ([] : List mV).length ≤ 8) then (c_I (ev 105 0 [some (.inr a0), some (.inl 1)] [] M) fun v_2 M_1 => some (some (.inl v_2), M_1)) else none := by
  refine (ev_ns c_145 2 (ip' := 9) (ls' := [some (.inr a0), some (.inl i1), some (.inl i2), none]) (st' := [.inl 1, .inr a0]) (M' := M) rfl).trans ?_
  refine (ev_gI (a_rec M 8 [.inr a0, .inl 1] = true ∧ ([] : List mV).length ≤ 8) (as := [.inr a0, .inl 1]) (rr := []) c_145 c_105 rfl).trans (t_i (t_cI ?_) rfl)
  intro v_2 M_1
  exact ev_d c_145 rfl
/- 146: GranuleHallModel.assign(II)V -/
set_option maxRecDepth 20000 in
theorem e_146_0 (a0 : Nat) (i1 : Int32) (i2 : Int32) (M : mM) : ev 146 0 [some (.inr a0), some (.inl i1), some (.inl i2)] [] M = if h_k M a0 = 8 then (if h_k M (h_r M a0 14) = 9 ∧ h_in i1 (h_l M (h_r M a0 14)) then (if h_k (h_si M (h_r M a0 14) (i1).toNatClampNeg 1) a0 = 8 then (if h_k (h_si M (h_r M a0 14) (i1).toNatClampNeg 1) (h_r (h_si M (h_r M a0 14) (i1).toNatClampNeg 1) a0 15) = 9 ∧ h_in i1 (h_l (h_si M (h_r M a0 14) (i1).toNatClampNeg 1) (h_r (h_si M (h_r M a0 14) (i1).toNatClampNeg 1) a0 15)) then (some (none, h_si (h_si M (h_r M a0 14) (i1).toNatClampNeg 1) (h_r (h_si M (h_r M a0 14) (i1).toNatClampNeg 1) a0 15) (i1).toNatClampNeg i2)) else none) else none) else none) else none := by
  refine (ev_ns c_146 1 (ip' := 1) (ls' := [some (.inr a0), some (.inl i1), some (.inl i2)]) (st' := [.inr a0]) (M' := M) rfl).trans ?_
  refine (ev_g (h_k M a0 = 8) (ip' := 2) (ls' := [some (.inr a0), some (.inl i1), some (.inl i2)]) (st' := [.inr (h_r M a0 14)]) (M' := M) c_146 rfl).trans (t_i ?_ rfl)
  refine (ev_ns c_146 2 (ip' := 4) (ls' := [some (.inr a0), some (.inl i1), some (.inl i2)]) (st' := [.inl 1, .inl i1, .inr (h_r M a0 14)]) (M' := M) rfl).trans ?_
  refine (ev_g (h_k M (h_r M a0 14) = 9 ∧ h_in i1 (h_l M (h_r M a0 14))) (ip' := 5) (ls' := [some (.inr a0), some (.inl i1), some (.inl i2)]) (st' := []) (M' := h_si M (h_r M a0 14) (i1).toNatClampNeg 1) c_146 rfl).trans (t_i ?_ rfl)
  refine (ev_ns c_146 1 (ip' := 6) (ls' := [some (.inr a0), some (.inl i1), some (.inl i2)]) (st' := [.inr a0]) (M' := h_si M (h_r M a0 14) (i1).toNatClampNeg 1) rfl).trans ?_
  refine (ev_g (h_k (h_si M (h_r M a0 14) (i1).toNatClampNeg 1) a0 = 8) (ip' := 7) (ls' := [some (.inr a0), some (.inl i1), some (.inl i2)]) (st' := [.inr (h_r (h_si M (h_r M a0 14) (i1).toNatClampNeg 1) a0 15)]) (M' := h_si M (h_r M a0 14) (i1).toNatClampNeg 1) c_146 rfl).trans (t_i ?_ rfl)
  refine (ev_ns c_146 2 (ip' := 9) (ls' := [some (.inr a0), some (.inl i1), some (.inl i2)]) (st' := [.inl i2, .inl i1, .inr (h_r (h_si M (h_r M a0 14) (i1).toNatClampNeg 1) a0 15)]) (M' := h_si M (h_r M a0 14) (i1).toNatClampNeg 1) rfl).trans ?_
  refine (ev_g (h_k (h_si M (h_r M a0 14) (i1).toNatClampNeg 1) (h_r (h_si M (h_r M a0 14) (i1).toNatClampNeg 1) a0 15) = 9 ∧ h_in i1 (h_l (h_si M (h_r M a0 14) (i1).toNatClampNeg 1) (h_r (h_si M (h_r M a0 14) (i1).toNatClampNeg 1) a0 15))) (ip' := 10) (ls' := [some (.inr a0), some (.inl i1), some (.inl i2)]) (st' := []) (M' := h_si (h_si M (h_r M a0 14) (i1).toNatClampNeg 1) (h_r (h_si M (h_r M a0 14) (i1).toNatClampNeg 1) a0 15) (i1).toNatClampNeg i2) c_146 rfl).trans (t_i ?_ rfl)
  exact ev_d c_146 rfl
/- 147: GranuleHallModel.measureData(III)V -/
set_option maxRecDepth 20000 in
theorem e_147_0 (a0 : Nat) (i1 : Int32) (i2 : Int32) (i3 : Int32) (M : mM) : ev 147 0 [some (.inr a0), some (.inl i1), some (.inl i2), some (.inl i3), none] [] M = ev 147 2 [some (.inr a0), some (.inl i1), some (.inl i2), some (.inl i3), some (.inl 0)] [] M := by
  exact ev_ns c_147 2 (ip' := 2) (ls' := [some (.inr a0), some (.inl i1), some (.inl i2), some (.inl i3), some (.inl 0)]) (st' := []) (M' := M) rfl
set_option maxRecDepth 20000 in
theorem e_147_2 (a0 : Nat) (i1 : Int32) (i2 : Int32) (i3 : Int32) (i4 : Int32) (M : mM) : ev 147 2 [some (.inr a0), some (.inl i1), some (.inl i2), some (.inl i3), some (.inl i4)] [] M = if (32 : Int32) ≤ i4 then (if (a_rec M 8 [.inr a0] = true ∧ ([] : List mV).length ≤ 8) then (c_V (ev 114 0 [some (.inr a0), none, none, none, none] [] M) fun M_1 => if (a_rec M_1 8 [.inr a0, .inl i1, .inl 0] = true ∧ ([] : List mV).length ≤ 8) then (c_V (ev 112 0 [some (.inr a0), some (.inl i1), some (.inl 0), none] [] M_1) fun M_2 => if (a_rec M_2 8 [.inr a0, .inl 2] = true ∧ ([] : List mV).length ≤ 8) then (c_V (ev 111 0 [some (.inr a0), some (.inl 2)] [] M_2) fun M_3 => if (a_rec M_3 8 [.inr a0, .inl i2] = true ∧ ([] : List mV).length ≤ 8) then (c_V (ev 111 0 [some (.inr a0), some (.inl i2)] [] M_3) fun M_4 => ev 147 31 [some (.inr a0), some (.inl i1), some (.inl i2), some (.inl i3), some (.inl 0)] [] M_4) else none) else none) else none) else none) else (if h_k M a0 = 8 then (if (h_k M (h_r M a0 6) = 9 ∨ h_k M (h_r M a0 6) = 14) ∧ h_in ((32 * i3) + i4) (h_l M (h_r M a0 6)) then (if (a_rec M 8 [.inr a0, .inl (h_i M (h_r M a0 6) (((32 * i3) + i4)).toNatClampNeg)] = true ∧ ([] : List mV).length ≤ 8) then (c_V (ev 111 0 [some (.inr a0), some (.inl (h_i M (h_r M a0 6) (((32 * i3) + i4)).toNatClampNeg))] [] M) fun M_5 => ev 147 2 [some (.inr a0), some (.inl i1), some (.inl i2), some (.inl i3), some (.inl (i4 + 1))] [] M_5) else none) else none) else none) := by
  refine (ev_ns c_147 2 (ip' := 4) (ls' := [some (.inr a0), some (.inl i1), some (.inl i2), some (.inl i3), some (.inl i4)]) (st' := [.inl 32, .inl i4]) (M' := M) rfl).trans ?_
  refine (ev_i ((32 : Int32) ≤ i4) (i1 := 17) (l1 := [some (.inr a0), some (.inl i1), some (.inl i2), some (.inl i3), some (.inl i4)]) (s1 := []) (M1 := M) (i2 := 5) (l2 := [some (.inr a0), some (.inl i1), some (.inl i2), some (.inl i3), some (.inl i4)]) (s2 := []) (M2 := M) c_147 rfl).trans (t_i ?_ ?_)
  · skip
    refine (ev_ns c_147 1 (ip' := 18) (ls' := [some (.inr a0), some (.inl i1), some (.inl i2), some (.inl i3), some (.inl i4)]) (st' := [.inr a0]) (M' := M) rfl).trans ?_
    refine (ev_gV (a_rec M 8 [.inr a0] = true ∧ ([] : List mV).length ≤ 8) (as := [.inr a0]) (rr := []) c_147 c_114 rfl).trans (t_i (t_cV ?_) rfl)
    intro M_1
    refine (ev_ns c_147 3 (ip' := 22) (ls' := [some (.inr a0), some (.inl i1), some (.inl i2), some (.inl i3), some (.inl i4)]) (st' := [.inl 0, .inl i1, .inr a0]) (M' := M_1) rfl).trans ?_
    refine (ev_gV (a_rec M_1 8 [.inr a0, .inl i1, .inl 0] = true ∧ ([] : List mV).length ≤ 8) (as := [.inr a0, .inl i1, .inl 0]) (rr := []) c_147 c_112 rfl).trans (t_i (t_cV ?_) rfl)
    intro M_2
    refine (ev_ns c_147 2 (ip' := 25) (ls' := [some (.inr a0), some (.inl i1), some (.inl i2), some (.inl i3), some (.inl i4)]) (st' := [.inl 2, .inr a0]) (M' := M_2) rfl).trans ?_
    refine (ev_gV (a_rec M_2 8 [.inr a0, .inl 2] = true ∧ ([] : List mV).length ≤ 8) (as := [.inr a0, .inl 2]) (rr := []) c_147 c_111 rfl).trans (t_i (t_cV ?_) rfl)
    intro M_3
    refine (ev_ns c_147 2 (ip' := 28) (ls' := [some (.inr a0), some (.inl i1), some (.inl i2), some (.inl i3), some (.inl i4)]) (st' := [.inl i2, .inr a0]) (M' := M_3) rfl).trans ?_
    refine (ev_gV (a_rec M_3 8 [.inr a0, .inl i2] = true ∧ ([] : List mV).length ≤ 8) (as := [.inr a0, .inl i2]) (rr := []) c_147 c_111 rfl).trans (t_i (t_cV ?_) rfl)
    intro M_4
    exact ev_ns c_147 2 (ip' := 31) (ls' := [some (.inr a0), some (.inl i1), some (.inl i2), some (.inl i3), some (.inl 0)]) (st' := []) (M' := M_4) rfl
  · skip
    refine (ev_ns c_147 2 (ip' := 7) (ls' := [some (.inr a0), some (.inl i1), some (.inl i2), some (.inl i3), some (.inl i4)]) (st' := [.inr a0, .inr a0]) (M' := M) rfl).trans ?_
    refine (ev_g (h_k M a0 = 8) (ip' := 8) (ls' := [some (.inr a0), some (.inl i1), some (.inl i2), some (.inl i3), some (.inl i4)]) (st' := [.inr (h_r M a0 6), .inr a0]) (M' := M) c_147 rfl).trans (t_i ?_ rfl)
    refine (ev_ns c_147 5 (ip' := 13) (ls' := [some (.inr a0), some (.inl i1), some (.inl i2), some (.inl i3), some (.inl i4)]) (st' := [.inl ((32 * i3) + i4), .inr (h_r M a0 6), .inr a0]) (M' := M) rfl).trans ?_
    refine (ev_g ((h_k M (h_r M a0 6) = 9 ∨ h_k M (h_r M a0 6) = 14) ∧ h_in ((32 * i3) + i4) (h_l M (h_r M a0 6))) (ip' := 14) (ls' := [some (.inr a0), some (.inl i1), some (.inl i2), some (.inl i3), some (.inl i4)]) (st' := [.inl (h_i M (h_r M a0 6) (((32 * i3) + i4)).toNatClampNeg), .inr a0]) (M' := M) c_147 rfl).trans (t_i ?_ rfl)
    refine (ev_gV (a_rec M 8 [.inr a0, .inl (h_i M (h_r M a0 6) (((32 * i3) + i4)).toNatClampNeg)] = true ∧ ([] : List mV).length ≤ 8) (as := [.inr a0, .inl (h_i M (h_r M a0 6) (((32 * i3) + i4)).toNatClampNeg)]) (rr := []) c_147 c_111 rfl).trans (t_i (t_cV ?_) rfl)
    intro M_5
    exact ev_ns c_147 2 (ip' := 2) (ls' := [some (.inr a0), some (.inl i1), some (.inl i2), some (.inl i3), some (.inl (i4 + 1))]) (st' := []) (M' := M_5) rfl
set_option maxRecDepth 20000 in
theorem e_147_31 (a0 : Nat) (i1 : Int32) (i2 : Int32) (i3 : Int32) (i4 : Int32) (M : mM) : ev 147 31 [some (.inr a0), some (.inl i1), some (.inl i2), some (.inl i3), some (.inl i4)] [] M = if (8 : Int32) ≤ i4 then (if (a_rec M 8 [.inr a0, .inl i1, .inl 0] = true ∧ ([] : List mV).length ≤ 8) then (c_V (ev 115 0 [some (.inr a0), some (.inl i1), some (.inl 0), none] [] M) fun M_1 => some (none, M_1)) else none) else (if h_k M a0 = 8 then (if (h_k M (h_r M a0 28) = 9 ∨ h_k M (h_r M a0 28) = 14) ∧ h_in i4 (h_l M (h_r M a0 28)) then (if (a_rec M 8 [.inr a0, .inl (h_i M (h_r M a0 28) (i4).toNatClampNeg)] = true ∧ ([] : List mV).length ≤ 8) then (c_V (ev 111 0 [some (.inr a0), some (.inl (h_i M (h_r M a0 28) (i4).toNatClampNeg))] [] M) fun M_2 => ev 147 31 [some (.inr a0), some (.inl i1), some (.inl i2), some (.inl i3), some (.inl (i4 + 1))] [] M_2) else none) else none) else none) := by
  refine (ev_ns c_147 2 (ip' := 33) (ls' := [some (.inr a0), some (.inl i1), some (.inl i2), some (.inl i3), some (.inl i4)]) (st' := [.inl 8, .inl i4]) (M' := M) rfl).trans ?_
  refine (ev_i ((8 : Int32) ≤ i4) (i1 := 42) (l1 := [some (.inr a0), some (.inl i1), some (.inl i2), some (.inl i3), some (.inl i4)]) (s1 := []) (M1 := M) (i2 := 34) (l2 := [some (.inr a0), some (.inl i1), some (.inl i2), some (.inl i3), some (.inl i4)]) (s2 := []) (M2 := M) c_147 rfl).trans (t_i ?_ ?_)
  · skip
    refine (ev_ns c_147 3 (ip' := 45) (ls' := [some (.inr a0), some (.inl i1), some (.inl i2), some (.inl i3), some (.inl i4)]) (st' := [.inl 0, .inl i1, .inr a0]) (M' := M) rfl).trans ?_
    refine (ev_gV (a_rec M 8 [.inr a0, .inl i1, .inl 0] = true ∧ ([] : List mV).length ≤ 8) (as := [.inr a0, .inl i1, .inl 0]) (rr := []) c_147 c_115 rfl).trans (t_i (t_cV ?_) rfl)
    intro M_1
    exact ev_d c_147 rfl
  · skip
    refine (ev_ns c_147 2 (ip' := 36) (ls' := [some (.inr a0), some (.inl i1), some (.inl i2), some (.inl i3), some (.inl i4)]) (st' := [.inr a0, .inr a0]) (M' := M) rfl).trans ?_
    refine (ev_g (h_k M a0 = 8) (ip' := 37) (ls' := [some (.inr a0), some (.inl i1), some (.inl i2), some (.inl i3), some (.inl i4)]) (st' := [.inr (h_r M a0 28), .inr a0]) (M' := M) c_147 rfl).trans (t_i ?_ rfl)
    refine (ev_ns c_147 1 (ip' := 38) (ls' := [some (.inr a0), some (.inl i1), some (.inl i2), some (.inl i3), some (.inl i4)]) (st' := [.inl i4, .inr (h_r M a0 28), .inr a0]) (M' := M) rfl).trans ?_
    refine (ev_g ((h_k M (h_r M a0 28) = 9 ∨ h_k M (h_r M a0 28) = 14) ∧ h_in i4 (h_l M (h_r M a0 28))) (ip' := 39) (ls' := [some (.inr a0), some (.inl i1), some (.inl i2), some (.inl i3), some (.inl i4)]) (st' := [.inl (h_i M (h_r M a0 28) (i4).toNatClampNeg), .inr a0]) (M' := M) c_147 rfl).trans (t_i ?_ rfl)
    refine (ev_gV (a_rec M 8 [.inr a0, .inl (h_i M (h_r M a0 28) (i4).toNatClampNeg)] = true ∧ ([] : List mV).length ≤ 8) (as := [.inr a0, .inl (h_i M (h_r M a0 28) (i4).toNatClampNeg)]) (rr := []) c_147 c_111 rfl).trans (t_i (t_cV ?_) rfl)
    intro M_2
    exact ev_ns c_147 2 (ip' := 31) (ls' := [some (.inr a0), some (.inl i1), some (.inl i2), some (.inl i3), some (.inl (i4 + 1))]) (st' := []) (M' := M_2) rfl
/- 148: GranuleHallModel.data(IIII)Z -/
set_option maxRecDepth 20000 in
theorem e_148_0 (a0 : Nat) (i1 : Int32) (i2 : Int32) (i3 : Int32) (i4 : Int32) (M : mM) : ev 148 0 [some (.inr a0), some (.inl i1), some (.inl i2), some (.inl i3), some (.inl i4), none, none] [] M = if (a_rec M 8 [.inr a0, .inl i1] = true ∧ ([] : List mV).length ≤ 8) then (c_I (ev 107 0 [some (.inr a0), some (.inl i1)] [] M) fun v_2 M_1 => if v_2 = 0 then (ev 148 15 [some (.inr a0), some (.inl i1), some (.inl i2), some (.inl i3), some (.inl i4), none, none] [] M_1) else (if (a_rec M_1 8 [.inr a0, .inl i2] = true ∧ ([] : List mV).length ≤ 8) then (c_I (ev 107 0 [some (.inr a0), some (.inl i2)] [] M_1) fun v_4 M_3 => if v_4 = 0 then (ev 148 15 [some (.inr a0), some (.inl i1), some (.inl i2), some (.inl i3), some (.inl i4), none, none] [] M_3) else (if (a_rec M_3 8 [.inr a0, .inl i4] = true ∧ ([] : List mV).length ≤ 8) then (c_I (ev 107 0 [some (.inr a0), some (.inl i4)] [] M_3) fun v_6 M_5 => if v_6 = 0 then (ev 148 15 [some (.inr a0), some (.inl i1), some (.inl i2), some (.inl i3), some (.inl i4), none, none] [] M_5) else (if (a_rec M_5 0 [.inl i3] = true ∧ ([] : List mV).length ≤ 8) then (c_I (ev 123 0 [some (.inl i3)] [] M_5) fun v_8 M_7 => if v_8 = 0 then (ev 148 15 [some (.inr a0), some (.inl i1), some (.inl i2), some (.inl i3), some (.inl i4), none, none] [] M_7) else (if (a_rec M_7 8 [.inr a0, .inl i1, .inl 2] = true ∧ ([] : List mV).length ≤ 8) then (c_I (ev 108 0 [some (.inr a0), some (.inl i1), some (.inl 2)] [] M_7) fun v_10 M_9 => if v_10 = 0 then (ev 148 34 [some (.inr a0), some (.inl i1), some (.inl i2), some (.inl i3), some (.inl i4), none, none] [] M_9) else (if (a_rec M_9 8 [.inr a0, .inl i2, .inl 1] = true ∧ ([] : List mV).length ≤ 8) then (c_I (ev 108 0 [some (.inr a0), some (.inl i2), some (.inl 1)] [] M_9) fun v_12 M_11 => if v_12 = 0 then (ev 148 34 [some (.inr a0), some (.inl i1), some (.inl i2), some (.inl i3), some (.inl i4), none, none] [] M_11) else (if (a_rec M_11 8 [.inr a0, .inl i4, .inl 0] = true ∧ ([] : List mV).length ≤ 8) then (c_I (ev 108 0 [some (.inr a0), some (.inl i4), some (.inl 0)] [] M_11) fun v_14 M_13 => if v_14 = 0 then (ev 148 34 [some (.inr a0), some (.inl i1), some (.inl i2), some (.inl i3), some (.inl i4), none, none] [] M_13) else (if h_k M_13 a0 = 8 then (if (h_k M_13 (h_r M_13 a0 8) = 9 ∨ h_k M_13 (h_r M_13 a0 8) = 14) ∧ h_in i1 (h_l M_13 (h_r M_13 a0 8)) then (if (h_i M_13 (h_r M_13 a0 8) (i1).toNatClampNeg) = 0 then (if (a_rec M_13 8 [.inr a0, .inl i1, .inl i3] = true ∧ ([] : List mV).length ≤ 8) then (c_I (ev 119 0 [some (.inr a0), some (.inl i1), some (.inl i3)] [] M_13) fun v_16 M_15 => if (a_rec M_15 8 [.inr a0, .inl v_16] = true ∧ ([] : List mV).length ≤ 8) then (c_I (ev 120 0 [some (.inr a0), some (.inl v_16)] [] M_15) fun v_18 M_17 => if v_18 = 3 then (if h_k M_17 a0 = 8 then (if (h_k M_17 (h_r M_17 a0 14) = 9 ∨ h_k M_17 (h_r M_17 a0 14) = 14) ∧ h_in v_16 (h_l M_17 (h_r M_17 a0 14)) then (if (h_i M_17 (h_r M_17 a0 14) (v_16).toNatClampNeg) = 0 then (if h_k M_17 a0 = 8 then (if (h_k M_17 (h_r M_17 a0 16) = 9 ∨ h_k M_17 (h_r M_17 a0 16) = 14) ∧ h_in v_16 (h_l M_17 (h_r M_17 a0 16)) then (if (h_i M_17 (h_r M_17 a0 16) (v_16).toNatClampNeg) = 1 then (if (a_rec M_17 8 [.inr a0, .inl i2, .inl 5, .inl i1] = true ∧ ([] : List mV).length ≤ 8) then (c_V (ev 109 0 [some (.inr a0), some (.inl i2), some (.inl 5), some (.inl i1), none] [] M_17) fun M_19 => if h_k M_19 a0 = 8 then (if h_k M_19 (h_r M_19 a0 27) = 9 ∧ h_in i2 (h_l M_19 (h_r M_19 a0 27)) then (ev 148 84 [some (.inr a0), some (.inl i1), some (.inl i2), some (.inl i3), some (.inl i4), some (.inl v_16), some (.inl 0)] [] (h_si M_19 (h_r M_19 a0 27) (i2).toNatClampNeg i3)) else none) else none) else none) else (ev 148 68 [some (.inr a0), some (.inl i1), some (.inl i2), some (.inl i3), some (.inl i4), some (.inl v_16), none] [] M_17)) else none) else none) else (ev 148 68 [some (.inr a0), some (.inl i1), some (.inl i2), some (.inl i3), some (.inl i4), some (.inl v_16), none] [] M_17)) else none) else none) else (ev 148 68 [some (.inr a0), some (.inl i1), some (.inl i2), some (.inl i3), some (.inl i4), some (.inl v_16), none] [] M_17)) else none) else none) else (if (a_rec M_13 8 [.inr a0, .inl 3] = true ∧ ([] : List mV).length ≤ 8) then (c_I (ev 106 0 [some (.inr a0), some (.inl 3)] [] M_13) fun v_21 M_20 => if v_21 = 0 ∨ v_21 = 1 then some (some (.inl v_21), M_20) else none) else none)) else none) else none)) else none)) else none)) else none)) else none)) else none)) else none)) else none := by
  refine (ev_ns c_148 2 (ip' := 2) (ls' := [some (.inr a0), some (.inl i1), some (.inl i2), some (.inl i3), some (.inl i4), none, none]) (st' := [.inl i1, .inr a0]) (M' := M) rfl).trans ?_
  refine (ev_gI (a_rec M 8 [.inr a0, .inl i1] = true ∧ ([] : List mV).length ≤ 8) (as := [.inr a0, .inl i1]) (rr := []) c_148 c_107 rfl).trans (t_i (t_cI ?_) rfl)
  intro v_2 M_1
  refine (ev_i (v_2 = 0) (i1 := 15) (l1 := [some (.inr a0), some (.inl i1), some (.inl i2), some (.inl i3), some (.inl i4), none, none]) (s1 := []) (M1 := M_1) (i2 := 4) (l2 := [some (.inr a0), some (.inl i1), some (.inl i2), some (.inl i3), some (.inl i4), none, none]) (s2 := []) (M2 := M_1) c_148 rfl).trans (t_i ?_ ?_)
  · skip
    exact rfl
  · skip
    refine (ev_ns c_148 2 (ip' := 6) (ls' := [some (.inr a0), some (.inl i1), some (.inl i2), some (.inl i3), some (.inl i4), none, none]) (st' := [.inl i2, .inr a0]) (M' := M_1) rfl).trans ?_
    refine (ev_gI (a_rec M_1 8 [.inr a0, .inl i2] = true ∧ ([] : List mV).length ≤ 8) (as := [.inr a0, .inl i2]) (rr := []) c_148 c_107 rfl).trans (t_i (t_cI ?_) rfl)
    intro v_4 M_3
    refine (ev_i (v_4 = 0) (i1 := 15) (l1 := [some (.inr a0), some (.inl i1), some (.inl i2), some (.inl i3), some (.inl i4), none, none]) (s1 := []) (M1 := M_3) (i2 := 8) (l2 := [some (.inr a0), some (.inl i1), some (.inl i2), some (.inl i3), some (.inl i4), none, none]) (s2 := []) (M2 := M_3) c_148 rfl).trans (t_i ?_ ?_)
    · skip
      exact rfl
    · skip
      refine (ev_ns c_148 2 (ip' := 10) (ls' := [some (.inr a0), some (.inl i1), some (.inl i2), some (.inl i3), some (.inl i4), none, none]) (st' := [.inl i4, .inr a0]) (M' := M_3) rfl).trans ?_
      refine (ev_gI (a_rec M_3 8 [.inr a0, .inl i4] = true ∧ ([] : List mV).length ≤ 8) (as := [.inr a0, .inl i4]) (rr := []) c_148 c_107 rfl).trans (t_i (t_cI ?_) rfl)
      intro v_6 M_5
      refine (ev_i (v_6 = 0) (i1 := 15) (l1 := [some (.inr a0), some (.inl i1), some (.inl i2), some (.inl i3), some (.inl i4), none, none]) (s1 := []) (M1 := M_5) (i2 := 12) (l2 := [some (.inr a0), some (.inl i1), some (.inl i2), some (.inl i3), some (.inl i4), none, none]) (s2 := []) (M2 := M_5) c_148 rfl).trans (t_i ?_ ?_)
      · skip
        exact rfl
      · skip
        refine (ev_ns c_148 1 (ip' := 13) (ls' := [some (.inr a0), some (.inl i1), some (.inl i2), some (.inl i3), some (.inl i4), none, none]) (st' := [.inl i3]) (M' := M_5) rfl).trans ?_
        refine (ev_gI (a_rec M_5 0 [.inl i3] = true ∧ ([] : List mV).length ≤ 8) (as := [.inl i3]) (rr := []) c_148 c_123 rfl).trans (t_i (t_cI ?_) rfl)
        intro v_8 M_7
        refine (ev_i (v_8 = 0) (i1 := 15) (l1 := [some (.inr a0), some (.inl i1), some (.inl i2), some (.inl i3), some (.inl i4), none, none]) (s1 := []) (M1 := M_7) (i2 := 19) (l2 := [some (.inr a0), some (.inl i1), some (.inl i2), some (.inl i3), some (.inl i4), none, none]) (s2 := []) (M2 := M_7) c_148 rfl).trans (t_i ?_ ?_)
        · skip
          exact rfl
        · skip
          refine (ev_ns c_148 3 (ip' := 22) (ls' := [some (.inr a0), some (.inl i1), some (.inl i2), some (.inl i3), some (.inl i4), none, none]) (st' := [.inl 2, .inl i1, .inr a0]) (M' := M_7) rfl).trans ?_
          refine (ev_gI (a_rec M_7 8 [.inr a0, .inl i1, .inl 2] = true ∧ ([] : List mV).length ≤ 8) (as := [.inr a0, .inl i1, .inl 2]) (rr := []) c_148 c_108 rfl).trans (t_i (t_cI ?_) rfl)
          intro v_10 M_9
          refine (ev_i (v_10 = 0) (i1 := 34) (l1 := [some (.inr a0), some (.inl i1), some (.inl i2), some (.inl i3), some (.inl i4), none, none]) (s1 := []) (M1 := M_9) (i2 := 24) (l2 := [some (.inr a0), some (.inl i1), some (.inl i2), some (.inl i3), some (.inl i4), none, none]) (s2 := []) (M2 := M_9) c_148 rfl).trans (t_i ?_ ?_)
          · skip
            exact rfl
          · skip
            refine (ev_ns c_148 3 (ip' := 27) (ls' := [some (.inr a0), some (.inl i1), some (.inl i2), some (.inl i3), some (.inl i4), none, none]) (st' := [.inl 1, .inl i2, .inr a0]) (M' := M_9) rfl).trans ?_
            refine (ev_gI (a_rec M_9 8 [.inr a0, .inl i2, .inl 1] = true ∧ ([] : List mV).length ≤ 8) (as := [.inr a0, .inl i2, .inl 1]) (rr := []) c_148 c_108 rfl).trans (t_i (t_cI ?_) rfl)
            intro v_12 M_11
            refine (ev_i (v_12 = 0) (i1 := 34) (l1 := [some (.inr a0), some (.inl i1), some (.inl i2), some (.inl i3), some (.inl i4), none, none]) (s1 := []) (M1 := M_11) (i2 := 29) (l2 := [some (.inr a0), some (.inl i1), some (.inl i2), some (.inl i3), some (.inl i4), none, none]) (s2 := []) (M2 := M_11) c_148 rfl).trans (t_i ?_ ?_)
            · skip
              exact rfl
            · skip
              refine (ev_ns c_148 3 (ip' := 32) (ls' := [some (.inr a0), some (.inl i1), some (.inl i2), some (.inl i3), some (.inl i4), none, none]) (st' := [.inl 0, .inl i4, .inr a0]) (M' := M_11) rfl).trans ?_
              refine (ev_gI (a_rec M_11 8 [.inr a0, .inl i4, .inl 0] = true ∧ ([] : List mV).length ≤ 8) (as := [.inr a0, .inl i4, .inl 0]) (rr := []) c_148 c_108 rfl).trans (t_i (t_cI ?_) rfl)
              intro v_14 M_13
              refine (ev_i (v_14 = 0) (i1 := 34) (l1 := [some (.inr a0), some (.inl i1), some (.inl i2), some (.inl i3), some (.inl i4), none, none]) (s1 := []) (M1 := M_13) (i2 := 38) (l2 := [some (.inr a0), some (.inl i1), some (.inl i2), some (.inl i3), some (.inl i4), none, none]) (s2 := []) (M2 := M_13) c_148 rfl).trans (t_i ?_ ?_)
              · skip
                exact rfl
              · skip
                refine (ev_ns c_148 1 (ip' := 39) (ls' := [some (.inr a0), some (.inl i1), some (.inl i2), some (.inl i3), some (.inl i4), none, none]) (st' := [.inr a0]) (M' := M_13) rfl).trans ?_
                refine (ev_g (h_k M_13 a0 = 8) (ip' := 40) (ls' := [some (.inr a0), some (.inl i1), some (.inl i2), some (.inl i3), some (.inl i4), none, none]) (st' := [.inr (h_r M_13 a0 8)]) (M' := M_13) c_148 rfl).trans (t_i ?_ rfl)
                refine (ev_ns c_148 1 (ip' := 41) (ls' := [some (.inr a0), some (.inl i1), some (.inl i2), some (.inl i3), some (.inl i4), none, none]) (st' := [.inl i1, .inr (h_r M_13 a0 8)]) (M' := M_13) rfl).trans ?_
                refine (ev_g ((h_k M_13 (h_r M_13 a0 8) = 9 ∨ h_k M_13 (h_r M_13 a0 8) = 14) ∧ h_in i1 (h_l M_13 (h_r M_13 a0 8))) (ip' := 42) (ls' := [some (.inr a0), some (.inl i1), some (.inl i2), some (.inl i3), some (.inl i4), none, none]) (st' := [.inl (h_i M_13 (h_r M_13 a0 8) (i1).toNatClampNeg)]) (M' := M_13) c_148 rfl).trans (t_i ?_ rfl)
                refine (ev_i ((h_i M_13 (h_r M_13 a0 8) (i1).toNatClampNeg) = 0) (i1 := 47) (l1 := [some (.inr a0), some (.inl i1), some (.inl i2), some (.inl i3), some (.inl i4), none, none]) (s1 := []) (M1 := M_13) (i2 := 43) (l2 := [some (.inr a0), some (.inl i1), some (.inl i2), some (.inl i3), some (.inl i4), none, none]) (s2 := []) (M2 := M_13) c_148 rfl).trans (t_i ?_ ?_)
                · skip
                  refine (ev_ns c_148 3 (ip' := 50) (ls' := [some (.inr a0), some (.inl i1), some (.inl i2), some (.inl i3), some (.inl i4), none, none]) (st' := [.inl i3, .inl i1, .inr a0]) (M' := M_13) rfl).trans ?_
                  refine (ev_gI (a_rec M_13 8 [.inr a0, .inl i1, .inl i3] = true ∧ ([] : List mV).length ≤ 8) (as := [.inr a0, .inl i1, .inl i3]) (rr := []) c_148 c_119 rfl).trans (t_i (t_cI ?_) rfl)
                  intro v_16 M_15
                  refine (ev_ns c_148 3 (ip' := 54) (ls' := [some (.inr a0), some (.inl i1), some (.inl i2), some (.inl i3), some (.inl i4), some (.inl v_16), none]) (st' := [.inl v_16, .inr a0]) (M' := M_15) rfl).trans ?_
                  refine (ev_gI (a_rec M_15 8 [.inr a0, .inl v_16] = true ∧ ([] : List mV).length ≤ 8) (as := [.inr a0, .inl v_16]) (rr := []) c_148 c_120 rfl).trans (t_i (t_cI ?_) rfl)
                  intro v_18 M_17
                  refine (ev_ns c_148 1 (ip' := 56) (ls' := [some (.inr a0), some (.inl i1), some (.inl i2), some (.inl i3), some (.inl i4), some (.inl v_16), none]) (st' := [.inl 3, .inl v_18]) (M' := M_17) rfl).trans ?_
                  refine (ev_i (v_18 = 3) (i1 := 57) (l1 := [some (.inr a0), some (.inl i1), some (.inl i2), some (.inl i3), some (.inl i4), some (.inl v_16), none]) (s1 := []) (M1 := M_17) (i2 := 68) (l2 := [some (.inr a0), some (.inl i1), some (.inl i2), some (.inl i3), some (.inl i4), some (.inl v_16), none]) (s2 := []) (M2 := M_17) c_148 rfl).trans (t_i ?_ ?_)
                  · skip
                    refine (ev_ns c_148 1 (ip' := 58) (ls' := [some (.inr a0), some (.inl i1), some (.inl i2), some (.inl i3), some (.inl i4), some (.inl v_16), none]) (st' := [.inr a0]) (M' := M_17) rfl).trans ?_
                    refine (ev_g (h_k M_17 a0 = 8) (ip' := 59) (ls' := [some (.inr a0), some (.inl i1), some (.inl i2), some (.inl i3), some (.inl i4), some (.inl v_16), none]) (st' := [.inr (h_r M_17 a0 14)]) (M' := M_17) c_148 rfl).trans (t_i ?_ rfl)
                    refine (ev_ns c_148 1 (ip' := 60) (ls' := [some (.inr a0), some (.inl i1), some (.inl i2), some (.inl i3), some (.inl i4), some (.inl v_16), none]) (st' := [.inl v_16, .inr (h_r M_17 a0 14)]) (M' := M_17) rfl).trans ?_
                    refine (ev_g ((h_k M_17 (h_r M_17 a0 14) = 9 ∨ h_k M_17 (h_r M_17 a0 14) = 14) ∧ h_in v_16 (h_l M_17 (h_r M_17 a0 14))) (ip' := 61) (ls' := [some (.inr a0), some (.inl i1), some (.inl i2), some (.inl i3), some (.inl i4), some (.inl v_16), none]) (st' := [.inl (h_i M_17 (h_r M_17 a0 14) (v_16).toNatClampNeg)]) (M' := M_17) c_148 rfl).trans (t_i ?_ rfl)
                    refine (ev_i ((h_i M_17 (h_r M_17 a0 14) (v_16).toNatClampNeg) = 0) (i1 := 62) (l1 := [some (.inr a0), some (.inl i1), some (.inl i2), some (.inl i3), some (.inl i4), some (.inl v_16), none]) (s1 := []) (M1 := M_17) (i2 := 68) (l2 := [some (.inr a0), some (.inl i1), some (.inl i2), some (.inl i3), some (.inl i4), some (.inl v_16), none]) (s2 := []) (M2 := M_17) c_148 rfl).trans (t_i ?_ ?_)
                    · skip
                      refine (ev_ns c_148 1 (ip' := 63) (ls' := [some (.inr a0), some (.inl i1), some (.inl i2), some (.inl i3), some (.inl i4), some (.inl v_16), none]) (st' := [.inr a0]) (M' := M_17) rfl).trans ?_
                      refine (ev_g (h_k M_17 a0 = 8) (ip' := 64) (ls' := [some (.inr a0), some (.inl i1), some (.inl i2), some (.inl i3), some (.inl i4), some (.inl v_16), none]) (st' := [.inr (h_r M_17 a0 16)]) (M' := M_17) c_148 rfl).trans (t_i ?_ rfl)
                      refine (ev_ns c_148 1 (ip' := 65) (ls' := [some (.inr a0), some (.inl i1), some (.inl i2), some (.inl i3), some (.inl i4), some (.inl v_16), none]) (st' := [.inl v_16, .inr (h_r M_17 a0 16)]) (M' := M_17) rfl).trans ?_
                      refine (ev_g ((h_k M_17 (h_r M_17 a0 16) = 9 ∨ h_k M_17 (h_r M_17 a0 16) = 14) ∧ h_in v_16 (h_l M_17 (h_r M_17 a0 16))) (ip' := 66) (ls' := [some (.inr a0), some (.inl i1), some (.inl i2), some (.inl i3), some (.inl i4), some (.inl v_16), none]) (st' := [.inl (h_i M_17 (h_r M_17 a0 16) (v_16).toNatClampNeg)]) (M' := M_17) c_148 rfl).trans (t_i ?_ rfl)
                      refine (ev_ns c_148 1 (ip' := 67) (ls' := [some (.inr a0), some (.inl i1), some (.inl i2), some (.inl i3), some (.inl i4), some (.inl v_16), none]) (st' := [.inl 1, .inl (h_i M_17 (h_r M_17 a0 16) (v_16).toNatClampNeg)]) (M' := M_17) rfl).trans ?_
                      refine (ev_i ((h_i M_17 (h_r M_17 a0 16) (v_16).toNatClampNeg) = 1) (i1 := 72) (l1 := [some (.inr a0), some (.inl i1), some (.inl i2), some (.inl i3), some (.inl i4), some (.inl v_16), none]) (s1 := []) (M1 := M_17) (i2 := 68) (l2 := [some (.inr a0), some (.inl i1), some (.inl i2), some (.inl i3), some (.inl i4), some (.inl v_16), none]) (s2 := []) (M2 := M_17) c_148 rfl).trans (t_i ?_ ?_)
                      · skip
                        refine (ev_ns c_148 4 (ip' := 76) (ls' := [some (.inr a0), some (.inl i1), some (.inl i2), some (.inl i3), some (.inl i4), some (.inl v_16), none]) (st' := [.inl i1, .inl 5, .inl i2, .inr a0]) (M' := M_17) rfl).trans ?_
                        refine (ev_gV (a_rec M_17 8 [.inr a0, .inl i2, .inl 5, .inl i1] = true ∧ ([] : List mV).length ≤ 8) (as := [.inr a0, .inl i2, .inl 5, .inl i1]) (rr := []) c_148 c_109 rfl).trans (t_i (t_cV ?_) rfl)
                        intro M_19
                        refine (ev_ns c_148 1 (ip' := 78) (ls' := [some (.inr a0), some (.inl i1), some (.inl i2), some (.inl i3), some (.inl i4), some (.inl v_16), none]) (st' := [.inr a0]) (M' := M_19) rfl).trans ?_
                        refine (ev_g (h_k M_19 a0 = 8) (ip' := 79) (ls' := [some (.inr a0), some (.inl i1), some (.inl i2), some (.inl i3), some (.inl i4), some (.inl v_16), none]) (st' := [.inr (h_r M_19 a0 27)]) (M' := M_19) c_148 rfl).trans (t_i ?_ rfl)
                        refine (ev_ns c_148 2 (ip' := 81) (ls' := [some (.inr a0), some (.inl i1), some (.inl i2), some (.inl i3), some (.inl i4), some (.inl v_16), none]) (st' := [.inl i3, .inl i2, .inr (h_r M_19 a0 27)]) (M' := M_19) rfl).trans ?_
                        refine (ev_g (h_k M_19 (h_r M_19 a0 27) = 9 ∧ h_in i2 (h_l M_19 (h_r M_19 a0 27))) (ip' := 82) (ls' := [some (.inr a0), some (.inl i1), some (.inl i2), some (.inl i3), some (.inl i4), some (.inl v_16), none]) (st' := []) (M' := h_si M_19 (h_r M_19 a0 27) (i2).toNatClampNeg i3) c_148 rfl).trans (t_i ?_ rfl)
                        exact ev_ns c_148 2 (ip' := 84) (ls' := [some (.inr a0), some (.inl i1), some (.inl i2), some (.inl i3), some (.inl i4), some (.inl v_16), some (.inl 0)]) (st' := []) (M' := h_si M_19 (h_r M_19 a0 27) (i2).toNatClampNeg i3) rfl
                      · skip
                        exact rfl
                    · skip
                      exact rfl
                  · skip
                    exact rfl
                · skip
                  refine (ev_ns c_148 2 (ip' := 45) (ls' := [some (.inr a0), some (.inl i1), some (.inl i2), some (.inl i3), some (.inl i4), none, none]) (st' := [.inl 3, .inr a0]) (M' := M_13) rfl).trans ?_
                  refine (ev_gI (a_rec M_13 8 [.inr a0, .inl 3] = true ∧ ([] : List mV).length ≤ 8) (as := [.inr a0, .inl 3]) (rr := []) c_148 c_106 rfl).trans (t_i (t_cI ?_) rfl)
                  intro v_21 M_20
                  exact ev_gd (v_21 = 0 ∨ v_21 = 1) c_148 rfl
set_option maxRecDepth 20000 in
theorem e_148_15 (a0 : Nat) (i1 : Int32) (i2 : Int32) (i3 : Int32) (i4 : Int32) (M : mM) : ev 148 15 [some (.inr a0), some (.inl i1), some (.inl i2), some (.inl i3), some (.inl i4), none, none] [] M = if (a_rec M 8 [.inr a0, .inl 1] = true ∧ ([] : List mV).length ≤ 8) then (c_I (ev 106 0 [some (.inr a0), some (.inl 1)] [] M) fun v_2 M_1 => if v_2 = 0 ∨ v_2 = 1 then some (some (.inl v_2), M_1) else none) else none := by
  refine (ev_ns c_148 2 (ip' := 17) (ls' := [some (.inr a0), some (.inl i1), some (.inl i2), some (.inl i3), some (.inl i4), none, none]) (st' := [.inl 1, .inr a0]) (M' := M) rfl).trans ?_
  refine (ev_gI (a_rec M 8 [.inr a0, .inl 1] = true ∧ ([] : List mV).length ≤ 8) (as := [.inr a0, .inl 1]) (rr := []) c_148 c_106 rfl).trans (t_i (t_cI ?_) rfl)
  intro v_2 M_1
  exact ev_gd (v_2 = 0 ∨ v_2 = 1) c_148 rfl
set_option maxRecDepth 20000 in
theorem e_148_34 (a0 : Nat) (i1 : Int32) (i2 : Int32) (i3 : Int32) (i4 : Int32) (M : mM) : ev 148 34 [some (.inr a0), some (.inl i1), some (.inl i2), some (.inl i3), some (.inl i4), none, none] [] M = if (a_rec M 8 [.inr a0, .inl 2] = true ∧ ([] : List mV).length ≤ 8) then (c_I (ev 106 0 [some (.inr a0), some (.inl 2)] [] M) fun v_2 M_1 => if v_2 = 0 ∨ v_2 = 1 then some (some (.inl v_2), M_1) else none) else none := by
  refine (ev_ns c_148 2 (ip' := 36) (ls' := [some (.inr a0), some (.inl i1), some (.inl i2), some (.inl i3), some (.inl i4), none, none]) (st' := [.inl 2, .inr a0]) (M' := M) rfl).trans ?_
  refine (ev_gI (a_rec M 8 [.inr a0, .inl 2] = true ∧ ([] : List mV).length ≤ 8) (as := [.inr a0, .inl 2]) (rr := []) c_148 c_106 rfl).trans (t_i (t_cI ?_) rfl)
  intro v_2 M_1
  exact ev_gd (v_2 = 0 ∨ v_2 = 1) c_148 rfl
set_option maxRecDepth 20000 in
theorem e_148_68 (a0 : Nat) (i1 : Int32) (i2 : Int32) (i3 : Int32) (i4 : Int32) (i5 : Int32) (M : mM) : ev 148 68 [some (.inr a0), some (.inl i1), some (.inl i2), some (.inl i3), some (.inl i4), some (.inl i5), none] [] M = if (a_rec M 8 [.inr a0, .inl 5] = true ∧ ([] : List mV).length ≤ 8) then (c_I (ev 106 0 [some (.inr a0), some (.inl 5)] [] M) fun v_2 M_1 => if v_2 = 0 ∨ v_2 = 1 then some (some (.inl v_2), M_1) else none) else none := by
  refine (ev_ns c_148 2 (ip' := 70) (ls' := [some (.inr a0), some (.inl i1), some (.inl i2), some (.inl i3), some (.inl i4), some (.inl i5), none]) (st' := [.inl 5, .inr a0]) (M' := M) rfl).trans ?_
  refine (ev_gI (a_rec M 8 [.inr a0, .inl 5] = true ∧ ([] : List mV).length ≤ 8) (as := [.inr a0, .inl 5]) (rr := []) c_148 c_106 rfl).trans (t_i (t_cI ?_) rfl)
  intro v_2 M_1
  exact ev_gd (v_2 = 0 ∨ v_2 = 1) c_148 rfl
set_option maxRecDepth 20000 in
theorem e_148_84 (a0 : Nat) (i1 : Int32) (i2 : Int32) (i3 : Int32) (i4 : Int32) (i5 : Int32) (i6 : Int32) (M : mM) : ev 148 84 [some (.inr a0), some (.inl i1), some (.inl i2), some (.inl i3), some (.inl i4), some (.inl i5), some (.inl i6)] [] M = if (32 : Int32) ≤ i6 then (if (a_rec M 8 [.inr a0, .inl i5, .inl i2] = true ∧ ([] : List mV).length ≤ 8) then (c_V (ev 146 0 [some (.inr a0), some (.inl i5), some (.inl i2)] [] M) fun M_1 => if (a_rec M_1 8 [.inr a0, .inl i1, .inl i3, .inl i2] = true ∧ ([] : List mV).length ≤ 8) then (c_V (ev 147 0 [some (.inr a0), some (.inl i1), some (.inl i3), some (.inl i2), none] [] M_1) fun M_2 => if (a_rec M_2 8 [.inr a0, .inl 0] = true ∧ ([] : List mV).length ≤ 8) then (c_I (ev 106 0 [some (.inr a0), some (.inl 0)] [] M_2) fun v_4 M_3 => if v_4 = 0 ∨ v_4 = 1 then some (some (.inl v_4), M_3) else none) else none) else none) else none) else (if h_k M a0 = 8 then (if h_k M a0 = 8 then (if (h_k M (h_r M a0 6) = 9 ∨ h_k M (h_r M a0 6) = 14) ∧ h_in ((32 * i4) + i6) (h_l M (h_r M a0 6)) then (if h_k M (h_r M a0 6) = 9 ∧ h_in ((32 * i2) + i6) (h_l M (h_r M a0 6)) then (ev 148 84 [some (.inr a0), some (.inl i1), some (.inl i2), some (.inl i3), some (.inl i4), some (.inl i5), some (.inl (i6 + 1))] [] (h_si M (h_r M a0 6) (((32 * i2) + i6)).toNatClampNeg (h_i M (h_r M a0 6) (((32 * i4) + i6)).toNatClampNeg))) else none) else none) else none) else none) := by
  refine (ev_ns c_148 2 (ip' := 86) (ls' := [some (.inr a0), some (.inl i1), some (.inl i2), some (.inl i3), some (.inl i4), some (.inl i5), some (.inl i6)]) (st' := [.inl 32, .inl i6]) (M' := M) rfl).trans ?_
  refine (ev_i ((32 : Int32) ≤ i6) (i1 := 105) (l1 := [some (.inr a0), some (.inl i1), some (.inl i2), some (.inl i3), some (.inl i4), some (.inl i5), some (.inl i6)]) (s1 := []) (M1 := M) (i2 := 87) (l2 := [some (.inr a0), some (.inl i1), some (.inl i2), some (.inl i3), some (.inl i4), some (.inl i5), some (.inl i6)]) (s2 := []) (M2 := M) c_148 rfl).trans (t_i ?_ ?_)
  · skip
    refine (ev_ns c_148 3 (ip' := 108) (ls' := [some (.inr a0), some (.inl i1), some (.inl i2), some (.inl i3), some (.inl i4), some (.inl i5), some (.inl i6)]) (st' := [.inl i2, .inl i5, .inr a0]) (M' := M) rfl).trans ?_
    refine (ev_gV (a_rec M 8 [.inr a0, .inl i5, .inl i2] = true ∧ ([] : List mV).length ≤ 8) (as := [.inr a0, .inl i5, .inl i2]) (rr := []) c_148 c_146 rfl).trans (t_i (t_cV ?_) rfl)
    intro M_1
    refine (ev_ns c_148 4 (ip' := 113) (ls' := [some (.inr a0), some (.inl i1), some (.inl i2), some (.inl i3), some (.inl i4), some (.inl i5), some (.inl i6)]) (st' := [.inl i2, .inl i3, .inl i1, .inr a0]) (M' := M_1) rfl).trans ?_
    refine (ev_gV (a_rec M_1 8 [.inr a0, .inl i1, .inl i3, .inl i2] = true ∧ ([] : List mV).length ≤ 8) (as := [.inr a0, .inl i1, .inl i3, .inl i2]) (rr := []) c_148 c_147 rfl).trans (t_i (t_cV ?_) rfl)
    intro M_2
    refine (ev_ns c_148 2 (ip' := 116) (ls' := [some (.inr a0), some (.inl i1), some (.inl i2), some (.inl i3), some (.inl i4), some (.inl i5), some (.inl i6)]) (st' := [.inl 0, .inr a0]) (M' := M_2) rfl).trans ?_
    refine (ev_gI (a_rec M_2 8 [.inr a0, .inl 0] = true ∧ ([] : List mV).length ≤ 8) (as := [.inr a0, .inl 0]) (rr := []) c_148 c_106 rfl).trans (t_i (t_cI ?_) rfl)
    intro v_4 M_3
    exact ev_gd (v_4 = 0 ∨ v_4 = 1) c_148 rfl
  · skip
    refine (ev_ns c_148 1 (ip' := 88) (ls' := [some (.inr a0), some (.inl i1), some (.inl i2), some (.inl i3), some (.inl i4), some (.inl i5), some (.inl i6)]) (st' := [.inr a0]) (M' := M) rfl).trans ?_
    refine (ev_g (h_k M a0 = 8) (ip' := 89) (ls' := [some (.inr a0), some (.inl i1), some (.inl i2), some (.inl i3), some (.inl i4), some (.inl i5), some (.inl i6)]) (st' := [.inr (h_r M a0 6)]) (M' := M) c_148 rfl).trans (t_i ?_ rfl)
    refine (ev_ns c_148 6 (ip' := 95) (ls' := [some (.inr a0), some (.inl i1), some (.inl i2), some (.inl i3), some (.inl i4), some (.inl i5), some (.inl i6)]) (st' := [.inr a0, .inl ((32 * i2) + i6), .inr (h_r M a0 6)]) (M' := M) rfl).trans ?_
    refine (ev_g (h_k M a0 = 8) (ip' := 96) (ls' := [some (.inr a0), some (.inl i1), some (.inl i2), some (.inl i3), some (.inl i4), some (.inl i5), some (.inl i6)]) (st' := [.inr (h_r M a0 6), .inl ((32 * i2) + i6), .inr (h_r M a0 6)]) (M' := M) c_148 rfl).trans (t_i ?_ rfl)
    refine (ev_ns c_148 5 (ip' := 101) (ls' := [some (.inr a0), some (.inl i1), some (.inl i2), some (.inl i3), some (.inl i4), some (.inl i5), some (.inl i6)]) (st' := [.inl ((32 * i4) + i6), .inr (h_r M a0 6), .inl ((32 * i2) + i6), .inr (h_r M a0 6)]) (M' := M) rfl).trans ?_
    refine (ev_g ((h_k M (h_r M a0 6) = 9 ∨ h_k M (h_r M a0 6) = 14) ∧ h_in ((32 * i4) + i6) (h_l M (h_r M a0 6))) (ip' := 102) (ls' := [some (.inr a0), some (.inl i1), some (.inl i2), some (.inl i3), some (.inl i4), some (.inl i5), some (.inl i6)]) (st' := [.inl (h_i M (h_r M a0 6) (((32 * i4) + i6)).toNatClampNeg), .inl ((32 * i2) + i6), .inr (h_r M a0 6)]) (M' := M) c_148 rfl).trans (t_i ?_ rfl)
    refine (ev_g (h_k M (h_r M a0 6) = 9 ∧ h_in ((32 * i2) + i6) (h_l M (h_r M a0 6))) (ip' := 103) (ls' := [some (.inr a0), some (.inl i1), some (.inl i2), some (.inl i3), some (.inl i4), some (.inl i5), some (.inl i6)]) (st' := []) (M' := h_si M (h_r M a0 6) (((32 * i2) + i6)).toNatClampNeg (h_i M (h_r M a0 6) (((32 * i4) + i6)).toNatClampNeg)) c_148 rfl).trans (t_i ?_ rfl)
    exact ev_ns c_148 2 (ip' := 84) (ls' := [some (.inr a0), some (.inl i1), some (.inl i2), some (.inl i3), some (.inl i4), some (.inl i5), some (.inl (i6 + 1))]) (st' := []) (M' := h_si M (h_r M a0 6) (((32 * i2) + i6)).toNatClampNeg (h_i M (h_r M a0 6) (((32 * i4) + i6)).toNatClampNeg)) rfl
/- 149: GranuleHallModel.unknown(III)Z -/
set_option maxRecDepth 20000 in
theorem e_149_0 (a0 : Nat) (i1 : Int32) (i2 : Int32) (i3 : Int32) (M : mM) : ev 149 0 [some (.inr a0), some (.inl i1), some (.inl i2), some (.inl i3), none] [] M = if (a_rec M 8 [.inr a0, .inl i1] = true ∧ ([] : List mV).length ≤ 8) then (c_I (ev 107 0 [some (.inr a0), some (.inl i1)] [] M) fun v_2 M_1 => if v_2 = 0 then (ev 149 11 [some (.inr a0), some (.inl i1), some (.inl i2), some (.inl i3), none] [] M_1) else (if (a_rec M_1 8 [.inr a0, .inl i2] = true ∧ ([] : List mV).length ≤ 8) then (c_I (ev 107 0 [some (.inr a0), some (.inl i2)] [] M_1) fun v_4 M_3 => if v_4 = 0 then (ev 149 11 [some (.inr a0), some (.inl i1), some (.inl i2), some (.inl i3), none] [] M_3) else (if (a_rec M_3 0 [.inl i3] = true ∧ ([] : List mV).length ≤ 8) then (c_I (ev 123 0 [some (.inl i3)] [] M_3) fun v_6 M_5 => if v_6 = 0 then (ev 149 11 [some (.inr a0), some (.inl i1), some (.inl i2), some (.inl i3), none] [] M_5) else (if (a_rec M_5 8 [.inr a0, .inl i1, .inl 2] = true ∧ ([] : List mV).length ≤ 8) then (c_I (ev 108 0 [some (.inr a0), some (.inl i1), some (.inl 2)] [] M_5) fun v_8 M_7 => if v_8 = 0 then (ev 149 25 [some (.inr a0), some (.inl i1), some (.inl i2), some (.inl i3), none] [] M_7) else (if (a_rec M_7 8 [.inr a0, .inl i2, .inl 1] = true ∧ ([] : List mV).length ≤ 8) then (c_I (ev 108 0 [some (.inr a0), some (.inl i2), some (.inl 1)] [] M_7) fun v_10 M_9 => if v_10 = 0 then (ev 149 25 [some (.inr a0), some (.inl i1), some (.inl i2), some (.inl i3), none] [] M_9) else (if h_k M_9 a0 = 8 then (if (h_k M_9 (h_r M_9 a0 8) = 9 ∨ h_k M_9 (h_r M_9 a0 8) = 14) ∧ h_in i1 (h_l M_9 (h_r M_9 a0 8)) then (if (h_i M_9 (h_r M_9 a0 8) (i1).toNatClampNeg) = 2 then (if (a_rec M_9 8 [.inr a0, .inl 3] = true ∧ ([] : List mV).length ≤ 8) then (c_I (ev 106 0 [some (.inr a0), some (.inl 3)] [] M_9) fun v_12 M_11 => if v_12 = 0 ∨ v_12 = 1 then some (some (.inl v_12), M_11) else none) else none) else (if (a_rec M_9 8 [.inr a0, .inl i1, .inl i3] = true ∧ ([] : List mV).length ≤ 8) then (c_I (ev 119 0 [some (.inr a0), some (.inl i1), some (.inl i3)] [] M_9) fun v_14 M_13 => if (a_rec M_13 8 [.inr a0, .inl v_14] = true ∧ ([] : List mV).length ≤ 8) then (c_I (ev 120 0 [some (.inr a0), some (.inl v_14)] [] M_13) fun v_16 M_15 => if v_16 = 3 then (if h_k M_15 a0 = 8 then (if (h_k M_15 (h_r M_15 a0 14) = 9 ∨ h_k M_15 (h_r M_15 a0 14) = 14) ∧ h_in v_14 (h_l M_15 (h_r M_15 a0 14)) then (if (h_i M_15 (h_r M_15 a0 14) (v_14).toNatClampNeg) = 0 then (if (a_rec M_15 8 [.inr a0, .inl i2, .inl 5, .inl i1] = true ∧ ([] : List mV).length ≤ 8) then (c_V (ev 109 0 [some (.inr a0), some (.inl i2), some (.inl 5), some (.inl i1), none] [] M_15) fun M_17 => if h_k M_17 a0 = 8 then (if h_k M_17 (h_r M_17 a0 27) = 9 ∧ h_in i2 (h_l M_17 (h_r M_17 a0 27)) then (if (a_rec (h_si M_17 (h_r M_17 a0 27) (i2).toNatClampNeg i3) 8 [.inr a0, .inl v_14, .inl i2] = true ∧ ([] : List mV).length ≤ 8) then (c_V (ev 146 0 [some (.inr a0), some (.inl v_14), some (.inl i2)] [] (h_si M_17 (h_r M_17 a0 27) (i2).toNatClampNeg i3)) fun M_18 => if (a_rec M_18 8 [.inr a0, .inl 0] = true ∧ ([] : List mV).length ≤ 8) then (c_I (ev 106 0 [some (.inr a0), some (.inl 0)] [] M_18) fun v_20 M_19 => if v_20 = 0 ∨ v_20 = 1 then some (some (.inl v_20), M_19) else none) else none) else none) else none) else none) else none) else (ev 149 54 [some (.inr a0), some (.inl i1), some (.inl i2), some (.inl i3), some (.inl v_14)] [] M_15)) else none) else none) else (ev 149 54 [some (.inr a0), some (.inl i1), some (.inl i2), some (.inl i3), some (.inl v_14)] [] M_15)) else none) else none)) else none) else none)) else none)) else none)) else none)) else none)) else none := by
  refine (ev_ns c_149 2 (ip' := 2) (ls' := [some (.inr a0), some (.inl i1), some (.inl i2), some (.inl i3), none]) (st' := [.inl i1, .inr a0]) (M' := M) rfl).trans ?_
  refine (ev_gI (a_rec M 8 [.inr a0, .inl i1] = true ∧ ([] : List mV).length ≤ 8) (as := [.inr a0, .inl i1]) (rr := []) c_149 c_107 rfl).trans (t_i (t_cI ?_) rfl)
  intro v_2 M_1
  refine (ev_i (v_2 = 0) (i1 := 11) (l1 := [some (.inr a0), some (.inl i1), some (.inl i2), some (.inl i3), none]) (s1 := []) (M1 := M_1) (i2 := 4) (l2 := [some (.inr a0), some (.inl i1), some (.inl i2), some (.inl i3), none]) (s2 := []) (M2 := M_1) c_149 rfl).trans (t_i ?_ ?_)
  · skip
    exact rfl
  · skip
    refine (ev_ns c_149 2 (ip' := 6) (ls' := [some (.inr a0), some (.inl i1), some (.inl i2), some (.inl i3), none]) (st' := [.inl i2, .inr a0]) (M' := M_1) rfl).trans ?_
    refine (ev_gI (a_rec M_1 8 [.inr a0, .inl i2] = true ∧ ([] : List mV).length ≤ 8) (as := [.inr a0, .inl i2]) (rr := []) c_149 c_107 rfl).trans (t_i (t_cI ?_) rfl)
    intro v_4 M_3
    refine (ev_i (v_4 = 0) (i1 := 11) (l1 := [some (.inr a0), some (.inl i1), some (.inl i2), some (.inl i3), none]) (s1 := []) (M1 := M_3) (i2 := 8) (l2 := [some (.inr a0), some (.inl i1), some (.inl i2), some (.inl i3), none]) (s2 := []) (M2 := M_3) c_149 rfl).trans (t_i ?_ ?_)
    · skip
      exact rfl
    · skip
      refine (ev_ns c_149 1 (ip' := 9) (ls' := [some (.inr a0), some (.inl i1), some (.inl i2), some (.inl i3), none]) (st' := [.inl i3]) (M' := M_3) rfl).trans ?_
      refine (ev_gI (a_rec M_3 0 [.inl i3] = true ∧ ([] : List mV).length ≤ 8) (as := [.inl i3]) (rr := []) c_149 c_123 rfl).trans (t_i (t_cI ?_) rfl)
      intro v_6 M_5
      refine (ev_i (v_6 = 0) (i1 := 11) (l1 := [some (.inr a0), some (.inl i1), some (.inl i2), some (.inl i3), none]) (s1 := []) (M1 := M_5) (i2 := 15) (l2 := [some (.inr a0), some (.inl i1), some (.inl i2), some (.inl i3), none]) (s2 := []) (M2 := M_5) c_149 rfl).trans (t_i ?_ ?_)
      · skip
        exact rfl
      · skip
        refine (ev_ns c_149 3 (ip' := 18) (ls' := [some (.inr a0), some (.inl i1), some (.inl i2), some (.inl i3), none]) (st' := [.inl 2, .inl i1, .inr a0]) (M' := M_5) rfl).trans ?_
        refine (ev_gI (a_rec M_5 8 [.inr a0, .inl i1, .inl 2] = true ∧ ([] : List mV).length ≤ 8) (as := [.inr a0, .inl i1, .inl 2]) (rr := []) c_149 c_108 rfl).trans (t_i (t_cI ?_) rfl)
        intro v_8 M_7
        refine (ev_i (v_8 = 0) (i1 := 25) (l1 := [some (.inr a0), some (.inl i1), some (.inl i2), some (.inl i3), none]) (s1 := []) (M1 := M_7) (i2 := 20) (l2 := [some (.inr a0), some (.inl i1), some (.inl i2), some (.inl i3), none]) (s2 := []) (M2 := M_7) c_149 rfl).trans (t_i ?_ ?_)
        · skip
          exact rfl
        · skip
          refine (ev_ns c_149 3 (ip' := 23) (ls' := [some (.inr a0), some (.inl i1), some (.inl i2), some (.inl i3), none]) (st' := [.inl 1, .inl i2, .inr a0]) (M' := M_7) rfl).trans ?_
          refine (ev_gI (a_rec M_7 8 [.inr a0, .inl i2, .inl 1] = true ∧ ([] : List mV).length ≤ 8) (as := [.inr a0, .inl i2, .inl 1]) (rr := []) c_149 c_108 rfl).trans (t_i (t_cI ?_) rfl)
          intro v_10 M_9
          refine (ev_i (v_10 = 0) (i1 := 25) (l1 := [some (.inr a0), some (.inl i1), some (.inl i2), some (.inl i3), none]) (s1 := []) (M1 := M_9) (i2 := 29) (l2 := [some (.inr a0), some (.inl i1), some (.inl i2), some (.inl i3), none]) (s2 := []) (M2 := M_9) c_149 rfl).trans (t_i ?_ ?_)
          · skip
            exact rfl
          · skip
            refine (ev_ns c_149 1 (ip' := 30) (ls' := [some (.inr a0), some (.inl i1), some (.inl i2), some (.inl i3), none]) (st' := [.inr a0]) (M' := M_9) rfl).trans ?_
            refine (ev_g (h_k M_9 a0 = 8) (ip' := 31) (ls' := [some (.inr a0), some (.inl i1), some (.inl i2), some (.inl i3), none]) (st' := [.inr (h_r M_9 a0 8)]) (M' := M_9) c_149 rfl).trans (t_i ?_ rfl)
            refine (ev_ns c_149 1 (ip' := 32) (ls' := [some (.inr a0), some (.inl i1), some (.inl i2), some (.inl i3), none]) (st' := [.inl i1, .inr (h_r M_9 a0 8)]) (M' := M_9) rfl).trans ?_
            refine (ev_g ((h_k M_9 (h_r M_9 a0 8) = 9 ∨ h_k M_9 (h_r M_9 a0 8) = 14) ∧ h_in i1 (h_l M_9 (h_r M_9 a0 8))) (ip' := 33) (ls' := [some (.inr a0), some (.inl i1), some (.inl i2), some (.inl i3), none]) (st' := [.inl (h_i M_9 (h_r M_9 a0 8) (i1).toNatClampNeg)]) (M' := M_9) c_149 rfl).trans (t_i ?_ rfl)
            refine (ev_ns c_149 1 (ip' := 34) (ls' := [some (.inr a0), some (.inl i1), some (.inl i2), some (.inl i3), none]) (st' := [.inl 2, .inl (h_i M_9 (h_r M_9 a0 8) (i1).toNatClampNeg)]) (M' := M_9) rfl).trans ?_
            refine (ev_i ((h_i M_9 (h_r M_9 a0 8) (i1).toNatClampNeg) = 2) (i1 := 35) (l1 := [some (.inr a0), some (.inl i1), some (.inl i2), some (.inl i3), none]) (s1 := []) (M1 := M_9) (i2 := 39) (l2 := [some (.inr a0), some (.inl i1), some (.inl i2), some (.inl i3), none]) (s2 := []) (M2 := M_9) c_149 rfl).trans (t_i ?_ ?_)
            · skip
              refine (ev_ns c_149 2 (ip' := 37) (ls' := [some (.inr a0), some (.inl i1), some (.inl i2), some (.inl i3), none]) (st' := [.inl 3, .inr a0]) (M' := M_9) rfl).trans ?_
              refine (ev_gI (a_rec M_9 8 [.inr a0, .inl 3] = true ∧ ([] : List mV).length ≤ 8) (as := [.inr a0, .inl 3]) (rr := []) c_149 c_106 rfl).trans (t_i (t_cI ?_) rfl)
              intro v_12 M_11
              exact ev_gd (v_12 = 0 ∨ v_12 = 1) c_149 rfl
            · skip
              refine (ev_ns c_149 3 (ip' := 42) (ls' := [some (.inr a0), some (.inl i1), some (.inl i2), some (.inl i3), none]) (st' := [.inl i3, .inl i1, .inr a0]) (M' := M_9) rfl).trans ?_
              refine (ev_gI (a_rec M_9 8 [.inr a0, .inl i1, .inl i3] = true ∧ ([] : List mV).length ≤ 8) (as := [.inr a0, .inl i1, .inl i3]) (rr := []) c_149 c_119 rfl).trans (t_i (t_cI ?_) rfl)
              intro v_14 M_13
              refine (ev_ns c_149 3 (ip' := 46) (ls' := [some (.inr a0), some (.inl i1), some (.inl i2), some (.inl i3), some (.inl v_14)]) (st' := [.inl v_14, .inr a0]) (M' := M_13) rfl).trans ?_
              refine (ev_gI (a_rec M_13 8 [.inr a0, .inl v_14] = true ∧ ([] : List mV).length ≤ 8) (as := [.inr a0, .inl v_14]) (rr := []) c_149 c_120 rfl).trans (t_i (t_cI ?_) rfl)
              intro v_16 M_15
              refine (ev_ns c_149 1 (ip' := 48) (ls' := [some (.inr a0), some (.inl i1), some (.inl i2), some (.inl i3), some (.inl v_14)]) (st' := [.inl 3, .inl v_16]) (M' := M_15) rfl).trans ?_
              refine (ev_i (v_16 = 3) (i1 := 49) (l1 := [some (.inr a0), some (.inl i1), some (.inl i2), some (.inl i3), some (.inl v_14)]) (s1 := []) (M1 := M_15) (i2 := 54) (l2 := [some (.inr a0), some (.inl i1), some (.inl i2), some (.inl i3), some (.inl v_14)]) (s2 := []) (M2 := M_15) c_149 rfl).trans (t_i ?_ ?_)
              · skip
                refine (ev_ns c_149 1 (ip' := 50) (ls' := [some (.inr a0), some (.inl i1), some (.inl i2), some (.inl i3), some (.inl v_14)]) (st' := [.inr a0]) (M' := M_15) rfl).trans ?_
                refine (ev_g (h_k M_15 a0 = 8) (ip' := 51) (ls' := [some (.inr a0), some (.inl i1), some (.inl i2), some (.inl i3), some (.inl v_14)]) (st' := [.inr (h_r M_15 a0 14)]) (M' := M_15) c_149 rfl).trans (t_i ?_ rfl)
                refine (ev_ns c_149 1 (ip' := 52) (ls' := [some (.inr a0), some (.inl i1), some (.inl i2), some (.inl i3), some (.inl v_14)]) (st' := [.inl v_14, .inr (h_r M_15 a0 14)]) (M' := M_15) rfl).trans ?_
                refine (ev_g ((h_k M_15 (h_r M_15 a0 14) = 9 ∨ h_k M_15 (h_r M_15 a0 14) = 14) ∧ h_in v_14 (h_l M_15 (h_r M_15 a0 14))) (ip' := 53) (ls' := [some (.inr a0), some (.inl i1), some (.inl i2), some (.inl i3), some (.inl v_14)]) (st' := [.inl (h_i M_15 (h_r M_15 a0 14) (v_14).toNatClampNeg)]) (M' := M_15) c_149 rfl).trans (t_i ?_ rfl)
                refine (ev_i ((h_i M_15 (h_r M_15 a0 14) (v_14).toNatClampNeg) = 0) (i1 := 58) (l1 := [some (.inr a0), some (.inl i1), some (.inl i2), some (.inl i3), some (.inl v_14)]) (s1 := []) (M1 := M_15) (i2 := 54) (l2 := [some (.inr a0), some (.inl i1), some (.inl i2), some (.inl i3), some (.inl v_14)]) (s2 := []) (M2 := M_15) c_149 rfl).trans (t_i ?_ ?_)
                · skip
                  refine (ev_ns c_149 4 (ip' := 62) (ls' := [some (.inr a0), some (.inl i1), some (.inl i2), some (.inl i3), some (.inl v_14)]) (st' := [.inl i1, .inl 5, .inl i2, .inr a0]) (M' := M_15) rfl).trans ?_
                  refine (ev_gV (a_rec M_15 8 [.inr a0, .inl i2, .inl 5, .inl i1] = true ∧ ([] : List mV).length ≤ 8) (as := [.inr a0, .inl i2, .inl 5, .inl i1]) (rr := []) c_149 c_109 rfl).trans (t_i (t_cV ?_) rfl)
                  intro M_17
                  refine (ev_ns c_149 1 (ip' := 64) (ls' := [some (.inr a0), some (.inl i1), some (.inl i2), some (.inl i3), some (.inl v_14)]) (st' := [.inr a0]) (M' := M_17) rfl).trans ?_
                  refine (ev_g (h_k M_17 a0 = 8) (ip' := 65) (ls' := [some (.inr a0), some (.inl i1), some (.inl i2), some (.inl i3), some (.inl v_14)]) (st' := [.inr (h_r M_17 a0 27)]) (M' := M_17) c_149 rfl).trans (t_i ?_ rfl)
                  refine (ev_ns c_149 2 (ip' := 67) (ls' := [some (.inr a0), some (.inl i1), some (.inl i2), some (.inl i3), some (.inl v_14)]) (st' := [.inl i3, .inl i2, .inr (h_r M_17 a0 27)]) (M' := M_17) rfl).trans ?_
                  refine (ev_g (h_k M_17 (h_r M_17 a0 27) = 9 ∧ h_in i2 (h_l M_17 (h_r M_17 a0 27))) (ip' := 68) (ls' := [some (.inr a0), some (.inl i1), some (.inl i2), some (.inl i3), some (.inl v_14)]) (st' := []) (M' := h_si M_17 (h_r M_17 a0 27) (i2).toNatClampNeg i3) c_149 rfl).trans (t_i ?_ rfl)
                  refine (ev_ns c_149 3 (ip' := 71) (ls' := [some (.inr a0), some (.inl i1), some (.inl i2), some (.inl i3), some (.inl v_14)]) (st' := [.inl i2, .inl v_14, .inr a0]) (M' := h_si M_17 (h_r M_17 a0 27) (i2).toNatClampNeg i3) rfl).trans ?_
                  refine (ev_gV (a_rec (h_si M_17 (h_r M_17 a0 27) (i2).toNatClampNeg i3) 8 [.inr a0, .inl v_14, .inl i2] = true ∧ ([] : List mV).length ≤ 8) (as := [.inr a0, .inl v_14, .inl i2]) (rr := []) c_149 c_146 rfl).trans (t_i (t_cV ?_) rfl)
                  intro M_18
                  refine (ev_ns c_149 2 (ip' := 74) (ls' := [some (.inr a0), some (.inl i1), some (.inl i2), some (.inl i3), some (.inl v_14)]) (st' := [.inl 0, .inr a0]) (M' := M_18) rfl).trans ?_
                  refine (ev_gI (a_rec M_18 8 [.inr a0, .inl 0] = true ∧ ([] : List mV).length ≤ 8) (as := [.inr a0, .inl 0]) (rr := []) c_149 c_106 rfl).trans (t_i (t_cI ?_) rfl)
                  intro v_20 M_19
                  exact ev_gd (v_20 = 0 ∨ v_20 = 1) c_149 rfl
                · skip
                  exact rfl
              · skip
                exact rfl
set_option maxRecDepth 20000 in
theorem e_149_11 (a0 : Nat) (i1 : Int32) (i2 : Int32) (i3 : Int32) (M : mM) : ev 149 11 [some (.inr a0), some (.inl i1), some (.inl i2), some (.inl i3), none] [] M = if (a_rec M 8 [.inr a0, .inl 1] = true ∧ ([] : List mV).length ≤ 8) then (c_I (ev 106 0 [some (.inr a0), some (.inl 1)] [] M) fun v_2 M_1 => if v_2 = 0 ∨ v_2 = 1 then some (some (.inl v_2), M_1) else none) else none := by
  refine (ev_ns c_149 2 (ip' := 13) (ls' := [some (.inr a0), some (.inl i1), some (.inl i2), some (.inl i3), none]) (st' := [.inl 1, .inr a0]) (M' := M) rfl).trans ?_
  refine (ev_gI (a_rec M 8 [.inr a0, .inl 1] = true ∧ ([] : List mV).length ≤ 8) (as := [.inr a0, .inl 1]) (rr := []) c_149 c_106 rfl).trans (t_i (t_cI ?_) rfl)
  intro v_2 M_1
  exact ev_gd (v_2 = 0 ∨ v_2 = 1) c_149 rfl
set_option maxRecDepth 20000 in
theorem e_149_25 (a0 : Nat) (i1 : Int32) (i2 : Int32) (i3 : Int32) (M : mM) : ev 149 25 [some (.inr a0), some (.inl i1), some (.inl i2), some (.inl i3), none] [] M = if (a_rec M 8 [.inr a0, .inl 2] = true ∧ ([] : List mV).length ≤ 8) then (c_I (ev 106 0 [some (.inr a0), some (.inl 2)] [] M) fun v_2 M_1 => if v_2 = 0 ∨ v_2 = 1 then some (some (.inl v_2), M_1) else none) else none := by
  refine (ev_ns c_149 2 (ip' := 27) (ls' := [some (.inr a0), some (.inl i1), some (.inl i2), some (.inl i3), none]) (st' := [.inl 2, .inr a0]) (M' := M) rfl).trans ?_
  refine (ev_gI (a_rec M 8 [.inr a0, .inl 2] = true ∧ ([] : List mV).length ≤ 8) (as := [.inr a0, .inl 2]) (rr := []) c_149 c_106 rfl).trans (t_i (t_cI ?_) rfl)
  intro v_2 M_1
  exact ev_gd (v_2 = 0 ∨ v_2 = 1) c_149 rfl
set_option maxRecDepth 20000 in
theorem e_149_54 (a0 : Nat) (i1 : Int32) (i2 : Int32) (i3 : Int32) (i4 : Int32) (M : mM) : ev 149 54 [some (.inr a0), some (.inl i1), some (.inl i2), some (.inl i3), some (.inl i4)] [] M = if (a_rec M 8 [.inr a0, .inl 5] = true ∧ ([] : List mV).length ≤ 8) then (c_I (ev 106 0 [some (.inr a0), some (.inl 5)] [] M) fun v_2 M_1 => if v_2 = 0 ∨ v_2 = 1 then some (some (.inl v_2), M_1) else none) else none := by
  refine (ev_ns c_149 2 (ip' := 56) (ls' := [some (.inr a0), some (.inl i1), some (.inl i2), some (.inl i3), some (.inl i4)]) (st' := [.inl 5, .inr a0]) (M' := M) rfl).trans ?_
  refine (ev_gI (a_rec M 8 [.inr a0, .inl 5] = true ∧ ([] : List mV).length ≤ 8) (as := [.inr a0, .inl 5]) (rr := []) c_149 c_106 rfl).trans (t_i (t_cI ?_) rfl)
  intro v_2 M_1
  exact ev_gd (v_2 = 0 ∨ v_2 = 1) c_149 rfl
/- 150: GranuleHallModel.loses(I)I -/
set_option maxRecDepth 20000 in
theorem e_150_0 (a0 : Nat) (i1 : Int32) (M : mM) : ev 150 0 [some (.inr a0), some (.inl i1), none] [] M = if h_k M a0 = 8 then (if (h_k M (h_r M a0 15) = 9 ∨ h_k M (h_r M a0 15) = 14) ∧ h_in i1 (h_l M (h_r M a0 15)) then (if h_k M a0 = 8 then (if h_k M (h_r M a0 14) = 9 ∧ h_in i1 (h_l M (h_r M a0 14)) then (if h_k (h_si M (h_r M a0 14) (i1).toNatClampNeg 0) a0 = 8 then (if h_k (h_si M (h_r M a0 14) (i1).toNatClampNeg 0) (h_r (h_si M (h_r M a0 14) (i1).toNatClampNeg 0) a0 15) = 9 ∧ h_in i1 (h_l (h_si M (h_r M a0 14) (i1).toNatClampNeg 0) (h_r (h_si M (h_r M a0 14) (i1).toNatClampNeg 0) a0 15)) then (if h_k (h_si (h_si M (h_r M a0 14) (i1).toNatClampNeg 0) (h_r (h_si M (h_r M a0 14) (i1).toNatClampNeg 0) a0 15) (i1).toNatClampNeg (-1)) a0 = 8 then (some (some (.inl (h_i M (h_r M a0 15) (i1).toNatClampNeg)), h_si (h_si (h_si M (h_r M a0 14) (i1).toNatClampNeg 0) (h_r (h_si M (h_r M a0 14) (i1).toNatClampNeg 0) a0 15) (i1).toNatClampNeg (-1)) a0 1 0)) else none) else none) else none) else none) else none) else none) else none := by
  refine (ev_ns c_150 1 (ip' := 1) (ls' := [some (.inr a0), some (.inl i1), none]) (st' := [.inr a0]) (M' := M) rfl).trans ?_
  refine (ev_g (h_k M a0 = 8) (ip' := 2) (ls' := [some (.inr a0), some (.inl i1), none]) (st' := [.inr (h_r M a0 15)]) (M' := M) c_150 rfl).trans (t_i ?_ rfl)
  refine (ev_ns c_150 1 (ip' := 3) (ls' := [some (.inr a0), some (.inl i1), none]) (st' := [.inl i1, .inr (h_r M a0 15)]) (M' := M) rfl).trans ?_
  refine (ev_g ((h_k M (h_r M a0 15) = 9 ∨ h_k M (h_r M a0 15) = 14) ∧ h_in i1 (h_l M (h_r M a0 15))) (ip' := 4) (ls' := [some (.inr a0), some (.inl i1), none]) (st' := [.inl (h_i M (h_r M a0 15) (i1).toNatClampNeg)]) (M' := M) c_150 rfl).trans (t_i ?_ rfl)
  refine (ev_ns c_150 2 (ip' := 6) (ls' := [some (.inr a0), some (.inl i1), some (.inl (h_i M (h_r M a0 15) (i1).toNatClampNeg))]) (st' := [.inr a0]) (M' := M) rfl).trans ?_
  refine (ev_g (h_k M a0 = 8) (ip' := 7) (ls' := [some (.inr a0), some (.inl i1), some (.inl (h_i M (h_r M a0 15) (i1).toNatClampNeg))]) (st' := [.inr (h_r M a0 14)]) (M' := M) c_150 rfl).trans (t_i ?_ rfl)
  refine (ev_ns c_150 2 (ip' := 9) (ls' := [some (.inr a0), some (.inl i1), some (.inl (h_i M (h_r M a0 15) (i1).toNatClampNeg))]) (st' := [.inl 0, .inl i1, .inr (h_r M a0 14)]) (M' := M) rfl).trans ?_
  refine (ev_g (h_k M (h_r M a0 14) = 9 ∧ h_in i1 (h_l M (h_r M a0 14))) (ip' := 10) (ls' := [some (.inr a0), some (.inl i1), some (.inl (h_i M (h_r M a0 15) (i1).toNatClampNeg))]) (st' := []) (M' := h_si M (h_r M a0 14) (i1).toNatClampNeg 0) c_150 rfl).trans (t_i ?_ rfl)
  refine (ev_ns c_150 1 (ip' := 11) (ls' := [some (.inr a0), some (.inl i1), some (.inl (h_i M (h_r M a0 15) (i1).toNatClampNeg))]) (st' := [.inr a0]) (M' := h_si M (h_r M a0 14) (i1).toNatClampNeg 0) rfl).trans ?_
  refine (ev_g (h_k (h_si M (h_r M a0 14) (i1).toNatClampNeg 0) a0 = 8) (ip' := 12) (ls' := [some (.inr a0), some (.inl i1), some (.inl (h_i M (h_r M a0 15) (i1).toNatClampNeg))]) (st' := [.inr (h_r (h_si M (h_r M a0 14) (i1).toNatClampNeg 0) a0 15)]) (M' := h_si M (h_r M a0 14) (i1).toNatClampNeg 0) c_150 rfl).trans (t_i ?_ rfl)
  refine (ev_ns c_150 2 (ip' := 14) (ls' := [some (.inr a0), some (.inl i1), some (.inl (h_i M (h_r M a0 15) (i1).toNatClampNeg))]) (st' := [.inl (-1), .inl i1, .inr (h_r (h_si M (h_r M a0 14) (i1).toNatClampNeg 0) a0 15)]) (M' := h_si M (h_r M a0 14) (i1).toNatClampNeg 0) rfl).trans ?_
  refine (ev_g (h_k (h_si M (h_r M a0 14) (i1).toNatClampNeg 0) (h_r (h_si M (h_r M a0 14) (i1).toNatClampNeg 0) a0 15) = 9 ∧ h_in i1 (h_l (h_si M (h_r M a0 14) (i1).toNatClampNeg 0) (h_r (h_si M (h_r M a0 14) (i1).toNatClampNeg 0) a0 15))) (ip' := 15) (ls' := [some (.inr a0), some (.inl i1), some (.inl (h_i M (h_r M a0 15) (i1).toNatClampNeg))]) (st' := []) (M' := h_si (h_si M (h_r M a0 14) (i1).toNatClampNeg 0) (h_r (h_si M (h_r M a0 14) (i1).toNatClampNeg 0) a0 15) (i1).toNatClampNeg (-1)) c_150 rfl).trans (t_i ?_ rfl)
  refine (ev_ns c_150 2 (ip' := 17) (ls' := [some (.inr a0), some (.inl i1), some (.inl (h_i M (h_r M a0 15) (i1).toNatClampNeg))]) (st' := [.inl 0, .inr a0]) (M' := h_si (h_si M (h_r M a0 14) (i1).toNatClampNeg 0) (h_r (h_si M (h_r M a0 14) (i1).toNatClampNeg 0) a0 15) (i1).toNatClampNeg (-1)) rfl).trans ?_
  refine (ev_g (h_k (h_si (h_si M (h_r M a0 14) (i1).toNatClampNeg 0) (h_r (h_si M (h_r M a0 14) (i1).toNatClampNeg 0) a0 15) (i1).toNatClampNeg (-1)) a0 = 8) (ip' := 18) (ls' := [some (.inr a0), some (.inl i1), some (.inl (h_i M (h_r M a0 15) (i1).toNatClampNeg))]) (st' := []) (M' := h_si (h_si (h_si M (h_r M a0 14) (i1).toNatClampNeg 0) (h_r (h_si M (h_r M a0 14) (i1).toNatClampNeg 0) a0 15) (i1).toNatClampNeg (-1)) a0 1 0) c_150 rfl).trans (t_i ?_ rfl)
  refine (ev_ns c_150 1 (ip' := 19) (ls' := [some (.inr a0), some (.inl i1), some (.inl (h_i M (h_r M a0 15) (i1).toNatClampNeg))]) (st' := [.inl (h_i M (h_r M a0 15) (i1).toNatClampNeg)]) (M' := h_si (h_si (h_si M (h_r M a0 14) (i1).toNatClampNeg 0) (h_r (h_si M (h_r M a0 14) (i1).toNatClampNeg 0) a0 15) (i1).toNatClampNeg (-1)) a0 1 0) rfl).trans ?_
  exact ev_d c_150 rfl
/- 151: GranuleHallModel.undata(II)I -/
set_option maxRecDepth 20000 in
theorem e_151_0 (a0 : Nat) (i1 : Int32) (i2 : Int32) (M : mM) : ev 151 0 [some (.inr a0), some (.inl i1), some (.inl i2), none] [] M = if (a_rec M 8 [.inr a0, .inl i1] = true ∧ ([] : List mV).length ≤ 8) then (c_I (ev 107 0 [some (.inr a0), some (.inl i1)] [] M) fun v_2 M_1 => if v_2 = 0 then (ev 151 7 [some (.inr a0), some (.inl i1), some (.inl i2), none] [] M_1) else (if (a_rec M_1 0 [.inl i2] = true ∧ ([] : List mV).length ≤ 8) then (c_I (ev 123 0 [some (.inl i2)] [] M_1) fun v_4 M_3 => if v_4 = 0 then (ev 151 7 [some (.inr a0), some (.inl i1), some (.inl i2), none] [] M_3) else (if (a_rec M_3 8 [.inr a0, .inl i1, .inl 2] = true ∧ ([] : List mV).length ≤ 8) then (c_I (ev 108 0 [some (.inr a0), some (.inl i1), some (.inl 2)] [] M_3) fun v_6 M_5 => if v_6 = 0 then (if (a_rec M_5 8 [.inr a0, .inl 2] = true ∧ ([] : List mV).length ≤ 8) then (c_I (ev 105 0 [some (.inr a0), some (.inl 2)] [] M_5) fun v_8 M_7 => some (some (.inl v_8), M_7)) else none) else (if (a_rec M_5 8 [.inr a0, .inl i1, .inl i2] = true ∧ ([] : List mV).length ≤ 8) then (c_I (ev 119 0 [some (.inr a0), some (.inl i1), some (.inl i2)] [] M_5) fun v_10 M_9 => if h_k M_9 a0 = 8 then (if (h_k M_9 (h_r M_9 a0 14) = 9 ∨ h_k M_9 (h_r M_9 a0 14) = 14) ∧ h_in v_10 (h_l M_9 (h_r M_9 a0 14)) then (if (h_i M_9 (h_r M_9 a0 14) (v_10).toNatClampNeg) = 1 then (if h_k M_9 a0 = 8 then (if h_k M_9 a0 = 8 then (if (h_k M_9 (h_r M_9 a0 16) = 9 ∨ h_k M_9 (h_r M_9 a0 16) = 14) ∧ h_in v_10 (h_l M_9 (h_r M_9 a0 16)) then (if (h_i M_9 (h_r M_9 a0 16) (v_10).toNatClampNeg) = 1 then (ev 151 50 [some (.inr a0), some (.inl i1), some (.inl i2), some (.inl v_10)] [.inl 2, .inl v_10, .inr (h_r M_9 a0 16)] M_9) else (if h_k M_9 a0 = 8 then (if (h_k M_9 (h_r M_9 a0 16) = 9 ∨ h_k M_9 (h_r M_9 a0 16) = 14) ∧ h_in v_10 (h_l M_9 (h_r M_9 a0 16)) then (ev 151 50 [some (.inr a0), some (.inl i1), some (.inl i2), some (.inl v_10)] [.inl (h_i M_9 (h_r M_9 a0 16) (v_10).toNatClampNeg), .inl v_10, .inr (h_r M_9 a0 16)] M_9) else none) else none)) else none) else none) else none) else (if (a_rec M_9 8 [.inr a0, .inl 5] = true ∧ ([] : List mV).length ≤ 8) then (c_I (ev 105 0 [some (.inr a0), some (.inl 5)] [] M_9) fun v_12 M_11 => some (some (.inl v_12), M_11)) else none)) else none) else none) else none)) else none)) else none)) else none := by
  refine (ev_ns c_151 2 (ip' := 2) (ls' := [some (.inr a0), some (.inl i1), some (.inl i2), none]) (st' := [.inl i1, .inr a0]) (M' := M) rfl).trans ?_
  refine (ev_gI (a_rec M 8 [.inr a0, .inl i1] = true ∧ ([] : List mV).length ≤ 8) (as := [.inr a0, .inl i1]) (rr := []) c_151 c_107 rfl).trans (t_i (t_cI ?_) rfl)
  intro v_2 M_1
  refine (ev_i (v_2 = 0) (i1 := 7) (l1 := [some (.inr a0), some (.inl i1), some (.inl i2), none]) (s1 := []) (M1 := M_1) (i2 := 4) (l2 := [some (.inr a0), some (.inl i1), some (.inl i2), none]) (s2 := []) (M2 := M_1) c_151 rfl).trans (t_i ?_ ?_)
  · skip
    exact rfl
  · skip
    refine (ev_ns c_151 1 (ip' := 5) (ls' := [some (.inr a0), some (.inl i1), some (.inl i2), none]) (st' := [.inl i2]) (M' := M_1) rfl).trans ?_
    refine (ev_gI (a_rec M_1 0 [.inl i2] = true ∧ ([] : List mV).length ≤ 8) (as := [.inl i2]) (rr := []) c_151 c_123 rfl).trans (t_i (t_cI ?_) rfl)
    intro v_4 M_3
    refine (ev_i (v_4 = 0) (i1 := 7) (l1 := [some (.inr a0), some (.inl i1), some (.inl i2), none]) (s1 := []) (M1 := M_3) (i2 := 11) (l2 := [some (.inr a0), some (.inl i1), some (.inl i2), none]) (s2 := []) (M2 := M_3) c_151 rfl).trans (t_i ?_ ?_)
    · skip
      exact rfl
    · skip
      refine (ev_ns c_151 3 (ip' := 14) (ls' := [some (.inr a0), some (.inl i1), some (.inl i2), none]) (st' := [.inl 2, .inl i1, .inr a0]) (M' := M_3) rfl).trans ?_
      refine (ev_gI (a_rec M_3 8 [.inr a0, .inl i1, .inl 2] = true ∧ ([] : List mV).length ≤ 8) (as := [.inr a0, .inl i1, .inl 2]) (rr := []) c_151 c_108 rfl).trans (t_i (t_cI ?_) rfl)
      intro v_6 M_5
      refine (ev_i (v_6 = 0) (i1 := 16) (l1 := [some (.inr a0), some (.inl i1), some (.inl i2), none]) (s1 := []) (M1 := M_5) (i2 := 20) (l2 := [some (.inr a0), some (.inl i1), some (.inl i2), none]) (s2 := []) (M2 := M_5) c_151 rfl).trans (t_i ?_ ?_)
      · skip
        refine (ev_ns c_151 2 (ip' := 18) (ls' := [some (.inr a0), some (.inl i1), some (.inl i2), none]) (st' := [.inl 2, .inr a0]) (M' := M_5) rfl).trans ?_
        refine (ev_gI (a_rec M_5 8 [.inr a0, .inl 2] = true ∧ ([] : List mV).length ≤ 8) (as := [.inr a0, .inl 2]) (rr := []) c_151 c_105 rfl).trans (t_i (t_cI ?_) rfl)
        intro v_8 M_7
        exact ev_d c_151 rfl
      · skip
        refine (ev_ns c_151 3 (ip' := 23) (ls' := [some (.inr a0), some (.inl i1), some (.inl i2), none]) (st' := [.inl i2, .inl i1, .inr a0]) (M' := M_5) rfl).trans ?_
        refine (ev_gI (a_rec M_5 8 [.inr a0, .inl i1, .inl i2] = true ∧ ([] : List mV).length ≤ 8) (as := [.inr a0, .inl i1, .inl i2]) (rr := []) c_151 c_119 rfl).trans (t_i (t_cI ?_) rfl)
        intro v_10 M_9
        refine (ev_ns c_151 2 (ip' := 26) (ls' := [some (.inr a0), some (.inl i1), some (.inl i2), some (.inl v_10)]) (st' := [.inr a0]) (M' := M_9) rfl).trans ?_
        refine (ev_g (h_k M_9 a0 = 8) (ip' := 27) (ls' := [some (.inr a0), some (.inl i1), some (.inl i2), some (.inl v_10)]) (st' := [.inr (h_r M_9 a0 14)]) (M' := M_9) c_151 rfl).trans (t_i ?_ rfl)
        refine (ev_ns c_151 1 (ip' := 28) (ls' := [some (.inr a0), some (.inl i1), some (.inl i2), some (.inl v_10)]) (st' := [.inl v_10, .inr (h_r M_9 a0 14)]) (M' := M_9) rfl).trans ?_
        refine (ev_g ((h_k M_9 (h_r M_9 a0 14) = 9 ∨ h_k M_9 (h_r M_9 a0 14) = 14) ∧ h_in v_10 (h_l M_9 (h_r M_9 a0 14))) (ip' := 29) (ls' := [some (.inr a0), some (.inl i1), some (.inl i2), some (.inl v_10)]) (st' := [.inl (h_i M_9 (h_r M_9 a0 14) (v_10).toNatClampNeg)]) (M' := M_9) c_151 rfl).trans (t_i ?_ rfl)
        refine (ev_ns c_151 1 (ip' := 30) (ls' := [some (.inr a0), some (.inl i1), some (.inl i2), some (.inl v_10)]) (st' := [.inl 1, .inl (h_i M_9 (h_r M_9 a0 14) (v_10).toNatClampNeg)]) (M' := M_9) rfl).trans ?_
        refine (ev_i ((h_i M_9 (h_r M_9 a0 14) (v_10).toNatClampNeg) = 1) (i1 := 35) (l1 := [some (.inr a0), some (.inl i1), some (.inl i2), some (.inl v_10)]) (s1 := []) (M1 := M_9) (i2 := 31) (l2 := [some (.inr a0), some (.inl i1), some (.inl i2), some (.inl v_10)]) (s2 := []) (M2 := M_9) c_151 rfl).trans (t_i ?_ ?_)
        · skip
          refine (ev_ns c_151 1 (ip' := 36) (ls' := [some (.inr a0), some (.inl i1), some (.inl i2), some (.inl v_10)]) (st' := [.inr a0]) (M' := M_9) rfl).trans ?_
          refine (ev_g (h_k M_9 a0 = 8) (ip' := 37) (ls' := [some (.inr a0), some (.inl i1), some (.inl i2), some (.inl v_10)]) (st' := [.inr (h_r M_9 a0 16)]) (M' := M_9) c_151 rfl).trans (t_i ?_ rfl)
          refine (ev_ns c_151 2 (ip' := 39) (ls' := [some (.inr a0), some (.inl i1), some (.inl i2), some (.inl v_10)]) (st' := [.inr a0, .inl v_10, .inr (h_r M_9 a0 16)]) (M' := M_9) rfl).trans ?_
          refine (ev_g (h_k M_9 a0 = 8) (ip' := 40) (ls' := [some (.inr a0), some (.inl i1), some (.inl i2), some (.inl v_10)]) (st' := [.inr (h_r M_9 a0 16), .inl v_10, .inr (h_r M_9 a0 16)]) (M' := M_9) c_151 rfl).trans (t_i ?_ rfl)
          refine (ev_ns c_151 1 (ip' := 41) (ls' := [some (.inr a0), some (.inl i1), some (.inl i2), some (.inl v_10)]) (st' := [.inl v_10, .inr (h_r M_9 a0 16), .inl v_10, .inr (h_r M_9 a0 16)]) (M' := M_9) rfl).trans ?_
          refine (ev_g ((h_k M_9 (h_r M_9 a0 16) = 9 ∨ h_k M_9 (h_r M_9 a0 16) = 14) ∧ h_in v_10 (h_l M_9 (h_r M_9 a0 16))) (ip' := 42) (ls' := [some (.inr a0), some (.inl i1), some (.inl i2), some (.inl v_10)]) (st' := [.inl (h_i M_9 (h_r M_9 a0 16) (v_10).toNatClampNeg), .inl v_10, .inr (h_r M_9 a0 16)]) (M' := M_9) c_151 rfl).trans (t_i ?_ rfl)
          refine (ev_ns c_151 1 (ip' := 43) (ls' := [some (.inr a0), some (.inl i1), some (.inl i2), some (.inl v_10)]) (st' := [.inl 1, .inl (h_i M_9 (h_r M_9 a0 16) (v_10).toNatClampNeg), .inl v_10, .inr (h_r M_9 a0 16)]) (M' := M_9) rfl).trans ?_
          refine (ev_i ((h_i M_9 (h_r M_9 a0 16) (v_10).toNatClampNeg) = 1) (i1 := 44) (l1 := [some (.inr a0), some (.inl i1), some (.inl i2), some (.inl v_10)]) (s1 := [.inl v_10, .inr (h_r M_9 a0 16)]) (M1 := M_9) (i2 := 46) (l2 := [some (.inr a0), some (.inl i1), some (.inl i2), some (.inl v_10)]) (s2 := [.inl v_10, .inr (h_r M_9 a0 16)]) (M2 := M_9) c_151 rfl).trans (t_i ?_ ?_)
          · skip
            exact ev_ns c_151 2 (ip' := 50) (ls' := [some (.inr a0), some (.inl i1), some (.inl i2), some (.inl v_10)]) (st' := [.inl 2, .inl v_10, .inr (h_r M_9 a0 16)]) (M' := M_9) rfl
          · skip
            refine (ev_ns c_151 1 (ip' := 47) (ls' := [some (.inr a0), some (.inl i1), some (.inl i2), some (.inl v_10)]) (st' := [.inr a0, .inl v_10, .inr (h_r M_9 a0 16)]) (M' := M_9) rfl).trans ?_
            refine (ev_g (h_k M_9 a0 = 8) (ip' := 48) (ls' := [some (.inr a0), some (.inl i1), some (.inl i2), some (.inl v_10)]) (st' := [.inr (h_r M_9 a0 16), .inl v_10, .inr (h_r M_9 a0 16)]) (M' := M_9) c_151 rfl).trans (t_i ?_ rfl)
            refine (ev_ns c_151 1 (ip' := 49) (ls' := [some (.inr a0), some (.inl i1), some (.inl i2), some (.inl v_10)]) (st' := [.inl v_10, .inr (h_r M_9 a0 16), .inl v_10, .inr (h_r M_9 a0 16)]) (M' := M_9) rfl).trans ?_
            refine (ev_g ((h_k M_9 (h_r M_9 a0 16) = 9 ∨ h_k M_9 (h_r M_9 a0 16) = 14) ∧ h_in v_10 (h_l M_9 (h_r M_9 a0 16))) (ip' := 50) (ls' := [some (.inr a0), some (.inl i1), some (.inl i2), some (.inl v_10)]) (st' := [.inl (h_i M_9 (h_r M_9 a0 16) (v_10).toNatClampNeg), .inl v_10, .inr (h_r M_9 a0 16)]) (M' := M_9) c_151 rfl).trans (t_i ?_ rfl)
            exact rfl
        · skip
          refine (ev_ns c_151 2 (ip' := 33) (ls' := [some (.inr a0), some (.inl i1), some (.inl i2), some (.inl v_10)]) (st' := [.inl 5, .inr a0]) (M' := M_9) rfl).trans ?_
          refine (ev_gI (a_rec M_9 8 [.inr a0, .inl 5] = true ∧ ([] : List mV).length ≤ 8) (as := [.inr a0, .inl 5]) (rr := []) c_151 c_105 rfl).trans (t_i (t_cI ?_) rfl)
          intro v_12 M_11
          exact ev_d c_151 rfl
set_option maxRecDepth 20000 in
theorem e_151_7 (a0 : Nat) (i1 : Int32) (i2 : Int32) (M : mM) : ev 151 7 [some (.inr a0), some (.inl i1), some (.inl i2), none] [] M = if (a_rec M 8 [.inr a0, .inl 1] = true ∧ ([] : List mV).length ≤ 8) then (c_I (ev 105 0 [some (.inr a0), some (.inl 1)] [] M) fun v_2 M_1 => some (some (.inl v_2), M_1)) else none := by
  refine (ev_ns c_151 2 (ip' := 9) (ls' := [some (.inr a0), some (.inl i1), some (.inl i2), none]) (st' := [.inl 1, .inr a0]) (M' := M) rfl).trans ?_
  refine (ev_gI (a_rec M 8 [.inr a0, .inl 1] = true ∧ ([] : List mV).length ≤ 8) (as := [.inr a0, .inl 1]) (rr := []) c_151 c_105 rfl).trans (t_i (t_cI ?_) rfl)
  intro v_2 M_1
  exact ev_d c_151 rfl
set_option maxRecDepth 20000 in
theorem e_151_50 (a0 : Nat) (i1 : Int32) (i2 : Int32) (i3 : Int32) (t0 : Nat) (s1 : Int32) (s2 : Int32) (M : mM) : ev 151 50 [some (.inr a0), some (.inl i1), some (.inl i2), some (.inl i3)] [.inl s2, .inl s1, .inr t0] M = if h_k M t0 = 9 ∧ h_in s1 (h_l M t0) then (if h_k (h_si M t0 (s1).toNatClampNeg s2) a0 = 8 then (if (h_k (h_si M t0 (s1).toNatClampNeg s2) (h_r (h_si M t0 (s1).toNatClampNeg s2) a0 15) = 9 ∨ h_k (h_si M t0 (s1).toNatClampNeg s2) (h_r (h_si M t0 (s1).toNatClampNeg s2) a0 15) = 14) ∧ h_in i3 (h_l (h_si M t0 (s1).toNatClampNeg s2) (h_r (h_si M t0 (s1).toNatClampNeg s2) a0 15)) then (if (a_rec (h_si M t0 (s1).toNatClampNeg s2) 8 [.inr a0, .inl (h_i (h_si M t0 (s1).toNatClampNeg s2) (h_r (h_si M t0 (s1).toNatClampNeg s2) a0 15) (i3).toNatClampNeg), .inl 1, .inl (-1)] = true ∧ ([] : List mV).length ≤ 8) then (c_V (ev 109 0 [some (.inr a0), some (.inl (h_i (h_si M t0 (s1).toNatClampNeg s2) (h_r (h_si M t0 (s1).toNatClampNeg s2) a0 15) (i3).toNatClampNeg)), some (.inl 1), some (.inl (-1)), none] [] (h_si M t0 (s1).toNatClampNeg s2)) fun M_1 => if (a_rec M_1 8 [.inr a0, .inl i3] = true ∧ ([] : List mV).length ≤ 8) then (c_I (ev 150 0 [some (.inr a0), some (.inl i3), none] [] M_1) fun v_3 M_2 => some (some (.inl v_3), M_2)) else none) else none) else none) else none) else none := by
  refine (ev_g (h_k M t0 = 9 ∧ h_in s1 (h_l M t0)) (ip' := 51) (ls' := [some (.inr a0), some (.inl i1), some (.inl i2), some (.inl i3)]) (st' := []) (M' := h_si M t0 (s1).toNatClampNeg s2) c_151 rfl).trans (t_i ?_ rfl)
  refine (ev_ns c_151 2 (ip' := 53) (ls' := [some (.inr a0), some (.inl i1), some (.inl i2), some (.inl i3)]) (st' := [.inr a0, .inr a0]) (M' := h_si M t0 (s1).toNatClampNeg s2) rfl).trans ?_
  refine (ev_g (h_k (h_si M t0 (s1).toNatClampNeg s2) a0 = 8) (ip' := 54) (ls' := [some (.inr a0), some (.inl i1), some (.inl i2), some (.inl i3)]) (st' := [.inr (h_r (h_si M t0 (s1).toNatClampNeg s2) a0 15), .inr a0]) (M' := h_si M t0 (s1).toNatClampNeg s2) c_151 rfl).trans (t_i ?_ rfl)
  refine (ev_ns c_151 1 (ip' := 55) (ls' := [some (.inr a0), some (.inl i1), some (.inl i2), some (.inl i3)]) (st' := [.inl i3, .inr (h_r (h_si M t0 (s1).toNatClampNeg s2) a0 15), .inr a0]) (M' := h_si M t0 (s1).toNatClampNeg s2) rfl).trans ?_
  refine (ev_g ((h_k (h_si M t0 (s1).toNatClampNeg s2) (h_r (h_si M t0 (s1).toNatClampNeg s2) a0 15) = 9 ∨ h_k (h_si M t0 (s1).toNatClampNeg s2) (h_r (h_si M t0 (s1).toNatClampNeg s2) a0 15) = 14) ∧ h_in i3 (h_l (h_si M t0 (s1).toNatClampNeg s2) (h_r (h_si M t0 (s1).toNatClampNeg s2) a0 15))) (ip' := 56) (ls' := [some (.inr a0), some (.inl i1), some (.inl i2), some (.inl i3)]) (st' := [.inl (h_i (h_si M t0 (s1).toNatClampNeg s2) (h_r (h_si M t0 (s1).toNatClampNeg s2) a0 15) (i3).toNatClampNeg), .inr a0]) (M' := h_si M t0 (s1).toNatClampNeg s2) c_151 rfl).trans (t_i ?_ rfl)
  refine (ev_ns c_151 2 (ip' := 58) (ls' := [some (.inr a0), some (.inl i1), some (.inl i2), some (.inl i3)]) (st' := [.inl (-1), .inl 1, .inl (h_i (h_si M t0 (s1).toNatClampNeg s2) (h_r (h_si M t0 (s1).toNatClampNeg s2) a0 15) (i3).toNatClampNeg), .inr a0]) (M' := h_si M t0 (s1).toNatClampNeg s2) rfl).trans ?_
  refine (ev_gV (a_rec (h_si M t0 (s1).toNatClampNeg s2) 8 [.inr a0, .inl (h_i (h_si M t0 (s1).toNatClampNeg s2) (h_r (h_si M t0 (s1).toNatClampNeg s2) a0 15) (i3).toNatClampNeg), .inl 1, .inl (-1)] = true ∧ ([] : List mV).length ≤ 8) (as := [.inr a0, .inl (h_i (h_si M t0 (s1).toNatClampNeg s2) (h_r (h_si M t0 (s1).toNatClampNeg s2) a0 15) (i3).toNatClampNeg), .inl 1, .inl (-1)]) (rr := []) c_151 c_109 rfl).trans (t_i (t_cV ?_) rfl)
  intro M_1
  refine (ev_ns c_151 2 (ip' := 61) (ls' := [some (.inr a0), some (.inl i1), some (.inl i2), some (.inl i3)]) (st' := [.inl i3, .inr a0]) (M' := M_1) rfl).trans ?_
  refine (ev_gI (a_rec M_1 8 [.inr a0, .inl i3] = true ∧ ([] : List mV).length ≤ 8) (as := [.inr a0, .inl i3]) (rr := []) c_151 c_150 rfl).trans (t_i (t_cI ?_) rfl)
  intro v_3 M_2
  exact ev_d c_151 rfl
/- 152: GranuleHallModel.map(III)Z -/
set_option maxRecDepth 20000 in
theorem e_152_0 (a0 : Nat) (i1 : Int32) (i2 : Int32) (i3 : Int32) (M : mM) : ev 152 0 [some (.inr a0), some (.inl i1), some (.inl i2), some (.inl i3), none] [] M = if (a_rec M 8 [.inr a0, .inl i1] = true ∧ ([] : List mV).length ≤ 8) then (c_I (ev 107 0 [some (.inr a0), some (.inl i1)] [] M) fun v_2 M_1 => if v_2 = 0 then (ev 152 14 [some (.inr a0), some (.inl i1), some (.inl i2), some (.inl i3), none] [] M_1) else (if (a_rec M_1 8 [.inr a0, .inl i3] = true ∧ ([] : List mV).length ≤ 8) then (c_I (ev 107 0 [some (.inr a0), some (.inl i3)] [] M_1) fun v_4 M_3 => if v_4 = 0 then (ev 152 14 [some (.inr a0), some (.inl i1), some (.inl i2), some (.inl i3), none] [] M_3) else (if (a_rec M_3 0 [.inl i2] = true ∧ ([] : List mV).length ≤ 8) then (c_I (ev 122 0 [some (.inl i2)] [] M_3) fun v_6 M_5 => if v_6 = 0 then (ev 152 14 [some (.inr a0), some (.inl i1), some (.inl i2), some (.inl i3), none] [] M_5) else (if (a_rec M_5 0 [.inl i2] = true ∧ ([] : List mV).length ≤ 8) then (c_I (ev 123 0 [some (.inl i2)] [] M_5) fun v_8 M_7 => if v_8 = 0 then (if (a_rec M_7 8 [.inr a0, .inl i1, .inl 2] = true ∧ ([] : List mV).length ≤ 8) then (c_I (ev 108 0 [some (.inr a0), some (.inl i1), some (.inl 2)] [] M_7) fun v_10 M_9 => if v_10 = 0 then (if (a_rec M_9 8 [.inr a0, .inl 2] = true ∧ ([] : List mV).length ≤ 8) then (c_I (ev 106 0 [some (.inr a0), some (.inl 2)] [] M_9) fun v_12 M_11 => if v_12 = 0 ∨ v_12 = 1 then some (some (.inl v_12), M_11) else none) else none) else (if (a_rec M_9 8 [.inr a0, .inl i1, .inl i2] = true ∧ ([] : List mV).length ≤ 8) then (c_I (ev 119 0 [some (.inr a0), some (.inl i1), some (.inl i2)] [] M_9) fun v_14 M_13 => if (a_rec M_13 8 [.inr a0, .inl v_14] = true ∧ ([] : List mV).length ≤ 8) then (c_I (ev 120 0 [some (.inr a0), some (.inl v_14)] [] M_13) fun v_16 M_15 => if v_16 = 3 then (if h_k M_15 a0 = 8 then (if (h_k M_15 (h_r M_15 a0 14) = 9 ∨ h_k M_15 (h_r M_15 a0 14) = 14) ∧ h_in v_14 (h_l M_15 (h_r M_15 a0 14)) then (if (h_i M_15 (h_r M_15 a0 14) (v_14).toNatClampNeg) = 0 then (if (a_rec M_15 8 [.inr a0, .inl v_14, .inl i3] = true ∧ ([] : List mV).length ≤ 8) then (c_V (ev 146 0 [some (.inr a0), some (.inl v_14), some (.inl i3)] [] M_15) fun M_17 => if (a_rec M_17 8 [.inr a0, .inl 0] = true ∧ ([] : List mV).length ≤ 8) then (c_I (ev 106 0 [some (.inr a0), some (.inl 0)] [] M_17) fun v_19 M_18 => if v_19 = 0 ∨ v_19 = 1 then some (some (.inl v_19), M_18) else none) else none) else none) else (ev 152 42 [some (.inr a0), some (.inl i1), some (.inl i2), some (.inl i3), some (.inl v_14)] [] M_15)) else none) else none) else (ev 152 42 [some (.inr a0), some (.inl i1), some (.inl i2), some (.inl i3), some (.inl v_14)] [] M_15)) else none) else none)) else none) else (ev 152 14 [some (.inr a0), some (.inl i1), some (.inl i2), some (.inl i3), none] [] M_7)) else none)) else none)) else none)) else none := by
  refine (ev_ns c_152 2 (ip' := 2) (ls' := [some (.inr a0), some (.inl i1), some (.inl i2), some (.inl i3), none]) (st' := [.inl i1, .inr a0]) (M' := M) rfl).trans ?_
  refine (ev_gI (a_rec M 8 [.inr a0, .inl i1] = true ∧ ([] : List mV).length ≤ 8) (as := [.inr a0, .inl i1]) (rr := []) c_152 c_107 rfl).trans (t_i (t_cI ?_) rfl)
  intro v_2 M_1
  refine (ev_i (v_2 = 0) (i1 := 14) (l1 := [some (.inr a0), some (.inl i1), some (.inl i2), some (.inl i3), none]) (s1 := []) (M1 := M_1) (i2 := 4) (l2 := [some (.inr a0), some (.inl i1), some (.inl i2), some (.inl i3), none]) (s2 := []) (M2 := M_1) c_152 rfl).trans (t_i ?_ ?_)
  · skip
    exact rfl
  · skip
    refine (ev_ns c_152 2 (ip' := 6) (ls' := [some (.inr a0), some (.inl i1), some (.inl i2), some (.inl i3), none]) (st' := [.inl i3, .inr a0]) (M' := M_1) rfl).trans ?_
    refine (ev_gI (a_rec M_1 8 [.inr a0, .inl i3] = true ∧ ([] : List mV).length ≤ 8) (as := [.inr a0, .inl i3]) (rr := []) c_152 c_107 rfl).trans (t_i (t_cI ?_) rfl)
    intro v_4 M_3
    refine (ev_i (v_4 = 0) (i1 := 14) (l1 := [some (.inr a0), some (.inl i1), some (.inl i2), some (.inl i3), none]) (s1 := []) (M1 := M_3) (i2 := 8) (l2 := [some (.inr a0), some (.inl i1), some (.inl i2), some (.inl i3), none]) (s2 := []) (M2 := M_3) c_152 rfl).trans (t_i ?_ ?_)
    · skip
      exact rfl
    · skip
      refine (ev_ns c_152 1 (ip' := 9) (ls' := [some (.inr a0), some (.inl i1), some (.inl i2), some (.inl i3), none]) (st' := [.inl i2]) (M' := M_3) rfl).trans ?_
      refine (ev_gI (a_rec M_3 0 [.inl i2] = true ∧ ([] : List mV).length ≤ 8) (as := [.inl i2]) (rr := []) c_152 c_122 rfl).trans (t_i (t_cI ?_) rfl)
      intro v_6 M_5
      refine (ev_i (v_6 = 0) (i1 := 14) (l1 := [some (.inr a0), some (.inl i1), some (.inl i2), some (.inl i3), none]) (s1 := []) (M1 := M_5) (i2 := 11) (l2 := [some (.inr a0), some (.inl i1), some (.inl i2), some (.inl i3), none]) (s2 := []) (M2 := M_5) c_152 rfl).trans (t_i ?_ ?_)
      · skip
        exact rfl
      · skip
        refine (ev_ns c_152 1 (ip' := 12) (ls' := [some (.inr a0), some (.inl i1), some (.inl i2), some (.inl i3), none]) (st' := [.inl i2]) (M' := M_5) rfl).trans ?_
        refine (ev_gI (a_rec M_5 0 [.inl i2] = true ∧ ([] : List mV).length ≤ 8) (as := [.inl i2]) (rr := []) c_152 c_123 rfl).trans (t_i (t_cI ?_) rfl)
        intro v_8 M_7
        refine (ev_i (v_8 = 0) (i1 := 18) (l1 := [some (.inr a0), some (.inl i1), some (.inl i2), some (.inl i3), none]) (s1 := []) (M1 := M_7) (i2 := 14) (l2 := [some (.inr a0), some (.inl i1), some (.inl i2), some (.inl i3), none]) (s2 := []) (M2 := M_7) c_152 rfl).trans (t_i ?_ ?_)
        · skip
          refine (ev_ns c_152 3 (ip' := 21) (ls' := [some (.inr a0), some (.inl i1), some (.inl i2), some (.inl i3), none]) (st' := [.inl 2, .inl i1, .inr a0]) (M' := M_7) rfl).trans ?_
          refine (ev_gI (a_rec M_7 8 [.inr a0, .inl i1, .inl 2] = true ∧ ([] : List mV).length ≤ 8) (as := [.inr a0, .inl i1, .inl 2]) (rr := []) c_152 c_108 rfl).trans (t_i (t_cI ?_) rfl)
          intro v_10 M_9
          refine (ev_i (v_10 = 0) (i1 := 23) (l1 := [some (.inr a0), some (.inl i1), some (.inl i2), some (.inl i3), none]) (s1 := []) (M1 := M_9) (i2 := 27) (l2 := [some (.inr a0), some (.inl i1), some (.inl i2), some (.inl i3), none]) (s2 := []) (M2 := M_9) c_152 rfl).trans (t_i ?_ ?_)
          · skip
            refine (ev_ns c_152 2 (ip' := 25) (ls' := [some (.inr a0), some (.inl i1), some (.inl i2), some (.inl i3), none]) (st' := [.inl 2, .inr a0]) (M' := M_9) rfl).trans ?_
            refine (ev_gI (a_rec M_9 8 [.inr a0, .inl 2] = true ∧ ([] : List mV).length ≤ 8) (as := [.inr a0, .inl 2]) (rr := []) c_152 c_106 rfl).trans (t_i (t_cI ?_) rfl)
            intro v_12 M_11
            exact ev_gd (v_12 = 0 ∨ v_12 = 1) c_152 rfl
          · skip
            refine (ev_ns c_152 3 (ip' := 30) (ls' := [some (.inr a0), some (.inl i1), some (.inl i2), some (.inl i3), none]) (st' := [.inl i2, .inl i1, .inr a0]) (M' := M_9) rfl).trans ?_
            refine (ev_gI (a_rec M_9 8 [.inr a0, .inl i1, .inl i2] = true ∧ ([] : List mV).length ≤ 8) (as := [.inr a0, .inl i1, .inl i2]) (rr := []) c_152 c_119 rfl).trans (t_i (t_cI ?_) rfl)
            intro v_14 M_13
            refine (ev_ns c_152 3 (ip' := 34) (ls' := [some (.inr a0), some (.inl i1), some (.inl i2), some (.inl i3), some (.inl v_14)]) (st' := [.inl v_14, .inr a0]) (M' := M_13) rfl).trans ?_
            refine (ev_gI (a_rec M_13 8 [.inr a0, .inl v_14] = true ∧ ([] : List mV).length ≤ 8) (as := [.inr a0, .inl v_14]) (rr := []) c_152 c_120 rfl).trans (t_i (t_cI ?_) rfl)
            intro v_16 M_15
            refine (ev_ns c_152 1 (ip' := 36) (ls' := [some (.inr a0), some (.inl i1), some (.inl i2), some (.inl i3), some (.inl v_14)]) (st' := [.inl 3, .inl v_16]) (M' := M_15) rfl).trans ?_
            refine (ev_i (v_16 = 3) (i1 := 37) (l1 := [some (.inr a0), some (.inl i1), some (.inl i2), some (.inl i3), some (.inl v_14)]) (s1 := []) (M1 := M_15) (i2 := 42) (l2 := [some (.inr a0), some (.inl i1), some (.inl i2), some (.inl i3), some (.inl v_14)]) (s2 := []) (M2 := M_15) c_152 rfl).trans (t_i ?_ ?_)
            · skip
              refine (ev_ns c_152 1 (ip' := 38) (ls' := [some (.inr a0), some (.inl i1), some (.inl i2), some (.inl i3), some (.inl v_14)]) (st' := [.inr a0]) (M' := M_15) rfl).trans ?_
              refine (ev_g (h_k M_15 a0 = 8) (ip' := 39) (ls' := [some (.inr a0), some (.inl i1), some (.inl i2), some (.inl i3), some (.inl v_14)]) (st' := [.inr (h_r M_15 a0 14)]) (M' := M_15) c_152 rfl).trans (t_i ?_ rfl)
              refine (ev_ns c_152 1 (ip' := 40) (ls' := [some (.inr a0), some (.inl i1), some (.inl i2), some (.inl i3), some (.inl v_14)]) (st' := [.inl v_14, .inr (h_r M_15 a0 14)]) (M' := M_15) rfl).trans ?_
              refine (ev_g ((h_k M_15 (h_r M_15 a0 14) = 9 ∨ h_k M_15 (h_r M_15 a0 14) = 14) ∧ h_in v_14 (h_l M_15 (h_r M_15 a0 14))) (ip' := 41) (ls' := [some (.inr a0), some (.inl i1), some (.inl i2), some (.inl i3), some (.inl v_14)]) (st' := [.inl (h_i M_15 (h_r M_15 a0 14) (v_14).toNatClampNeg)]) (M' := M_15) c_152 rfl).trans (t_i ?_ rfl)
              refine (ev_i ((h_i M_15 (h_r M_15 a0 14) (v_14).toNatClampNeg) = 0) (i1 := 46) (l1 := [some (.inr a0), some (.inl i1), some (.inl i2), some (.inl i3), some (.inl v_14)]) (s1 := []) (M1 := M_15) (i2 := 42) (l2 := [some (.inr a0), some (.inl i1), some (.inl i2), some (.inl i3), some (.inl v_14)]) (s2 := []) (M2 := M_15) c_152 rfl).trans (t_i ?_ ?_)
              · skip
                refine (ev_ns c_152 3 (ip' := 49) (ls' := [some (.inr a0), some (.inl i1), some (.inl i2), some (.inl i3), some (.inl v_14)]) (st' := [.inl i3, .inl v_14, .inr a0]) (M' := M_15) rfl).trans ?_
                refine (ev_gV (a_rec M_15 8 [.inr a0, .inl v_14, .inl i3] = true ∧ ([] : List mV).length ≤ 8) (as := [.inr a0, .inl v_14, .inl i3]) (rr := []) c_152 c_146 rfl).trans (t_i (t_cV ?_) rfl)
                intro M_17
                refine (ev_ns c_152 2 (ip' := 52) (ls' := [some (.inr a0), some (.inl i1), some (.inl i2), some (.inl i3), some (.inl v_14)]) (st' := [.inl 0, .inr a0]) (M' := M_17) rfl).trans ?_
                refine (ev_gI (a_rec M_17 8 [.inr a0, .inl 0] = true ∧ ([] : List mV).length ≤ 8) (as := [.inr a0, .inl 0]) (rr := []) c_152 c_106 rfl).trans (t_i (t_cI ?_) rfl)
                intro v_19 M_18
                exact ev_gd (v_19 = 0 ∨ v_19 = 1) c_152 rfl
              · skip
                exact rfl
            · skip
              exact rfl
        · skip
          exact rfl
set_option maxRecDepth 20000 in
theorem e_152_14 (a0 : Nat) (i1 : Int32) (i2 : Int32) (i3 : Int32) (M : mM) : ev 152 14 [some (.inr a0), some (.inl i1), some (.inl i2), some (.inl i3), none] [] M = if (a_rec M 8 [.inr a0, .inl 1] = true ∧ ([] : List mV).length ≤ 8) then (c_I (ev 106 0 [some (.inr a0), some (.inl 1)] [] M) fun v_2 M_1 => if v_2 = 0 ∨ v_2 = 1 then some (some (.inl v_2), M_1) else none) else none := by
  refine (ev_ns c_152 2 (ip' := 16) (ls' := [some (.inr a0), some (.inl i1), some (.inl i2), some (.inl i3), none]) (st' := [.inl 1, .inr a0]) (M' := M) rfl).trans ?_
  refine (ev_gI (a_rec M 8 [.inr a0, .inl 1] = true ∧ ([] : List mV).length ≤ 8) (as := [.inr a0, .inl 1]) (rr := []) c_152 c_106 rfl).trans (t_i (t_cI ?_) rfl)
  intro v_2 M_1
  exact ev_gd (v_2 = 0 ∨ v_2 = 1) c_152 rfl
set_option maxRecDepth 20000 in
theorem e_152_42 (a0 : Nat) (i1 : Int32) (i2 : Int32) (i3 : Int32) (i4 : Int32) (M : mM) : ev 152 42 [some (.inr a0), some (.inl i1), some (.inl i2), some (.inl i3), some (.inl i4)] [] M = if (a_rec M 8 [.inr a0, .inl 5] = true ∧ ([] : List mV).length ≤ 8) then (c_I (ev 106 0 [some (.inr a0), some (.inl 5)] [] M) fun v_2 M_1 => if v_2 = 0 ∨ v_2 = 1 then some (some (.inl v_2), M_1) else none) else none := by
  refine (ev_ns c_152 2 (ip' := 44) (ls' := [some (.inr a0), some (.inl i1), some (.inl i2), some (.inl i3), some (.inl i4)]) (st' := [.inl 5, .inr a0]) (M' := M) rfl).trans ?_
  refine (ev_gI (a_rec M 8 [.inr a0, .inl 5] = true ∧ ([] : List mV).length ≤ 8) (as := [.inr a0, .inl 5]) (rr := []) c_152 c_106 rfl).trans (t_i (t_cI ?_) rfl)
  intro v_2 M_1
  exact ev_gd (v_2 = 0 ∨ v_2 = 1) c_152 rfl
/- 153: GranuleHallModel.unmap(II)I -/
set_option maxRecDepth 20000 in
theorem e_153_0 (a0 : Nat) (i1 : Int32) (i2 : Int32) (M : mM) : ev 153 0 [some (.inr a0), some (.inl i1), some (.inl i2), none] [] M = if (a_rec M 8 [.inr a0, .inl i1] = true ∧ ([] : List mV).length ≤ 8) then (c_I (ev 107 0 [some (.inr a0), some (.inl i1)] [] M) fun v_2 M_1 => if v_2 = 0 then (ev 153 10 [some (.inr a0), some (.inl i1), some (.inl i2), none] [] M_1) else (if (a_rec M_1 0 [.inl i2] = true ∧ ([] : List mV).length ≤ 8) then (c_I (ev 122 0 [some (.inl i2)] [] M_1) fun v_4 M_3 => if v_4 = 0 then (ev 153 10 [some (.inr a0), some (.inl i1), some (.inl i2), none] [] M_3) else (if (a_rec M_3 0 [.inl i2] = true ∧ ([] : List mV).length ≤ 8) then (c_I (ev 123 0 [some (.inl i2)] [] M_3) fun v_6 M_5 => if v_6 = 0 then (if (a_rec M_5 8 [.inr a0, .inl i1, .inl 2] = true ∧ ([] : List mV).length ≤ 8) then (c_I (ev 108 0 [some (.inr a0), some (.inl i1), some (.inl 2)] [] M_5) fun v_8 M_7 => if v_8 = 0 then (if (a_rec M_7 8 [.inr a0, .inl 2] = true ∧ ([] : List mV).length ≤ 8) then (c_I (ev 105 0 [some (.inr a0), some (.inl 2)] [] M_7) fun v_10 M_9 => some (some (.inl v_10), M_9)) else none) else (if (a_rec M_7 8 [.inr a0, .inl i1, .inl i2] = true ∧ ([] : List mV).length ≤ 8) then (c_I (ev 119 0 [some (.inr a0), some (.inl i1), some (.inl i2)] [] M_7) fun v_12 M_11 => if h_k M_11 a0 = 8 then (if (h_k M_11 (h_r M_11 a0 14) = 9 ∨ h_k M_11 (h_r M_11 a0 14) = 14) ∧ h_in v_12 (h_l M_11 (h_r M_11 a0 14)) then (if (h_i M_11 (h_r M_11 a0 14) (v_12).toNatClampNeg) = 1 then (if (a_rec M_11 8 [.inr a0, .inl v_12] = true ∧ ([] : List mV).length ≤ 8) then (c_I (ev 150 0 [some (.inr a0), some (.inl v_12), none] [] M_11) fun v_14 M_13 => ev 153 41 [some (.inr a0), some (.inl i1), some (.inl i2), some (.inl v_12)] [.inl v_14] M_13) else none) else (if (a_rec M_11 8 [.inr a0, .inl 5] = true ∧ ([] : List mV).length ≤ 8) then (c_I (ev 105 0 [some (.inr a0), some (.inl 5)] [] M_11) fun v_16 M_15 => ev 153 41 [some (.inr a0), some (.inl i1), some (.inl i2), some (.inl v_12)] [.inl v_16] M_15) else none)) else none) else none) else none)) else none) else (ev 153 10 [some (.inr a0), some (.inl i1), some (.inl i2), none] [] M_5)) else none)) else none)) else none := by
  refine (ev_ns c_153 2 (ip' := 2) (ls' := [some (.inr a0), some (.inl i1), some (.inl i2), none]) (st' := [.inl i1, .inr a0]) (M' := M) rfl).trans ?_
  refine (ev_gI (a_rec M 8 [.inr a0, .inl i1] = true ∧ ([] : List mV).length ≤ 8) (as := [.inr a0, .inl i1]) (rr := []) c_153 c_107 rfl).trans (t_i (t_cI ?_) rfl)
  intro v_2 M_1
  refine (ev_i (v_2 = 0) (i1 := 10) (l1 := [some (.inr a0), some (.inl i1), some (.inl i2), none]) (s1 := []) (M1 := M_1) (i2 := 4) (l2 := [some (.inr a0), some (.inl i1), some (.inl i2), none]) (s2 := []) (M2 := M_1) c_153 rfl).trans (t_i ?_ ?_)
  · skip
    exact rfl
  · skip
    refine (ev_ns c_153 1 (ip' := 5) (ls' := [some (.inr a0), some (.inl i1), some (.inl i2), none]) (st' := [.inl i2]) (M' := M_1) rfl).trans ?_
    refine (ev_gI (a_rec M_1 0 [.inl i2] = true ∧ ([] : List mV).length ≤ 8) (as := [.inl i2]) (rr := []) c_153 c_122 rfl).trans (t_i (t_cI ?_) rfl)
    intro v_4 M_3
    refine (ev_i (v_4 = 0) (i1 := 10) (l1 := [some (.inr a0), some (.inl i1), some (.inl i2), none]) (s1 := []) (M1 := M_3) (i2 := 7) (l2 := [some (.inr a0), some (.inl i1), some (.inl i2), none]) (s2 := []) (M2 := M_3) c_153 rfl).trans (t_i ?_ ?_)
    · skip
      exact rfl
    · skip
      refine (ev_ns c_153 1 (ip' := 8) (ls' := [some (.inr a0), some (.inl i1), some (.inl i2), none]) (st' := [.inl i2]) (M' := M_3) rfl).trans ?_
      refine (ev_gI (a_rec M_3 0 [.inl i2] = true ∧ ([] : List mV).length ≤ 8) (as := [.inl i2]) (rr := []) c_153 c_123 rfl).trans (t_i (t_cI ?_) rfl)
      intro v_6 M_5
      refine (ev_i (v_6 = 0) (i1 := 14) (l1 := [some (.inr a0), some (.inl i1), some (.inl i2), none]) (s1 := []) (M1 := M_5) (i2 := 10) (l2 := [some (.inr a0), some (.inl i1), some (.inl i2), none]) (s2 := []) (M2 := M_5) c_153 rfl).trans (t_i ?_ ?_)
      · skip
        refine (ev_ns c_153 3 (ip' := 17) (ls' := [some (.inr a0), some (.inl i1), some (.inl i2), none]) (st' := [.inl 2, .inl i1, .inr a0]) (M' := M_5) rfl).trans ?_
        refine (ev_gI (a_rec M_5 8 [.inr a0, .inl i1, .inl 2] = true ∧ ([] : List mV).length ≤ 8) (as := [.inr a0, .inl i1, .inl 2]) (rr := []) c_153 c_108 rfl).trans (t_i (t_cI ?_) rfl)
        intro v_8 M_7
        refine (ev_i (v_8 = 0) (i1 := 19) (l1 := [some (.inr a0), some (.inl i1), some (.inl i2), none]) (s1 := []) (M1 := M_7) (i2 := 23) (l2 := [some (.inr a0), some (.inl i1), some (.inl i2), none]) (s2 := []) (M2 := M_7) c_153 rfl).trans (t_i ?_ ?_)
        · skip
          refine (ev_ns c_153 2 (ip' := 21) (ls' := [some (.inr a0), some (.inl i1), some (.inl i2), none]) (st' := [.inl 2, .inr a0]) (M' := M_7) rfl).trans ?_
          refine (ev_gI (a_rec M_7 8 [.inr a0, .inl 2] = true ∧ ([] : List mV).length ≤ 8) (as := [.inr a0, .inl 2]) (rr := []) c_153 c_105 rfl).trans (t_i (t_cI ?_) rfl)
          intro v_10 M_9
          exact ev_d c_153 rfl
        · skip
          refine (ev_ns c_153 3 (ip' := 26) (ls' := [some (.inr a0), some (.inl i1), some (.inl i2), none]) (st' := [.inl i2, .inl i1, .inr a0]) (M' := M_7) rfl).trans ?_
          refine (ev_gI (a_rec M_7 8 [.inr a0, .inl i1, .inl i2] = true ∧ ([] : List mV).length ≤ 8) (as := [.inr a0, .inl i1, .inl i2]) (rr := []) c_153 c_119 rfl).trans (t_i (t_cI ?_) rfl)
          intro v_12 M_11
          refine (ev_ns c_153 2 (ip' := 29) (ls' := [some (.inr a0), some (.inl i1), some (.inl i2), some (.inl v_12)]) (st' := [.inr a0]) (M' := M_11) rfl).trans ?_
          refine (ev_g (h_k M_11 a0 = 8) (ip' := 30) (ls' := [some (.inr a0), some (.inl i1), some (.inl i2), some (.inl v_12)]) (st' := [.inr (h_r M_11 a0 14)]) (M' := M_11) c_153 rfl).trans (t_i ?_ rfl)
          refine (ev_ns c_153 1 (ip' := 31) (ls' := [some (.inr a0), some (.inl i1), some (.inl i2), some (.inl v_12)]) (st' := [.inl v_12, .inr (h_r M_11 a0 14)]) (M' := M_11) rfl).trans ?_
          refine (ev_g ((h_k M_11 (h_r M_11 a0 14) = 9 ∨ h_k M_11 (h_r M_11 a0 14) = 14) ∧ h_in v_12 (h_l M_11 (h_r M_11 a0 14))) (ip' := 32) (ls' := [some (.inr a0), some (.inl i1), some (.inl i2), some (.inl v_12)]) (st' := [.inl (h_i M_11 (h_r M_11 a0 14) (v_12).toNatClampNeg)]) (M' := M_11) c_153 rfl).trans (t_i ?_ rfl)
          refine (ev_ns c_153 1 (ip' := 33) (ls' := [some (.inr a0), some (.inl i1), some (.inl i2), some (.inl v_12)]) (st' := [.inl 1, .inl (h_i M_11 (h_r M_11 a0 14) (v_12).toNatClampNeg)]) (M' := M_11) rfl).trans ?_
          refine (ev_i ((h_i M_11 (h_r M_11 a0 14) (v_12).toNatClampNeg) = 1) (i1 := 38) (l1 := [some (.inr a0), some (.inl i1), some (.inl i2), some (.inl v_12)]) (s1 := []) (M1 := M_11) (i2 := 34) (l2 := [some (.inr a0), some (.inl i1), some (.inl i2), some (.inl v_12)]) (s2 := []) (M2 := M_11) c_153 rfl).trans (t_i ?_ ?_)
          · skip
            refine (ev_ns c_153 2 (ip' := 40) (ls' := [some (.inr a0), some (.inl i1), some (.inl i2), some (.inl v_12)]) (st' := [.inl v_12, .inr a0]) (M' := M_11) rfl).trans ?_
            refine (ev_gI (a_rec M_11 8 [.inr a0, .inl v_12] = true ∧ ([] : List mV).length ≤ 8) (as := [.inr a0, .inl v_12]) (rr := []) c_153 c_150 rfl).trans (t_i (t_cI ?_) rfl)
            intro v_14 M_13
            exact rfl
          · skip
            refine (ev_ns c_153 2 (ip' := 36) (ls' := [some (.inr a0), some (.inl i1), some (.inl i2), some (.inl v_12)]) (st' := [.inl 5, .inr a0]) (M' := M_11) rfl).trans ?_
            refine (ev_gI (a_rec M_11 8 [.inr a0, .inl 5] = true ∧ ([] : List mV).length ≤ 8) (as := [.inr a0, .inl 5]) (rr := []) c_153 c_105 rfl).trans (t_i (t_cI ?_) rfl)
            intro v_16 M_15
            exact ev_ns c_153 1 (ip' := 41) (ls' := [some (.inr a0), some (.inl i1), some (.inl i2), some (.inl v_12)]) (st' := [.inl v_16]) (M' := M_15) rfl
      · skip
        exact rfl
set_option maxRecDepth 20000 in
theorem e_153_10 (a0 : Nat) (i1 : Int32) (i2 : Int32) (M : mM) : ev 153 10 [some (.inr a0), some (.inl i1), some (.inl i2), none] [] M = if (a_rec M 8 [.inr a0, .inl 1] = true ∧ ([] : List mV).length ≤ 8) then (c_I (ev 105 0 [some (.inr a0), some (.inl 1)] [] M) fun v_2 M_1 => some (some (.inl v_2), M_1)) else none := by
  refine (ev_ns c_153 2 (ip' := 12) (ls' := [some (.inr a0), some (.inl i1), some (.inl i2), none]) (st' := [.inl 1, .inr a0]) (M' := M) rfl).trans ?_
  refine (ev_gI (a_rec M 8 [.inr a0, .inl 1] = true ∧ ([] : List mV).length ≤ 8) (as := [.inr a0, .inl 1]) (rr := []) c_153 c_105 rfl).trans (t_i (t_cI ?_) rfl)
  intro v_2 M_1
  exact ev_d c_153 rfl
set_option maxRecDepth 20000 in
theorem e_153_41 (a0 : Nat) (i1 : Int32) (i2 : Int32) (i3 : Int32) (s0 : Int32) (M : mM) : ev 153 41 [some (.inr a0), some (.inl i1), some (.inl i2), some (.inl i3)] [.inl s0] M = some (some (.inl s0), M) := by
  exact ev_d c_153 rfl
/- 154: GranuleHallModel.resume(II)V -/
set_option maxRecDepth 20000 in
theorem e_154_0 (a0 : Nat) (i1 : Int32) (i2 : Int32) (M : mM) : ev 154 0 [some (.inr a0), some (.inl i1), some (.inl i2), none, none, none, none] [] M = if h_k M a0 = 8 then (if (h_k M (h_r M a0 7) = 9 ∨ h_k M (h_r M a0 7) = 14) ∧ h_in i1 (h_l M (h_r M a0 7)) then (if h_k M a0 = 8 then (if (h_k M (h_r M a0 20) = 9 ∨ h_k M (h_r M a0 20) = 14) ∧ h_in i1 (h_l M (h_r M a0 20)) then (if (h_i M (h_r M a0 20) (i1).toNatClampNeg) = 1 then (if h_k M a0 = 8 then (if (h_k M (h_r M a0 21) = 9 ∨ h_k M (h_r M a0 21) = 14) ∧ h_in i1 (h_l M (h_r M a0 21)) then (if (a_rec M 8 [.inr a0, .inl (h_i M (h_r M a0 7) (i1).toNatClampNeg), .inl (h_i M (h_r M a0 21) (i1).toNatClampNeg)] = true ∧ ([] : List mV).length ≤ 8) then (c_I (ev 119 0 [some (.inr a0), some (.inl (h_i M (h_r M a0 7) (i1).toNatClampNeg)), some (.inl (h_i M (h_r M a0 21) (i1).toNatClampNeg))] [] M) fun v_2 M_1 => if h_k M_1 a0 = 8 then (if (h_k M_1 (h_r M_1 a0 14) = 9 ∨ h_k M_1 (h_r M_1 a0 14) = 14) ∧ h_in v_2 (h_l M_1 (h_r M_1 a0 14)) then (if (h_i M_1 (h_r M_1 a0 14) (v_2).toNatClampNeg) = 1 then (if h_k M_1 a0 = 8 then (if (h_k M_1 (h_r M_1 a0 16) = 9 ∨ h_k M_1 (h_r M_1 a0 16) = 14) ∧ h_in v_2 (h_l M_1 (h_r M_1 a0 16)) then (if (h_i M_1 (h_r M_1 a0 16) (v_2).toNatClampNeg) = 1 then (ev 154 34 [some (.inr a0), some (.inl i1), some (.inl i2), some (.inl (h_i M (h_r M a0 7) (i1).toNatClampNeg)), some (.inl v_2), none, none] [.inl 1] M_1) else (ev 154 33 [some (.inr a0), some (.inl i1), some (.inl i2), some (.inl (h_i M (h_r M a0 7) (i1).toNatClampNeg)), some (.inl v_2), none, none] [] M_1)) else none) else none) else (ev 154 33 [some (.inr a0), some (.inl i1), some (.inl i2), some (.inl (h_i M (h_r M a0 7) (i1).toNatClampNeg)), some (.inl v_2), none, none] [] M_1)) else none) else none) else none) else none) else none) else (ev 154 74 [some (.inr a0), some (.inl i1), some (.inl i2), some (.inl (h_i M (h_r M a0 7) (i1).toNatClampNeg)), none, none, none] [] M)) else none) else none) else none) else none := by
  refine (ev_ns c_154 1 (ip' := 1) (ls' := [some (.inr a0), some (.inl i1), some (.inl i2), none, none, none, none]) (st' := [.inr a0]) (M' := M) rfl).trans ?_
  refine (ev_g (h_k M a0 = 8) (ip' := 2) (ls' := [some (.inr a0), some (.inl i1), some (.inl i2), none, none, none, none]) (st' := [.inr (h_r M a0 7)]) (M' := M) c_154 rfl).trans (t_i ?_ rfl)
  refine (ev_ns c_154 1 (ip' := 3) (ls' := [some (.inr a0), some (.inl i1), some (.inl i2), none, none, none, none]) (st' := [.inl i1, .inr (h_r M a0 7)]) (M' := M) rfl).trans ?_
  refine (ev_g ((h_k M (h_r M a0 7) = 9 ∨ h_k M (h_r M a0 7) = 14) ∧ h_in i1 (h_l M (h_r M a0 7))) (ip' := 4) (ls' := [some (.inr a0), some (.inl i1), some (.inl i2), none, none, none, none]) (st' := [.inl (h_i M (h_r M a0 7) (i1).toNatClampNeg)]) (M' := M) c_154 rfl).trans (t_i ?_ rfl)
  refine (ev_ns c_154 2 (ip' := 6) (ls' := [some (.inr a0), some (.inl i1), some (.inl i2), some (.inl (h_i M (h_r M a0 7) (i1).toNatClampNeg)), none, none, none]) (st' := [.inr a0]) (M' := M) rfl).trans ?_
  refine (ev_g (h_k M a0 = 8) (ip' := 7) (ls' := [some (.inr a0), some (.inl i1), some (.inl i2), some (.inl (h_i M (h_r M a0 7) (i1).toNatClampNeg)), none, none, none]) (st' := [.inr (h_r M a0 20)]) (M' := M) c_154 rfl).trans (t_i ?_ rfl)
  refine (ev_ns c_154 1 (ip' := 8) (ls' := [some (.inr a0), some (.inl i1), some (.inl i2), some (.inl (h_i M (h_r M a0 7) (i1).toNatClampNeg)), none, none, none]) (st' := [.inl i1, .inr (h_r M a0 20)]) (M' := M) rfl).trans ?_
  refine (ev_g ((h_k M (h_r M a0 20) = 9 ∨ h_k M (h_r M a0 20) = 14) ∧ h_in i1 (h_l M (h_r M a0 20))) (ip' := 9) (ls' := [some (.inr a0), some (.inl i1), some (.inl i2), some (.inl (h_i M (h_r M a0 7) (i1).toNatClampNeg)), none, none, none]) (st' := [.inl (h_i M (h_r M a0 20) (i1).toNatClampNeg)]) (M' := M) c_154 rfl).trans (t_i ?_ rfl)
  refine (ev_ns c_154 1 (ip' := 10) (ls' := [some (.inr a0), some (.inl i1), some (.inl i2), some (.inl (h_i M (h_r M a0 7) (i1).toNatClampNeg)), none, none, none]) (st' := [.inl 1, .inl (h_i M (h_r M a0 20) (i1).toNatClampNeg)]) (M' := M) rfl).trans ?_
  refine (ev_i ((h_i M (h_r M a0 20) (i1).toNatClampNeg) = 1) (i1 := 11) (l1 := [some (.inr a0), some (.inl i1), some (.inl i2), some (.inl (h_i M (h_r M a0 7) (i1).toNatClampNeg)), none, none, none]) (s1 := []) (M1 := M) (i2 := 74) (l2 := [some (.inr a0), some (.inl i1), some (.inl i2), some (.inl (h_i M (h_r M a0 7) (i1).toNatClampNeg)), none, none, none]) (s2 := []) (M2 := M) c_154 rfl).trans (t_i ?_ ?_)
  · skip
    refine (ev_ns c_154 3 (ip' := 14) (ls' := [some (.inr a0), some (.inl i1), some (.inl i2), some (.inl (h_i M (h_r M a0 7) (i1).toNatClampNeg)), none, none, none]) (st' := [.inr a0, .inl (h_i M (h_r M a0 7) (i1).toNatClampNeg), .inr a0]) (M' := M) rfl).trans ?_
    refine (ev_g (h_k M a0 = 8) (ip' := 15) (ls' := [some (.inr a0), some (.inl i1), some (.inl i2), some (.inl (h_i M (h_r M a0 7) (i1).toNatClampNeg)), none, none, none]) (st' := [.inr (h_r M a0 21), .inl (h_i M (h_r M a0 7) (i1).toNatClampNeg), .inr a0]) (M' := M) c_154 rfl).trans (t_i ?_ rfl)
    refine (ev_ns c_154 1 (ip' := 16) (ls' := [some (.inr a0), some (.inl i1), some (.inl i2), some (.inl (h_i M (h_r M a0 7) (i1).toNatClampNeg)), none, none, none]) (st' := [.inl i1, .inr (h_r M a0 21), .inl (h_i M (h_r M a0 7) (i1).toNatClampNeg), .inr a0]) (M' := M) rfl).trans ?_
    refine (ev_g ((h_k M (h_r M a0 21) = 9 ∨ h_k M (h_r M a0 21) = 14) ∧ h_in i1 (h_l M (h_r M a0 21))) (ip' := 17) (ls' := [some (.inr a0), some (.inl i1), some (.inl i2), some (.inl (h_i M (h_r M a0 7) (i1).toNatClampNeg)), none, none, none]) (st' := [.inl (h_i M (h_r M a0 21) (i1).toNatClampNeg), .inl (h_i M (h_r M a0 7) (i1).toNatClampNeg), .inr a0]) (M' := M) c_154 rfl).trans (t_i ?_ rfl)
    refine (ev_gI (a_rec M 8 [.inr a0, .inl (h_i M (h_r M a0 7) (i1).toNatClampNeg), .inl (h_i M (h_r M a0 21) (i1).toNatClampNeg)] = true ∧ ([] : List mV).length ≤ 8) (as := [.inr a0, .inl (h_i M (h_r M a0 7) (i1).toNatClampNeg), .inl (h_i M (h_r M a0 21) (i1).toNatClampNeg)]) (rr := []) c_154 c_119 rfl).trans (t_i (t_cI ?_) rfl)
    intro v_2 M_1
    refine (ev_ns c_154 2 (ip' := 20) (ls' := [some (.inr a0), some (.inl i1), some (.inl i2), some (.inl (h_i M (h_r M a0 7) (i1).toNatClampNeg)), some (.inl v_2), none, none]) (st' := [.inr a0]) (M' := M_1) rfl).trans ?_
    refine (ev_g (h_k M_1 a0 = 8) (ip' := 21) (ls' := [some (.inr a0), some (.inl i1), some (.inl i2), some (.inl (h_i M (h_r M a0 7) (i1).toNatClampNeg)), some (.inl v_2), none, none]) (st' := [.inr (h_r M_1 a0 14)]) (M' := M_1) c_154 rfl).trans (t_i ?_ rfl)
    refine (ev_ns c_154 1 (ip' := 22) (ls' := [some (.inr a0), some (.inl i1), some (.inl i2), some (.inl (h_i M (h_r M a0 7) (i1).toNatClampNeg)), some (.inl v_2), none, none]) (st' := [.inl v_2, .inr (h_r M_1 a0 14)]) (M' := M_1) rfl).trans ?_
    refine (ev_g ((h_k M_1 (h_r M_1 a0 14) = 9 ∨ h_k M_1 (h_r M_1 a0 14) = 14) ∧ h_in v_2 (h_l M_1 (h_r M_1 a0 14))) (ip' := 23) (ls' := [some (.inr a0), some (.inl i1), some (.inl i2), some (.inl (h_i M (h_r M a0 7) (i1).toNatClampNeg)), some (.inl v_2), none, none]) (st' := [.inl (h_i M_1 (h_r M_1 a0 14) (v_2).toNatClampNeg)]) (M' := M_1) c_154 rfl).trans (t_i ?_ rfl)
    refine (ev_ns c_154 1 (ip' := 24) (ls' := [some (.inr a0), some (.inl i1), some (.inl i2), some (.inl (h_i M (h_r M a0 7) (i1).toNatClampNeg)), some (.inl v_2), none, none]) (st' := [.inl 1, .inl (h_i M_1 (h_r M_1 a0 14) (v_2).toNatClampNeg)]) (M' := M_1) rfl).trans ?_
    refine (ev_i ((h_i M_1 (h_r M_1 a0 14) (v_2).toNatClampNeg) = 1) (i1 := 25) (l1 := [some (.inr a0), some (.inl i1), some (.inl i2), some (.inl (h_i M (h_r M a0 7) (i1).toNatClampNeg)), some (.inl v_2), none, none]) (s1 := []) (M1 := M_1) (i2 := 33) (l2 := [some (.inr a0), some (.inl i1), some (.inl i2), some (.inl (h_i M (h_r M a0 7) (i1).toNatClampNeg)), some (.inl v_2), none, none]) (s2 := []) (M2 := M_1) c_154 rfl).trans (t_i ?_ ?_)
    · skip
      refine (ev_ns c_154 1 (ip' := 26) (ls' := [some (.inr a0), some (.inl i1), some (.inl i2), some (.inl (h_i M (h_r M a0 7) (i1).toNatClampNeg)), some (.inl v_2), none, none]) (st' := [.inr a0]) (M' := M_1) rfl).trans ?_
      refine (ev_g (h_k M_1 a0 = 8) (ip' := 27) (ls' := [some (.inr a0), some (.inl i1), some (.inl i2), some (.inl (h_i M (h_r M a0 7) (i1).toNatClampNeg)), some (.inl v_2), none, none]) (st' := [.inr (h_r M_1 a0 16)]) (M' := M_1) c_154 rfl).trans (t_i ?_ rfl)
      refine (ev_ns c_154 1 (ip' := 28) (ls' := [some (.inr a0), some (.inl i1), some (.inl i2), some (.inl (h_i M (h_r M a0 7) (i1).toNatClampNeg)), some (.inl v_2), none, none]) (st' := [.inl v_2, .inr (h_r M_1 a0 16)]) (M' := M_1) rfl).trans ?_
      refine (ev_g ((h_k M_1 (h_r M_1 a0 16) = 9 ∨ h_k M_1 (h_r M_1 a0 16) = 14) ∧ h_in v_2 (h_l M_1 (h_r M_1 a0 16))) (ip' := 29) (ls' := [some (.inr a0), some (.inl i1), some (.inl i2), some (.inl (h_i M (h_r M a0 7) (i1).toNatClampNeg)), some (.inl v_2), none, none]) (st' := [.inl (h_i M_1 (h_r M_1 a0 16) (v_2).toNatClampNeg)]) (M' := M_1) c_154 rfl).trans (t_i ?_ rfl)
      refine (ev_ns c_154 1 (ip' := 30) (ls' := [some (.inr a0), some (.inl i1), some (.inl i2), some (.inl (h_i M (h_r M a0 7) (i1).toNatClampNeg)), some (.inl v_2), none, none]) (st' := [.inl 1, .inl (h_i M_1 (h_r M_1 a0 16) (v_2).toNatClampNeg)]) (M' := M_1) rfl).trans ?_
      refine (ev_i ((h_i M_1 (h_r M_1 a0 16) (v_2).toNatClampNeg) = 1) (i1 := 31) (l1 := [some (.inr a0), some (.inl i1), some (.inl i2), some (.inl (h_i M (h_r M a0 7) (i1).toNatClampNeg)), some (.inl v_2), none, none]) (s1 := []) (M1 := M_1) (i2 := 33) (l2 := [some (.inr a0), some (.inl i1), some (.inl i2), some (.inl (h_i M (h_r M a0 7) (i1).toNatClampNeg)), some (.inl v_2), none, none]) (s2 := []) (M2 := M_1) c_154 rfl).trans (t_i ?_ ?_)
      · skip
        exact ev_ns c_154 2 (ip' := 34) (ls' := [some (.inr a0), some (.inl i1), some (.inl i2), some (.inl (h_i M (h_r M a0 7) (i1).toNatClampNeg)), some (.inl v_2), none, none]) (st' := [.inl 1]) (M' := M_1) rfl
      · skip
        exact rfl
    · skip
      exact rfl
  · skip
    exact rfl
set_option maxRecDepth 20000 in
theorem e_154_33 (a0 : Nat) (i1 : Int32) (i2 : Int32) (i3 : Int32) (i4 : Int32) (M : mM) : ev 154 33 [some (.inr a0), some (.inl i1), some (.inl i2), some (.inl i3), some (.inl i4), none, none] [] M = ev 154 34 [some (.inr a0), some (.inl i1), some (.inl i2), some (.inl i3), some (.inl i4), none, none] [.inl 0] M := by
  exact ev_ns c_154 1 (ip' := 34) (ls' := [some (.inr a0), some (.inl i1), some (.inl i2), some (.inl i3), some (.inl i4), none, none]) (st' := [.inl 0]) (M' := M) rfl
set_option maxRecDepth 20000 in
theorem e_154_34 (a0 : Nat) (i1 : Int32) (i2 : Int32) (i3 : Int32) (i4 : Int32) (s0 : Int32) (M : mM) : ev 154 34 [some (.inr a0), some (.inl i1), some (.inl i2), some (.inl i3), some (.inl i4), none, none] [.inl s0] M = ev 154 37 [some (.inr a0), some (.inl i1), some (.inl i2), some (.inl i3), some (.inl i4), some (.inl s0), some (.inl 1)] [] M := by
  exact ev_ns c_154 3 (ip' := 37) (ls' := [some (.inr a0), some (.inl i1), some (.inl i2), some (.inl i3), some (.inl i4), some (.inl s0), some (.inl 1)]) (st' := []) (M' := M) rfl
set_option maxRecDepth 20000 in
theorem e_154_37 (a0 : Nat) (i1 : Int32) (i2 : Int32) (i3 : Int32) (i4 : Int32) (i5 : Int32) (i6 : Int32) (M : mM) : ev 154 37 [some (.inr a0), some (.inl i1), some (.inl i2), some (.inl i3), some (.inl i4), some (.inl i5), some (.inl i6)] [] M = if (8 : Int32) < i6 then (ev 154 63 [some (.inr a0), some (.inl i1), some (.inl i2), some (.inl i3), some (.inl i4), some (.inl i5), some (.inl i6)] [] M) else (if i5 = 0 then (ev 154 63 [some (.inr a0), some (.inl i1), some (.inl i2), some (.inl i3), some (.inl i4), some (.inl i5), some (.inl i6)] [] M) else (if h_k M a0 = 8 then (if h_k M a0 = 8 then (if (h_k M (h_r M a0 15) = 9 ∨ h_k M (h_r M a0 15) = 14) ∧ h_in i4 (h_l M (h_r M a0 15)) then (if h_k M a0 = 8 then (if (h_k M (h_r M a0 6) = 9 ∨ h_k M (h_r M a0 6) = 14) ∧ h_in ((32 * i2) + i6) (h_l M (h_r M a0 6)) then (if h_k M (h_r M a0 6) = 9 ∧ h_in ((32 * (h_i M (h_r M a0 15) (i4).toNatClampNeg)) + i6) (h_l M (h_r M a0 6)) then (ev 154 37 [some (.inr a0), some (.inl i1), some (.inl i2), some (.inl i3), some (.inl i4), some (.inl i5), some (.inl (i6 + 1))] [] (h_si M (h_r M a0 6) (((32 * (h_i M (h_r M a0 15) (i4).toNatClampNeg)) + i6)).toNatClampNeg (h_i M (h_r M a0 6) (((32 * i2) + i6)).toNatClampNeg))) else none) else none) else none) else none) else none) else none)) := by
  refine (ev_ns c_154 2 (ip' := 39) (ls' := [some (.inr a0), some (.inl i1), some (.inl i2), some (.inl i3), some (.inl i4), some (.inl i5), some (.inl i6)]) (st' := [.inl 8, .inl i6]) (M' := M) rfl).trans ?_
  refine (ev_i ((8 : Int32) < i6) (i1 := 63) (l1 := [some (.inr a0), some (.inl i1), some (.inl i2), some (.inl i3), some (.inl i4), some (.inl i5), some (.inl i6)]) (s1 := []) (M1 := M) (i2 := 40) (l2 := [some (.inr a0), some (.inl i1), some (.inl i2), some (.inl i3), some (.inl i4), some (.inl i5), some (.inl i6)]) (s2 := []) (M2 := M) c_154 rfl).trans (t_i ?_ ?_)
  · skip
    exact rfl
  · skip
    refine (ev_ns c_154 1 (ip' := 41) (ls' := [some (.inr a0), some (.inl i1), some (.inl i2), some (.inl i3), some (.inl i4), some (.inl i5), some (.inl i6)]) (st' := [.inl i5]) (M' := M) rfl).trans ?_
    refine (ev_i (i5 = 0) (i1 := 63) (l1 := [some (.inr a0), some (.inl i1), some (.inl i2), some (.inl i3), some (.inl i4), some (.inl i5), some (.inl i6)]) (s1 := []) (M1 := M) (i2 := 42) (l2 := [some (.inr a0), some (.inl i1), some (.inl i2), some (.inl i3), some (.inl i4), some (.inl i5), some (.inl i6)]) (s2 := []) (M2 := M) c_154 rfl).trans (t_i ?_ ?_)
    · skip
      exact rfl
    · skip
      refine (ev_ns c_154 1 (ip' := 43) (ls' := [some (.inr a0), some (.inl i1), some (.inl i2), some (.inl i3), some (.inl i4), some (.inl i5), some (.inl i6)]) (st' := [.inr a0]) (M' := M) rfl).trans ?_
      refine (ev_g (h_k M a0 = 8) (ip' := 44) (ls' := [some (.inr a0), some (.inl i1), some (.inl i2), some (.inl i3), some (.inl i4), some (.inl i5), some (.inl i6)]) (st' := [.inr (h_r M a0 6)]) (M' := M) c_154 rfl).trans (t_i ?_ rfl)
      refine (ev_ns c_154 2 (ip' := 46) (ls' := [some (.inr a0), some (.inl i1), some (.inl i2), some (.inl i3), some (.inl i4), some (.inl i5), some (.inl i6)]) (st' := [.inr a0, .inl 32, .inr (h_r M a0 6)]) (M' := M) rfl).trans ?_
      refine (ev_g (h_k M a0 = 8) (ip' := 47) (ls' := [some (.inr a0), some (.inl i1), some (.inl i2), some (.inl i3), some (.inl i4), some (.inl i5), some (.inl i6)]) (st' := [.inr (h_r M a0 15), .inl 32, .inr (h_r M a0 6)]) (M' := M) c_154 rfl).trans (t_i ?_ rfl)
      refine (ev_ns c_154 1 (ip' := 48) (ls' := [some (.inr a0), some (.inl i1), some (.inl i2), some (.inl i3), some (.inl i4), some (.inl i5), some (.inl i6)]) (st' := [.inl i4, .inr (h_r M a0 15), .inl 32, .inr (h_r M a0 6)]) (M' := M) rfl).trans ?_
      refine (ev_g ((h_k M (h_r M a0 15) = 9 ∨ h_k M (h_r M a0 15) = 14) ∧ h_in i4 (h_l M (h_r M a0 15))) (ip' := 49) (ls' := [some (.inr a0), some (.inl i1), some (.inl i2), some (.inl i3), some (.inl i4), some (.inl i5), some (.inl i6)]) (st' := [.inl (h_i M (h_r M a0 15) (i4).toNatClampNeg), .inl 32, .inr (h_r M a0 6)]) (M' := M) c_154 rfl).trans (t_i ?_ rfl)
      refine (ev_ns c_154 4 (ip' := 53) (ls' := [some (.inr a0), some (.inl i1), some (.inl i2), some (.inl i3), some (.inl i4), some (.inl i5), some (.inl i6)]) (st' := [.inr a0, .inl ((32 * (h_i M (h_r M a0 15) (i4).toNatClampNeg)) + i6), .inr (h_r M a0 6)]) (M' := M) rfl).trans ?_
      refine (ev_g (h_k M a0 = 8) (ip' := 54) (ls' := [some (.inr a0), some (.inl i1), some (.inl i2), some (.inl i3), some (.inl i4), some (.inl i5), some (.inl i6)]) (st' := [.inr (h_r M a0 6), .inl ((32 * (h_i M (h_r M a0 15) (i4).toNatClampNeg)) + i6), .inr (h_r M a0 6)]) (M' := M) c_154 rfl).trans (t_i ?_ rfl)
      refine (ev_ns c_154 5 (ip' := 59) (ls' := [some (.inr a0), some (.inl i1), some (.inl i2), some (.inl i3), some (.inl i4), some (.inl i5), some (.inl i6)]) (st' := [.inl ((32 * i2) + i6), .inr (h_r M a0 6), .inl ((32 * (h_i M (h_r M a0 15) (i4).toNatClampNeg)) + i6), .inr (h_r M a0 6)]) (M' := M) rfl).trans ?_
      refine (ev_g ((h_k M (h_r M a0 6) = 9 ∨ h_k M (h_r M a0 6) = 14) ∧ h_in ((32 * i2) + i6) (h_l M (h_r M a0 6))) (ip' := 60) (ls' := [some (.inr a0), some (.inl i1), some (.inl i2), some (.inl i3), some (.inl i4), some (.inl i5), some (.inl i6)]) (st' := [.inl (h_i M (h_r M a0 6) (((32 * i2) + i6)).toNatClampNeg), .inl ((32 * (h_i M (h_r M a0 15) (i4).toNatClampNeg)) + i6), .inr (h_r M a0 6)]) (M' := M) c_154 rfl).trans (t_i ?_ rfl)
      refine (ev_g (h_k M (h_r M a0 6) = 9 ∧ h_in ((32 * (h_i M (h_r M a0 15) (i4).toNatClampNeg)) + i6) (h_l M (h_r M a0 6))) (ip' := 61) (ls' := [some (.inr a0), some (.inl i1), some (.inl i2), some (.inl i3), some (.inl i4), some (.inl i5), some (.inl i6)]) (st' := []) (M' := h_si M (h_r M a0 6) (((32 * (h_i M (h_r M a0 15) (i4).toNatClampNeg)) + i6)).toNatClampNeg (h_i M (h_r M a0 6) (((32 * i2) + i6)).toNatClampNeg)) c_154 rfl).trans (t_i ?_ rfl)
      exact ev_ns c_154 2 (ip' := 37) (ls' := [some (.inr a0), some (.inl i1), some (.inl i2), some (.inl i3), some (.inl i4), some (.inl i5), some (.inl (i6 + 1))]) (st' := []) (M' := h_si M (h_r M a0 6) (((32 * (h_i M (h_r M a0 15) (i4).toNatClampNeg)) + i6)).toNatClampNeg (h_i M (h_r M a0 6) (((32 * i2) + i6)).toNatClampNeg)) rfl
set_option maxRecDepth 20000 in
theorem e_154_63 (a0 : Nat) (i1 : Int32) (i2 : Int32) (i3 : Int32) (i4 : Int32) (i5 : Int32) (i6 : Int32) (M : mM) : ev 154 63 [some (.inr a0), some (.inl i1), some (.inl i2), some (.inl i3), some (.inl i4), some (.inl i5), some (.inl i6)] [] M = if h_k M a0 = 8 then (if i5 = 0 then (ev 154 73 [some (.inr a0), some (.inl i1), some (.inl i2), some (.inl i3), some (.inl i4), some (.inl i5), some (.inl i6)] [.inl 1, .inl (8 * i1), .inr (h_r M a0 19)] M) else (ev 154 73 [some (.inr a0), some (.inl i1), some (.inl i2), some (.inl i3), some (.inl i4), some (.inl i5), some (.inl i6)] [.inl 0, .inl (8 * i1), .inr (h_r M a0 19)] M)) else none := by
  refine (ev_ns c_154 1 (ip' := 64) (ls' := [some (.inr a0), some (.inl i1), some (.inl i2), some (.inl i3), some (.inl i4), some (.inl i5), some (.inl i6)]) (st' := [.inr a0]) (M' := M) rfl).trans ?_
  refine (ev_g (h_k M a0 = 8) (ip' := 65) (ls' := [some (.inr a0), some (.inl i1), some (.inl i2), some (.inl i3), some (.inl i4), some (.inl i5), some (.inl i6)]) (st' := [.inr (h_r M a0 19)]) (M' := M) c_154 rfl).trans (t_i ?_ rfl)
  refine (ev_ns c_154 4 (ip' := 69) (ls' := [some (.inr a0), some (.inl i1), some (.inl i2), some (.inl i3), some (.inl i4), some (.inl i5), some (.inl i6)]) (st' := [.inl i5, .inl (8 * i1), .inr (h_r M a0 19)]) (M' := M) rfl).trans ?_
  refine (ev_i (i5 = 0) (i1 := 72) (l1 := [some (.inr a0), some (.inl i1), some (.inl i2), some (.inl i3), some (.inl i4), some (.inl i5), some (.inl i6)]) (s1 := [.inl (8 * i1), .inr (h_r M a0 19)]) (M1 := M) (i2 := 70) (l2 := [some (.inr a0), some (.inl i1), some (.inl i2), some (.inl i3), some (.inl i4), some (.inl i5), some (.inl i6)]) (s2 := [.inl (8 * i1), .inr (h_r M a0 19)]) (M2 := M) c_154 rfl).trans (t_i ?_ ?_)
  · skip
    exact ev_ns c_154 1 (ip' := 73) (ls' := [some (.inr a0), some (.inl i1), some (.inl i2), some (.inl i3), some (.inl i4), some (.inl i5), some (.inl i6)]) (st' := [.inl 1, .inl (8 * i1), .inr (h_r M a0 19)]) (M' := M) rfl
  · skip
    exact ev_ns c_154 2 (ip' := 73) (ls' := [some (.inr a0), some (.inl i1), some (.inl i2), some (.inl i3), some (.inl i4), some (.inl i5), some (.inl i6)]) (st' := [.inl 0, .inl (8 * i1), .inr (h_r M a0 19)]) (M' := M) rfl
set_option maxRecDepth 20000 in
theorem e_154_73 (a0 : Nat) (i1 : Int32) (i2 : Int32) (i3 : Int32) (i4 : Int32) (i5 : Int32) (i6 : Int32) (t0 : Nat) (s1 : Int32) (s2 : Int32) (M : mM) : ev 154 73 [some (.inr a0), some (.inl i1), some (.inl i2), some (.inl i3), some (.inl i4), some (.inl i5), some (.inl i6)] [.inl s2, .inl s1, .inr t0] M = if h_k M t0 = 9 ∧ h_in s1 (h_l M t0) then (ev 154 74 [some (.inr a0), some (.inl i1), some (.inl i2), some (.inl i3), some (.inl i4), some (.inl i5), some (.inl i6)] [] (h_si M t0 (s1).toNatClampNeg s2)) else none := by
  refine (ev_g (h_k M t0 = 9 ∧ h_in s1 (h_l M t0)) (ip' := 74) (ls' := [some (.inr a0), some (.inl i1), some (.inl i2), some (.inl i3), some (.inl i4), some (.inl i5), some (.inl i6)]) (st' := []) (M' := h_si M t0 (s1).toNatClampNeg s2) c_154 rfl).trans (t_i ?_ rfl)
  exact rfl
set_option maxRecDepth 20000 in
theorem e_154_74 (a0 : Nat) (i1 : Int32) (i2 : Int32) (i3 : Int32) (o4 : Option mV) (o5 : Option mV) (o6 : Option mV) (M : mM) : ev 154 74 [some (.inr a0), some (.inl i1), some (.inl i2), some (.inl i3), o4, o5, o6] [] M = if h_k M a0 = 8 then (if (h_k M (h_r M a0 20) = 9 ∨ h_k M (h_r M a0 20) = 14) ∧ h_in i1 (h_l M (h_r M a0 20)) then (if (h_i M (h_r M a0 20) (i1).toNatClampNeg) = 2 then (if h_k M a0 = 8 then (if h_k M a0 = 8 then (if (h_k M (h_r M a0 24) = 9 ∨ h_k M (h_r M a0 24) = 14) ∧ h_in i1 (h_l M (h_r M a0 24)) then (if h_k M a0 = 8 then (if (h_k M (h_r M a0 22) = 9 ∨ h_k M (h_r M a0 22) = 14) ∧ h_in i1 (h_l M (h_r M a0 22)) then (if (h_i M (h_r M a0 24) (i1).toNatClampNeg) = (h_i M (h_r M a0 22) (i1).toNatClampNeg) then (ev 154 97 [some (.inr a0), some (.inl i1), some (.inl i2), some (.inl i3), o4, o5, o6] [.inl 0, .inl (8 * i1), .inr (h_r M a0 19)] M) else (ev 154 97 [some (.inr a0), some (.inl i1), some (.inl i2), some (.inl i3), o4, o5, o6] [.inl 1, .inl (8 * i1), .inr (h_r M a0 19)] M)) else none) else none) else none) else none) else none) else (ev 154 110 [some (.inr a0), some (.inl i1), some (.inl i2), some (.inl i3), o4, o5, o6] [] M)) else none) else none := by
  refine (ev_ns c_154 1 (ip' := 75) (ls' := [some (.inr a0), some (.inl i1), some (.inl i2), some (.inl i3), o4, o5, o6]) (st' := [.inr a0]) (M' := M) rfl).trans ?_
  refine (ev_g (h_k M a0 = 8) (ip' := 76) (ls' := [some (.inr a0), some (.inl i1), some (.inl i2), some (.inl i3), o4, o5, o6]) (st' := [.inr (h_r M a0 20)]) (M' := M) c_154 rfl).trans (t_i ?_ rfl)
  refine (ev_ns c_154 1 (ip' := 77) (ls' := [some (.inr a0), some (.inl i1), some (.inl i2), some (.inl i3), o4, o5, o6]) (st' := [.inl i1, .inr (h_r M a0 20)]) (M' := M) rfl).trans ?_
  refine (ev_g ((h_k M (h_r M a0 20) = 9 ∨ h_k M (h_r M a0 20) = 14) ∧ h_in i1 (h_l M (h_r M a0 20))) (ip' := 78) (ls' := [some (.inr a0), some (.inl i1), some (.inl i2), some (.inl i3), o4, o5, o6]) (st' := [.inl (h_i M (h_r M a0 20) (i1).toNatClampNeg)]) (M' := M) c_154 rfl).trans (t_i ?_ rfl)
  refine (ev_ns c_154 1 (ip' := 79) (ls' := [some (.inr a0), some (.inl i1), some (.inl i2), some (.inl i3), o4, o5, o6]) (st' := [.inl 2, .inl (h_i M (h_r M a0 20) (i1).toNatClampNeg)]) (M' := M) rfl).trans ?_
  refine (ev_i ((h_i M (h_r M a0 20) (i1).toNatClampNeg) = 2) (i1 := 80) (l1 := [some (.inr a0), some (.inl i1), some (.inl i2), some (.inl i3), o4, o5, o6]) (s1 := []) (M1 := M) (i2 := 110) (l2 := [some (.inr a0), some (.inl i1), some (.inl i2), some (.inl i3), o4, o5, o6]) (s2 := []) (M2 := M) c_154 rfl).trans (t_i ?_ ?_)
  · skip
    refine (ev_ns c_154 1 (ip' := 81) (ls' := [some (.inr a0), some (.inl i1), some (.inl i2), some (.inl i3), o4, o5, o6]) (st' := [.inr a0]) (M' := M) rfl).trans ?_
    refine (ev_g (h_k M a0 = 8) (ip' := 82) (ls' := [some (.inr a0), some (.inl i1), some (.inl i2), some (.inl i3), o4, o5, o6]) (st' := [.inr (h_r M a0 19)]) (M' := M) c_154 rfl).trans (t_i ?_ rfl)
    refine (ev_ns c_154 4 (ip' := 86) (ls' := [some (.inr a0), some (.inl i1), some (.inl i2), some (.inl i3), o4, o5, o6]) (st' := [.inr a0, .inl (8 * i1), .inr (h_r M a0 19)]) (M' := M) rfl).trans ?_
    refine (ev_g (h_k M a0 = 8) (ip' := 87) (ls' := [some (.inr a0), some (.inl i1), some (.inl i2), some (.inl i3), o4, o5, o6]) (st' := [.inr (h_r M a0 24), .inl (8 * i1), .inr (h_r M a0 19)]) (M' := M) c_154 rfl).trans (t_i ?_ rfl)
    refine (ev_ns c_154 1 (ip' := 88) (ls' := [some (.inr a0), some (.inl i1), some (.inl i2), some (.inl i3), o4, o5, o6]) (st' := [.inl i1, .inr (h_r M a0 24), .inl (8 * i1), .inr (h_r M a0 19)]) (M' := M) rfl).trans ?_
    refine (ev_g ((h_k M (h_r M a0 24) = 9 ∨ h_k M (h_r M a0 24) = 14) ∧ h_in i1 (h_l M (h_r M a0 24))) (ip' := 89) (ls' := [some (.inr a0), some (.inl i1), some (.inl i2), some (.inl i3), o4, o5, o6]) (st' := [.inl (h_i M (h_r M a0 24) (i1).toNatClampNeg), .inl (8 * i1), .inr (h_r M a0 19)]) (M' := M) c_154 rfl).trans (t_i ?_ rfl)
    refine (ev_ns c_154 1 (ip' := 90) (ls' := [some (.inr a0), some (.inl i1), some (.inl i2), some (.inl i3), o4, o5, o6]) (st' := [.inr a0, .inl (h_i M (h_r M a0 24) (i1).toNatClampNeg), .inl (8 * i1), .inr (h_r M a0 19)]) (M' := M) rfl).trans ?_
    refine (ev_g (h_k M a0 = 8) (ip' := 91) (ls' := [some (.inr a0), some (.inl i1), some (.inl i2), some (.inl i3), o4, o5, o6]) (st' := [.inr (h_r M a0 22), .inl (h_i M (h_r M a0 24) (i1).toNatClampNeg), .inl (8 * i1), .inr (h_r M a0 19)]) (M' := M) c_154 rfl).trans (t_i ?_ rfl)
    refine (ev_ns c_154 1 (ip' := 92) (ls' := [some (.inr a0), some (.inl i1), some (.inl i2), some (.inl i3), o4, o5, o6]) (st' := [.inl i1, .inr (h_r M a0 22), .inl (h_i M (h_r M a0 24) (i1).toNatClampNeg), .inl (8 * i1), .inr (h_r M a0 19)]) (M' := M) rfl).trans ?_
    refine (ev_g ((h_k M (h_r M a0 22) = 9 ∨ h_k M (h_r M a0 22) = 14) ∧ h_in i1 (h_l M (h_r M a0 22))) (ip' := 93) (ls' := [some (.inr a0), some (.inl i1), some (.inl i2), some (.inl i3), o4, o5, o6]) (st' := [.inl (h_i M (h_r M a0 22) (i1).toNatClampNeg), .inl (h_i M (h_r M a0 24) (i1).toNatClampNeg), .inl (8 * i1), .inr (h_r M a0 19)]) (M' := M) c_154 rfl).trans (t_i ?_ rfl)
    refine (ev_i ((h_i M (h_r M a0 24) (i1).toNatClampNeg) = (h_i M (h_r M a0 22) (i1).toNatClampNeg)) (i1 := 94) (l1 := [some (.inr a0), some (.inl i1), some (.inl i2), some (.inl i3), o4, o5, o6]) (s1 := [.inl (8 * i1), .inr (h_r M a0 19)]) (M1 := M) (i2 := 96) (l2 := [some (.inr a0), some (.inl i1), some (.inl i2), some (.inl i3), o4, o5, o6]) (s2 := [.inl (8 * i1), .inr (h_r M a0 19)]) (M2 := M) c_154 rfl).trans (t_i ?_ ?_)
    · skip
      exact ev_ns c_154 2 (ip' := 97) (ls' := [some (.inr a0), some (.inl i1), some (.inl i2), some (.inl i3), o4, o5, o6]) (st' := [.inl 0, .inl (8 * i1), .inr (h_r M a0 19)]) (M' := M) rfl
    · skip
      exact ev_ns c_154 1 (ip' := 97) (ls' := [some (.inr a0), some (.inl i1), some (.inl i2), some (.inl i3), o4, o5, o6]) (st' := [.inl 1, .inl (8 * i1), .inr (h_r M a0 19)]) (M' := M) rfl
  · skip
    exact rfl
set_option maxRecDepth 20000 in
theorem e_154_97 (a0 : Nat) (i1 : Int32) (i2 : Int32) (i3 : Int32) (o4 : Option mV) (o5 : Option mV) (o6 : Option mV) (t0 : Nat) (s1 : Int32) (s2 : Int32) (M : mM) : ev 154 97 [some (.inr a0), some (.inl i1), some (.inl i2), some (.inl i3), o4, o5, o6] [.inl s2, .inl s1, .inr t0] M = if h_k M t0 = 9 ∧ h_in s1 (h_l M t0) then (if h_k (h_si M t0 (s1).toNatClampNeg s2) a0 = 8 then (if h_k (h_si M t0 (s1).toNatClampNeg s2) a0 = 8 then (if (h_k (h_si M t0 (s1).toNatClampNeg s2) (h_r (h_si M t0 (s1).toNatClampNeg s2) a0 24) = 9 ∨ h_k (h_si M t0 (s1).toNatClampNeg s2) (h_r (h_si M t0 (s1).toNatClampNeg s2) a0 24) = 14) ∧ h_in i1 (h_l (h_si M t0 (s1).toNatClampNeg s2) (h_r (h_si M t0 (s1).toNatClampNeg s2) a0 24)) then (if h_k (h_si M t0 (s1).toNatClampNeg s2) (h_r (h_si M t0 (s1).toNatClampNeg s2) a0 19) = 9 ∧ h_in ((8 * i1) + 1) (h_l (h_si M t0 (s1).toNatClampNeg s2) (h_r (h_si M t0 (s1).toNatClampNeg s2) a0 19)) then (ev 154 110 [some (.inr a0), some (.inl i1), some (.inl i2), some (.inl i3), o4, o5, o6] [] (h_si (h_si M t0 (s1).toNatClampNeg s2) (h_r (h_si M t0 (s1).toNatClampNeg s2) a0 19) (((8 * i1) + 1)).toNatClampNeg (h_i (h_si M t0 (s1).toNatClampNeg s2) (h_r (h_si M t0 (s1).toNatClampNeg s2) a0 24) (i1).toNatClampNeg))) else none) else none) else none) else none) else none := by
  refine (ev_g (h_k M t0 = 9 ∧ h_in s1 (h_l M t0)) (ip' := 98) (ls' := [some (.inr a0), some (.inl i1), some (.inl i2), some (.inl i3), o4, o5, o6]) (st' := []) (M' := h_si M t0 (s1).toNatClampNeg s2) c_154 rfl).trans (t_i ?_ rfl)
  refine (ev_ns c_154 1 (ip' := 99) (ls' := [some (.inr a0), some (.inl i1), some (.inl i2), some (.inl i3), o4, o5, o6]) (st' := [.inr a0]) (M' := h_si M t0 (s1).toNatClampNeg s2) rfl).trans ?_
  refine (ev_g (h_k (h_si M t0 (s1).toNatClampNeg s2) a0 = 8) (ip' := 100) (ls' := [some (.inr a0), some (.inl i1), some (.inl i2), some (.inl i3), o4, o5, o6]) (st' := [.inr (h_r (h_si M t0 (s1).toNatClampNeg s2) a0 19)]) (M' := h_si M t0 (s1).toNatClampNeg s2) c_154 rfl).trans (t_i ?_ rfl)
  refine (ev_ns c_154 6 (ip' := 106) (ls' := [some (.inr a0), some (.inl i1), some (.inl i2), some (.inl i3), o4, o5, o6]) (st' := [.inr a0, .inl ((8 * i1) + 1), .inr (h_r (h_si M t0 (s1).toNatClampNeg s2) a0 19)]) (M' := h_si M t0 (s1).toNatClampNeg s2) rfl).trans ?_
  refine (ev_g (h_k (h_si M t0 (s1).toNatClampNeg s2) a0 = 8) (ip' := 107) (ls' := [some (.inr a0), some (.inl i1), some (.inl i2), some (.inl i3), o4, o5, o6]) (st' := [.inr (h_r (h_si M t0 (s1).toNatClampNeg s2) a0 24), .inl ((8 * i1) + 1), .inr (h_r (h_si M t0 (s1).toNatClampNeg s2) a0 19)]) (M' := h_si M t0 (s1).toNatClampNeg s2) c_154 rfl).trans (t_i ?_ rfl)
  refine (ev_ns c_154 1 (ip' := 108) (ls' := [some (.inr a0), some (.inl i1), some (.inl i2), some (.inl i3), o4, o5, o6]) (st' := [.inl i1, .inr (h_r (h_si M t0 (s1).toNatClampNeg s2) a0 24), .inl ((8 * i1) + 1), .inr (h_r (h_si M t0 (s1).toNatClampNeg s2) a0 19)]) (M' := h_si M t0 (s1).toNatClampNeg s2) rfl).trans ?_
  refine (ev_g ((h_k (h_si M t0 (s1).toNatClampNeg s2) (h_r (h_si M t0 (s1).toNatClampNeg s2) a0 24) = 9 ∨ h_k (h_si M t0 (s1).toNatClampNeg s2) (h_r (h_si M t0 (s1).toNatClampNeg s2) a0 24) = 14) ∧ h_in i1 (h_l (h_si M t0 (s1).toNatClampNeg s2) (h_r (h_si M t0 (s1).toNatClampNeg s2) a0 24))) (ip' := 109) (ls' := [some (.inr a0), some (.inl i1), some (.inl i2), some (.inl i3), o4, o5, o6]) (st' := [.inl (h_i (h_si M t0 (s1).toNatClampNeg s2) (h_r (h_si M t0 (s1).toNatClampNeg s2) a0 24) (i1).toNatClampNeg), .inl ((8 * i1) + 1), .inr (h_r (h_si M t0 (s1).toNatClampNeg s2) a0 19)]) (M' := h_si M t0 (s1).toNatClampNeg s2) c_154 rfl).trans (t_i ?_ rfl)
  refine (ev_g (h_k (h_si M t0 (s1).toNatClampNeg s2) (h_r (h_si M t0 (s1).toNatClampNeg s2) a0 19) = 9 ∧ h_in ((8 * i1) + 1) (h_l (h_si M t0 (s1).toNatClampNeg s2) (h_r (h_si M t0 (s1).toNatClampNeg s2) a0 19))) (ip' := 110) (ls' := [some (.inr a0), some (.inl i1), some (.inl i2), some (.inl i3), o4, o5, o6]) (st' := []) (M' := h_si (h_si M t0 (s1).toNatClampNeg s2) (h_r (h_si M t0 (s1).toNatClampNeg s2) a0 19) (((8 * i1) + 1)).toNatClampNeg (h_i (h_si M t0 (s1).toNatClampNeg s2) (h_r (h_si M t0 (s1).toNatClampNeg s2) a0 24) (i1).toNatClampNeg)) c_154 rfl).trans (t_i ?_ rfl)
  exact rfl
set_option maxRecDepth 20000 in
theorem e_154_110 (a0 : Nat) (i1 : Int32) (i2 : Int32) (i3 : Int32) (o4 : Option mV) (o5 : Option mV) (o6 : Option mV) (M : mM) : ev 154 110 [some (.inr a0), some (.inl i1), some (.inl i2), some (.inl i3), o4, o5, o6] [] M = if h_k M a0 = 8 then (if h_k M (h_r M a0 20) = 9 ∧ h_in i1 (h_l M (h_r M a0 20)) then (some (none, h_si M (h_r M a0 20) (i1).toNatClampNeg 0)) else none) else none := by
  refine (ev_ns c_154 1 (ip' := 111) (ls' := [some (.inr a0), some (.inl i1), some (.inl i2), some (.inl i3), o4, o5, o6]) (st' := [.inr a0]) (M' := M) rfl).trans ?_
  refine (ev_g (h_k M a0 = 8) (ip' := 112) (ls' := [some (.inr a0), some (.inl i1), some (.inl i2), some (.inl i3), o4, o5, o6]) (st' := [.inr (h_r M a0 20)]) (M' := M) c_154 rfl).trans (t_i ?_ rfl)
  refine (ev_ns c_154 2 (ip' := 114) (ls' := [some (.inr a0), some (.inl i1), some (.inl i2), some (.inl i3), o4, o5, o6]) (st' := [.inl 0, .inl i1, .inr (h_r M a0 20)]) (M' := M) rfl).trans ?_
  refine (ev_g (h_k M (h_r M a0 20) = 9 ∧ h_in i1 (h_l M (h_r M a0 20))) (ip' := 115) (ls' := [some (.inr a0), some (.inl i1), some (.inl i2), some (.inl i3), o4, o5, o6]) (st' := []) (M' := h_si M (h_r M a0 20) (i1).toNatClampNeg 0) c_154 rfl).trans (t_i ?_ rfl)
  exact ev_d c_154 rfl
/- 155: GranuleHallModel.enter(II)Z -/
set_option maxRecDepth 20000 in
theorem e_155_0 (a0 : Nat) (i1 : Int32) (i2 : Int32) (M : mM) : ev 155 0 [some (.inr a0), some (.inl i1), some (.inl i2)] [] M = if (a_rec M 8 [.inr a0, .inl i1] = true ∧ ([] : List mV).length ≤ 8) then (c_I (ev 107 0 [some (.inr a0), some (.inl i1)] [] M) fun v_2 M_1 => if v_2 = 0 then (ev 155 8 [some (.inr a0), some (.inl i1), some (.inl i2)] [] M_1) else (if (a_rec M_1 8 [.inr a0, .inl i2] = true ∧ ([] : List mV).length ≤ 8) then (c_I (ev 107 0 [some (.inr a0), some (.inl i2)] [] M_1) fun v_4 M_3 => if v_4 = 0 then (ev 155 8 [some (.inr a0), some (.inl i1), some (.inl i2)] [] M_3) else (if (a_rec M_3 8 [.inr a0, .inl i1, .inl 3] = true ∧ ([] : List mV).length ≤ 8) then (c_I (ev 108 0 [some (.inr a0), some (.inl i1), some (.inl 3)] [] M_3) fun v_6 M_5 => if v_6 = 0 then (ev 155 22 [some (.inr a0), some (.inl i1), some (.inl i2)] [] M_5) else (if (a_rec M_5 8 [.inr a0, .inl i2, .inl 0] = true ∧ ([] : List mV).length ≤ 8) then (c_I (ev 108 0 [some (.inr a0), some (.inl i2), some (.inl 0)] [] M_5) fun v_8 M_7 => if v_8 = 0 then (ev 155 22 [some (.inr a0), some (.inl i1), some (.inl i2)] [] M_7) else (if h_k M_7 a0 = 8 then (if h_k M_7 a0 = 8 then (if (h_k M_7 (h_r M_7 a0 7) = 9 ∨ h_k M_7 (h_r M_7 a0 7) = 14) ∧ h_in i1 (h_l M_7 (h_r M_7 a0 7)) then (if (h_k M_7 (h_r M_7 a0 8) = 9 ∨ h_k M_7 (h_r M_7 a0 8) = 14) ∧ h_in (h_i M_7 (h_r M_7 a0 7) (i1).toNatClampNeg) (h_l M_7 (h_r M_7 a0 8)) then (if (h_i M_7 (h_r M_7 a0 8) ((h_i M_7 (h_r M_7 a0 7) (i1).toNatClampNeg)).toNatClampNeg) = 1 then (if h_k M_7 a0 = 8 then (if h_k M_7 (h_r M_7 a0 18) = 10 ∧ h_in i1 (h_l M_7 (h_r M_7 a0 18)) then (if (h_i M_7 (h_r M_7 a0 18) (i1).toNatClampNeg) = 0 then (ev 155 48 [some (.inr a0), some (.inl i1), some (.inl i2)] [] M_7) else (if h_k M_7 a0 = 8 then (if (h_i M_7 a0 2) = (-1) then (if (a_rec M_7 8 [.inr a0, .inl i1, .inl i2] = true ∧ ([] : List mV).length ≤ 8) then (c_V (ev 154 0 [some (.inr a0), some (.inl i1), some (.inl i2), none, none, none, none] [] M_7) fun M_9 => if h_k M_9 a0 = 8 then (if h_k M_9 (h_r M_9 a0 26) = 9 ∧ h_in i1 (h_l M_9 (h_r M_9 a0 26)) then (if h_k (h_si M_9 (h_r M_9 a0 26) (i1).toNatClampNeg i2) a0 = 8 then (if h_k (h_si (h_si M_9 (h_r M_9 a0 26) (i1).toNatClampNeg i2) a0 2 i1) a0 = 8 then (if (h_k (h_si (h_si M_9 (h_r M_9 a0 26) (i1).toNatClampNeg i2) a0 2 i1) (h_r (h_si (h_si M_9 (h_r M_9 a0 26) (i1).toNatClampNeg i2) a0 2 i1) a0 25) = 9 ∨ h_k (h_si (h_si M_9 (h_r M_9 a0 26) (i1).toNatClampNeg i2) a0 2 i1) (h_r (h_si (h_si M_9 (h_r M_9 a0 26) (i1).toNatClampNeg i2) a0 2 i1) a0 25) = 14) ∧ h_in i1 (h_l (h_si (h_si M_9 (h_r M_9 a0 26) (i1).toNatClampNeg i2) a0 2 i1) (h_r (h_si (h_si M_9 (h_r M_9 a0 26) (i1).toNatClampNeg i2) a0 2 i1) a0 25)) then (if h_k (h_si (h_si M_9 (h_r M_9 a0 26) (i1).toNatClampNeg i2) a0 2 i1) (h_r (h_si (h_si M_9 (h_r M_9 a0 26) (i1).toNatClampNeg i2) a0 2 i1) a0 25) = 9 ∧ h_in i1 (h_l (h_si (h_si M_9 (h_r M_9 a0 26) (i1).toNatClampNeg i2) a0 2 i1) (h_r (h_si (h_si M_9 (h_r M_9 a0 26) (i1).toNatClampNeg i2) a0 2 i1) a0 25)) then (if (a_rec (h_si (h_si (h_si M_9 (h_r M_9 a0 26) (i1).toNatClampNeg i2) a0 2 i1) (h_r (h_si (h_si M_9 (h_r M_9 a0 26) (i1).toNatClampNeg i2) a0 2 i1) a0 25) (i1).toNatClampNeg ((h_i (h_si (h_si M_9 (h_r M_9 a0 26) (i1).toNatClampNeg i2) a0 2 i1) (h_r (h_si (h_si M_9 (h_r M_9 a0 26) (i1).toNatClampNeg i2) a0 2 i1) a0 25) (i1).toNatClampNeg) + 1)) 8 [.inr a0, .inl 0] = true ∧ ([] : List mV).length ≤ 8) then (c_I (ev 106 0 [some (.inr a0), some (.inl 0)] [] (h_si (h_si (h_si M_9 (h_r M_9 a0 26) (i1).toNatClampNeg i2) a0 2 i1) (h_r (h_si (h_si M_9 (h_r M_9 a0 26) (i1).toNatClampNeg i2) a0 2 i1) a0 25) (i1).toNatClampNeg ((h_i (h_si (h_si M_9 (h_r M_9 a0 26) (i1).toNatClampNeg i2) a0 2 i1) (h_r (h_si (h_si M_9 (h_r M_9 a0 26) (i1).toNatClampNeg i2) a0 2 i1) a0 25) (i1).toNatClampNeg) + 1))) fun v_11 M_10 => if v_11 = 0 ∨ v_11 = 1 then some (some (.inl v_11), M_10) else none) else none) else none) else none) else none) else none) else none) else none) else none) else (ev 155 48 [some (.inr a0), some (.inl i1), some (.inl i2)] [] M_7)) else none)) else none) else none) else (if (a_rec M_7 8 [.inr a0, .inl 3] = true ∧ ([] : List mV).length ≤ 8) then (c_I (ev 106 0 [some (.inr a0), some (.inl 3)] [] M_7) fun v_13 M_12 => if v_13 = 0 ∨ v_13 = 1 then some (some (.inl v_13), M_12) else none) else none)) else none) else none) else none) else none)) else none)) else none)) else none)) else none := by
  refine (ev_ns c_155 2 (ip' := 2) (ls' := [some (.inr a0), some (.inl i1), some (.inl i2)]) (st' := [.inl i1, .inr a0]) (M' := M) rfl).trans ?_
  refine (ev_gI (a_rec M 8 [.inr a0, .inl i1] = true ∧ ([] : List mV).length ≤ 8) (as := [.inr a0, .inl i1]) (rr := []) c_155 c_107 rfl).trans (t_i (t_cI ?_) rfl)
  intro v_2 M_1
  refine (ev_i (v_2 = 0) (i1 := 8) (l1 := [some (.inr a0), some (.inl i1), some (.inl i2)]) (s1 := []) (M1 := M_1) (i2 := 4) (l2 := [some (.inr a0), some (.inl i1), some (.inl i2)]) (s2 := []) (M2 := M_1) c_155 rfl).trans (t_i ?_ ?_)
  · skip
    exact rfl
  · skip
    refine (ev_ns c_155 2 (ip' := 6) (ls' := [some (.inr a0), some (.inl i1), some (.inl i2)]) (st' := [.inl i2, .inr a0]) (M' := M_1) rfl).trans ?_
    refine (ev_gI (a_rec M_1 8 [.inr a0, .inl i2] = true ∧ ([] : List mV).length ≤ 8) (as := [.inr a0, .inl i2]) (rr := []) c_155 c_107 rfl).trans (t_i (t_cI ?_) rfl)
    intro v_4 M_3
    refine (ev_i (v_4 = 0) (i1 := 8) (l1 := [some (.inr a0), some (.inl i1), some (.inl i2)]) (s1 := []) (M1 := M_3) (i2 := 12) (l2 := [some (.inr a0), some (.inl i1), some (.inl i2)]) (s2 := []) (M2 := M_3) c_155 rfl).trans (t_i ?_ ?_)
    · skip
      exact rfl
    · skip
      refine (ev_ns c_155 3 (ip' := 15) (ls' := [some (.inr a0), some (.inl i1), some (.inl i2)]) (st' := [.inl 3, .inl i1, .inr a0]) (M' := M_3) rfl).trans ?_
      refine (ev_gI (a_rec M_3 8 [.inr a0, .inl i1, .inl 3] = true ∧ ([] : List mV).length ≤ 8) (as := [.inr a0, .inl i1, .inl 3]) (rr := []) c_155 c_108 rfl).trans (t_i (t_cI ?_) rfl)
      intro v_6 M_5
      refine (ev_i (v_6 = 0) (i1 := 22) (l1 := [some (.inr a0), some (.inl i1), some (.inl i2)]) (s1 := []) (M1 := M_5) (i2 := 17) (l2 := [some (.inr a0), some (.inl i1), some (.inl i2)]) (s2 := []) (M2 := M_5) c_155 rfl).trans (t_i ?_ ?_)
      · skip
        exact rfl
      · skip
        refine (ev_ns c_155 3 (ip' := 20) (ls' := [some (.inr a0), some (.inl i1), some (.inl i2)]) (st' := [.inl 0, .inl i2, .inr a0]) (M' := M_5) rfl).trans ?_
        refine (ev_gI (a_rec M_5 8 [.inr a0, .inl i2, .inl 0] = true ∧ ([] : List mV).length ≤ 8) (as := [.inr a0, .inl i2, .inl 0]) (rr := []) c_155 c_108 rfl).trans (t_i (t_cI ?_) rfl)
        intro v_8 M_7
        refine (ev_i (v_8 = 0) (i1 := 22) (l1 := [some (.inr a0), some (.inl i1), some (.inl i2)]) (s1 := []) (M1 := M_7) (i2 := 26) (l2 := [some (.inr a0), some (.inl i1), some (.inl i2)]) (s2 := []) (M2 := M_7) c_155 rfl).trans (t_i ?_ ?_)
        · skip
          exact rfl
        · skip
          refine (ev_ns c_155 1 (ip' := 27) (ls' := [some (.inr a0), some (.inl i1), some (.inl i2)]) (st' := [.inr a0]) (M' := M_7) rfl).trans ?_
          refine (ev_g (h_k M_7 a0 = 8) (ip' := 28) (ls' := [some (.inr a0), some (.inl i1), some (.inl i2)]) (st' := [.inr (h_r M_7 a0 8)]) (M' := M_7) c_155 rfl).trans (t_i ?_ rfl)
          refine (ev_ns c_155 1 (ip' := 29) (ls' := [some (.inr a0), some (.inl i1), some (.inl i2)]) (st' := [.inr a0, .inr (h_r M_7 a0 8)]) (M' := M_7) rfl).trans ?_
          refine (ev_g (h_k M_7 a0 = 8) (ip' := 30) (ls' := [some (.inr a0), some (.inl i1), some (.inl i2)]) (st' := [.inr (h_r M_7 a0 7), .inr (h_r M_7 a0 8)]) (M' := M_7) c_155 rfl).trans (t_i ?_ rfl)
          refine (ev_ns c_155 1 (ip' := 31) (ls' := [some (.inr a0), some (.inl i1), some (.inl i2)]) (st' := [.inl i1, .inr (h_r M_7 a0 7), .inr (h_r M_7 a0 8)]) (M' := M_7) rfl).trans ?_
          refine (ev_g ((h_k M_7 (h_r M_7 a0 7) = 9 ∨ h_k M_7 (h_r M_7 a0 7) = 14) ∧ h_in i1 (h_l M_7 (h_r M_7 a0 7))) (ip' := 32) (ls' := [some (.inr a0), some (.inl i1), some (.inl i2)]) (st' := [.inl (h_i M_7 (h_r M_7 a0 7) (i1).toNatClampNeg), .inr (h_r M_7 a0 8)]) (M' := M_7) c_155 rfl).trans (t_i ?_ rfl)
          refine (ev_g ((h_k M_7 (h_r M_7 a0 8) = 9 ∨ h_k M_7 (h_r M_7 a0 8) = 14) ∧ h_in (h_i M_7 (h_r M_7 a0 7) (i1).toNatClampNeg) (h_l M_7 (h_r M_7 a0 8))) (ip' := 33) (ls' := [some (.inr a0), some (.inl i1), some (.inl i2)]) (st' := [.inl (h_i M_7 (h_r M_7 a0 8) ((h_i M_7 (h_r M_7 a0 7) (i1).toNatClampNeg)).toNatClampNeg)]) (M' := M_7) c_155 rfl).trans (t_i ?_ rfl)
          refine (ev_ns c_155 1 (ip' := 34) (ls' := [some (.inr a0), some (.inl i1), some (.inl i2)]) (st' := [.inl 1, .inl (h_i M_7 (h_r M_7 a0 8) ((h_i M_7 (h_r M_7 a0 7) (i1).toNatClampNeg)).toNatClampNeg)]) (M' := M_7) rfl).trans ?_
          refine (ev_i ((h_i M_7 (h_r M_7 a0 8) ((h_i M_7 (h_r M_7 a0 7) (i1).toNatClampNeg)).toNatClampNeg) = 1) (i1 := 39) (l1 := [some (.inr a0), some (.inl i1), some (.inl i2)]) (s1 := []) (M1 := M_7) (i2 := 35) (l2 := [some (.inr a0), some (.inl i1), some (.inl i2)]) (s2 := []) (M2 := M_7) c_155 rfl).trans (t_i ?_ ?_)
          · skip
            refine (ev_ns c_155 1 (ip' := 40) (ls' := [some (.inr a0), some (.inl i1), some (.inl i2)]) (st' := [.inr a0]) (M' := M_7) rfl).trans ?_
            refine (ev_g (h_k M_7 a0 = 8) (ip' := 41) (ls' := [some (.inr a0), some (.inl i1), some (.inl i2)]) (st' := [.inr (h_r M_7 a0 18)]) (M' := M_7) c_155 rfl).trans (t_i ?_ rfl)
            refine (ev_ns c_155 1 (ip' := 42) (ls' := [some (.inr a0), some (.inl i1), some (.inl i2)]) (st' := [.inl i1, .inr (h_r M_7 a0 18)]) (M' := M_7) rfl).trans ?_
            refine (ev_g (h_k M_7 (h_r M_7 a0 18) = 10 ∧ h_in i1 (h_l M_7 (h_r M_7 a0 18))) (ip' := 43) (ls' := [some (.inr a0), some (.inl i1), some (.inl i2)]) (st' := [.inl (h_i M_7 (h_r M_7 a0 18) (i1).toNatClampNeg)]) (M' := M_7) c_155 rfl).trans (t_i ?_ rfl)
            refine (ev_i ((h_i M_7 (h_r M_7 a0 18) (i1).toNatClampNeg) = 0) (i1 := 48) (l1 := [some (.inr a0), some (.inl i1), some (.inl i2)]) (s1 := []) (M1 := M_7) (i2 := 44) (l2 := [some (.inr a0), some (.inl i1), some (.inl i2)]) (s2 := []) (M2 := M_7) c_155 rfl).trans (t_i ?_ ?_)
            · skip
              exact rfl
            · skip
              refine (ev_ns c_155 1 (ip' := 45) (ls' := [some (.inr a0), some (.inl i1), some (.inl i2)]) (st' := [.inr a0]) (M' := M_7) rfl).trans ?_
              refine (ev_g (h_k M_7 a0 = 8) (ip' := 46) (ls' := [some (.inr a0), some (.inl i1), some (.inl i2)]) (st' := [.inl (h_i M_7 a0 2)]) (M' := M_7) c_155 rfl).trans (t_i ?_ rfl)
              refine (ev_ns c_155 1 (ip' := 47) (ls' := [some (.inr a0), some (.inl i1), some (.inl i2)]) (st' := [.inl (-1), .inl (h_i M_7 a0 2)]) (M' := M_7) rfl).trans ?_
              refine (ev_i ((h_i M_7 a0 2) = (-1)) (i1 := 52) (l1 := [some (.inr a0), some (.inl i1), some (.inl i2)]) (s1 := []) (M1 := M_7) (i2 := 48) (l2 := [some (.inr a0), some (.inl i1), some (.inl i2)]) (s2 := []) (M2 := M_7) c_155 rfl).trans (t_i ?_ ?_)
              · skip
                refine (ev_ns c_155 3 (ip' := 55) (ls' := [some (.inr a0), some (.inl i1), some (.inl i2)]) (st' := [.inl i2, .inl i1, .inr a0]) (M' := M_7) rfl).trans ?_
                refine (ev_gV (a_rec M_7 8 [.inr a0, .inl i1, .inl i2] = true ∧ ([] : List mV).length ≤ 8) (as := [.inr a0, .inl i1, .inl i2]) (rr := []) c_155 c_154 rfl).trans (t_i (t_cV ?_) rfl)
                intro M_9
                refine (ev_ns c_155 1 (ip' := 57) (ls' := [some (.inr a0), some (.inl i1), some (.inl i2)]) (st' := [.inr a0]) (M' := M_9) rfl).trans ?_
                refine (ev_g (h_k M_9 a0 = 8) (ip' := 58) (ls' := [some (.inr a0), some (.inl i1), some (.inl i2)]) (st' := [.inr (h_r M_9 a0 26)]) (M' := M_9) c_155 rfl).trans (t_i ?_ rfl)
                refine (ev_ns c_155 2 (ip' := 60) (ls' := [some (.inr a0), some (.inl i1), some (.inl i2)]) (st' := [.inl i2, .inl i1, .inr (h_r M_9 a0 26)]) (M' := M_9) rfl).trans ?_
                refine (ev_g (h_k M_9 (h_r M_9 a0 26) = 9 ∧ h_in i1 (h_l M_9 (h_r M_9 a0 26))) (ip' := 61) (ls' := [some (.inr a0), some (.inl i1), some (.inl i2)]) (st' := []) (M' := h_si M_9 (h_r M_9 a0 26) (i1).toNatClampNeg i2) c_155 rfl).trans (t_i ?_ rfl)
                refine (ev_ns c_155 2 (ip' := 63) (ls' := [some (.inr a0), some (.inl i1), some (.inl i2)]) (st' := [.inl i1, .inr a0]) (M' := h_si M_9 (h_r M_9 a0 26) (i1).toNatClampNeg i2) rfl).trans ?_
                refine (ev_g (h_k (h_si M_9 (h_r M_9 a0 26) (i1).toNatClampNeg i2) a0 = 8) (ip' := 64) (ls' := [some (.inr a0), some (.inl i1), some (.inl i2)]) (st' := []) (M' := h_si (h_si M_9 (h_r M_9 a0 26) (i1).toNatClampNeg i2) a0 2 i1) c_155 rfl).trans (t_i ?_ rfl)
                refine (ev_ns c_155 1 (ip' := 65) (ls' := [some (.inr a0), some (.inl i1), some (.inl i2)]) (st' := [.inr a0]) (M' := h_si (h_si M_9 (h_r M_9 a0 26) (i1).toNatClampNeg i2) a0 2 i1) rfl).trans ?_
                refine (ev_g (h_k (h_si (h_si M_9 (h_r M_9 a0 26) (i1).toNatClampNeg i2) a0 2 i1) a0 = 8) (ip' := 66) (ls' := [some (.inr a0), some (.inl i1), some (.inl i2)]) (st' := [.inr (h_r (h_si (h_si M_9 (h_r M_9 a0 26) (i1).toNatClampNeg i2) a0 2 i1) a0 25)]) (M' := h_si (h_si M_9 (h_r M_9 a0 26) (i1).toNatClampNeg i2) a0 2 i1) c_155 rfl).trans (t_i ?_ rfl)
                refine (ev_ns c_155 2 (ip' := 68) (ls' := [some (.inr a0), some (.inl i1), some (.inl i2)]) (st' := [.inl i1, .inr (h_r (h_si (h_si M_9 (h_r M_9 a0 26) (i1).toNatClampNeg i2) a0 2 i1) a0 25), .inl i1, .inr (h_r (h_si (h_si M_9 (h_r M_9 a0 26) (i1).toNatClampNeg i2) a0 2 i1) a0 25)]) (M' := h_si (h_si M_9 (h_r M_9 a0 26) (i1).toNatClampNeg i2) a0 2 i1) rfl).trans ?_
                refine (ev_g ((h_k (h_si (h_si M_9 (h_r M_9 a0 26) (i1).toNatClampNeg i2) a0 2 i1) (h_r (h_si (h_si M_9 (h_r M_9 a0 26) (i1).toNatClampNeg i2) a0 2 i1) a0 25) = 9 ∨ h_k (h_si (h_si M_9 (h_r M_9 a0 26) (i1).toNatClampNeg i2) a0 2 i1) (h_r (h_si (h_si M_9 (h_r M_9 a0 26) (i1).toNatClampNeg i2) a0 2 i1) a0 25) = 14) ∧ h_in i1 (h_l (h_si (h_si M_9 (h_r M_9 a0 26) (i1).toNatClampNeg i2) a0 2 i1) (h_r (h_si (h_si M_9 (h_r M_9 a0 26) (i1).toNatClampNeg i2) a0 2 i1) a0 25))) (ip' := 69) (ls' := [some (.inr a0), some (.inl i1), some (.inl i2)]) (st' := [.inl (h_i (h_si (h_si M_9 (h_r M_9 a0 26) (i1).toNatClampNeg i2) a0 2 i1) (h_r (h_si (h_si M_9 (h_r M_9 a0 26) (i1).toNatClampNeg i2) a0 2 i1) a0 25) (i1).toNatClampNeg), .inl i1, .inr (h_r (h_si (h_si M_9 (h_r M_9 a0 26) (i1).toNatClampNeg i2) a0 2 i1) a0 25)]) (M' := h_si (h_si M_9 (h_r M_9 a0 26) (i1).toNatClampNeg i2) a0 2 i1) c_155 rfl).trans (t_i ?_ rfl)
                refine (ev_ns c_155 2 (ip' := 71) (ls' := [some (.inr a0), some (.inl i1), some (.inl i2)]) (st' := [.inl ((h_i (h_si (h_si M_9 (h_r M_9 a0 26) (i1).toNatClampNeg i2) a0 2 i1) (h_r (h_si (h_si M_9 (h_r M_9 a0 26) (i1).toNatClampNeg i2) a0 2 i1) a0 25) (i1).toNatClampNeg) + 1), .inl i1, .inr (h_r (h_si (h_si M_9 (h_r M_9 a0 26) (i1).toNatClampNeg i2) a0 2 i1) a0 25)]) (M' := h_si (h_si M_9 (h_r M_9 a0 26) (i1).toNatClampNeg i2) a0 2 i1) rfl).trans ?_
                refine (ev_g (h_k (h_si (h_si M_9 (h_r M_9 a0 26) (i1).toNatClampNeg i2) a0 2 i1) (h_r (h_si (h_si M_9 (h_r M_9 a0 26) (i1).toNatClampNeg i2) a0 2 i1) a0 25) = 9 ∧ h_in i1 (h_l (h_si (h_si M_9 (h_r M_9 a0 26) (i1).toNatClampNeg i2) a0 2 i1) (h_r (h_si (h_si M_9 (h_r M_9 a0 26) (i1).toNatClampNeg i2) a0 2 i1) a0 25))) (ip' := 72) (ls' := [some (.inr a0), some (.inl i1), some (.inl i2)]) (st' := []) (M' := h_si (h_si (h_si M_9 (h_r M_9 a0 26) (i1).toNatClampNeg i2) a0 2 i1) (h_r (h_si (h_si M_9 (h_r M_9 a0 26) (i1).toNatClampNeg i2) a0 2 i1) a0 25) (i1).toNatClampNeg ((h_i (h_si (h_si M_9 (h_r M_9 a0 26) (i1).toNatClampNeg i2) a0 2 i1) (h_r (h_si (h_si M_9 (h_r M_9 a0 26) (i1).toNatClampNeg i2) a0 2 i1) a0 25) (i1).toNatClampNeg) + 1)) c_155 rfl).trans (t_i ?_ rfl)
                refine (ev_ns c_155 2 (ip' := 74) (ls' := [some (.inr a0), some (.inl i1), some (.inl i2)]) (st' := [.inl 0, .inr a0]) (M' := h_si (h_si (h_si M_9 (h_r M_9 a0 26) (i1).toNatClampNeg i2) a0 2 i1) (h_r (h_si (h_si M_9 (h_r M_9 a0 26) (i1).toNatClampNeg i2) a0 2 i1) a0 25) (i1).toNatClampNeg ((h_i (h_si (h_si M_9 (h_r M_9 a0 26) (i1).toNatClampNeg i2) a0 2 i1) (h_r (h_si (h_si M_9 (h_r M_9 a0 26) (i1).toNatClampNeg i2) a0 2 i1) a0 25) (i1).toNatClampNeg) + 1)) rfl).trans ?_
                refine (ev_gI (a_rec (h_si (h_si (h_si M_9 (h_r M_9 a0 26) (i1).toNatClampNeg i2) a0 2 i1) (h_r (h_si (h_si M_9 (h_r M_9 a0 26) (i1).toNatClampNeg i2) a0 2 i1) a0 25) (i1).toNatClampNeg ((h_i (h_si (h_si M_9 (h_r M_9 a0 26) (i1).toNatClampNeg i2) a0 2 i1) (h_r (h_si (h_si M_9 (h_r M_9 a0 26) (i1).toNatClampNeg i2) a0 2 i1) a0 25) (i1).toNatClampNeg) + 1)) 8 [.inr a0, .inl 0] = true ∧ ([] : List mV).length ≤ 8) (as := [.inr a0, .inl 0]) (rr := []) c_155 c_106 rfl).trans (t_i (t_cI ?_) rfl)
                intro v_11 M_10
                exact ev_gd (v_11 = 0 ∨ v_11 = 1) c_155 rfl
              · skip
                exact rfl
          · skip
            refine (ev_ns c_155 2 (ip' := 37) (ls' := [some (.inr a0), some (.inl i1), some (.inl i2)]) (st' := [.inl 3, .inr a0]) (M' := M_7) rfl).trans ?_
            refine (ev_gI (a_rec M_7 8 [.inr a0, .inl 3] = true ∧ ([] : List mV).length ≤ 8) (as := [.inr a0, .inl 3]) (rr := []) c_155 c_106 rfl).trans (t_i (t_cI ?_) rfl)
            intro v_13 M_12
            exact ev_gd (v_13 = 0 ∨ v_13 = 1) c_155 rfl
set_option maxRecDepth 20000 in
theorem e_155_8 (a0 : Nat) (i1 : Int32) (i2 : Int32) (M : mM) : ev 155 8 [some (.inr a0), some (.inl i1), some (.inl i2)] [] M = if (a_rec M 8 [.inr a0, .inl 1] = true ∧ ([] : List mV).length ≤ 8) then (c_I (ev 106 0 [some (.inr a0), some (.inl 1)] [] M) fun v_2 M_1 => if v_2 = 0 ∨ v_2 = 1 then some (some (.inl v_2), M_1) else none) else none := by
  refine (ev_ns c_155 2 (ip' := 10) (ls' := [some (.inr a0), some (.inl i1), some (.inl i2)]) (st' := [.inl 1, .inr a0]) (M' := M) rfl).trans ?_
  refine (ev_gI (a_rec M 8 [.inr a0, .inl 1] = true ∧ ([] : List mV).length ≤ 8) (as := [.inr a0, .inl 1]) (rr := []) c_155 c_106 rfl).trans (t_i (t_cI ?_) rfl)
  intro v_2 M_1
  exact ev_gd (v_2 = 0 ∨ v_2 = 1) c_155 rfl
set_option maxRecDepth 20000 in
theorem e_155_22 (a0 : Nat) (i1 : Int32) (i2 : Int32) (M : mM) : ev 155 22 [some (.inr a0), some (.inl i1), some (.inl i2)] [] M = if (a_rec M 8 [.inr a0, .inl 2] = true ∧ ([] : List mV).length ≤ 8) then (c_I (ev 106 0 [some (.inr a0), some (.inl 2)] [] M) fun v_2 M_1 => if v_2 = 0 ∨ v_2 = 1 then some (some (.inl v_2), M_1) else none) else none := by
  refine (ev_ns c_155 2 (ip' := 24) (ls' := [some (.inr a0), some (.inl i1), some (.inl i2)]) (st' := [.inl 2, .inr a0]) (M' := M) rfl).trans ?_
  refine (ev_gI (a_rec M 8 [.inr a0, .inl 2] = true ∧ ([] : List mV).length ≤ 8) (as := [.inr a0, .inl 2]) (rr := []) c_155 c_106 rfl).trans (t_i (t_cI ?_) rfl)
  intro v_2 M_1
  exact ev_gd (v_2 = 0 ∨ v_2 = 1) c_155 rfl
set_option maxRecDepth 20000 in
theorem e_155_48 (a0 : Nat) (i1 : Int32) (i2 : Int32) (M : mM) : ev 155 48 [some (.inr a0), some (.inl i1), some (.inl i2)] [] M = if (a_rec M 8 [.inr a0, .inl 4] = true ∧ ([] : List mV).length ≤ 8) then (c_I (ev 106 0 [some (.inr a0), some (.inl 4)] [] M) fun v_2 M_1 => if v_2 = 0 ∨ v_2 = 1 then some (some (.inl v_2), M_1) else none) else none := by
  refine (ev_ns c_155 2 (ip' := 50) (ls' := [some (.inr a0), some (.inl i1), some (.inl i2)]) (st' := [.inl 4, .inr a0]) (M' := M) rfl).trans ?_
  refine (ev_gI (a_rec M 8 [.inr a0, .inl 4] = true ∧ ([] : List mV).length ≤ 8) (as := [.inr a0, .inl 4]) (rr := []) c_155 c_106 rfl).trans (t_i (t_cI ?_) rfl)
  intro v_2 M_1
  exact ev_gd (v_2 = 0 ∨ v_2 = 1) c_155 rfl
/- 156: GranuleHallModel.change(I)I -/
set_option maxRecDepth 20000 in
theorem e_156_0 (a0 : Nat) (i1 : Int32) (M : mM) : ev 156 0 [some (.inr a0), some (.inl i1), none, none] [] M = if (a_rec M 8 [.inr a0, .inl i1] = true ∧ ([] : List mV).length ≤ 8) then (c_I (ev 107 0 [some (.inr a0), some (.inl i1)] [] M) fun v_2 M_1 => if v_2 = 0 then (if (a_rec M_1 8 [.inr a0, .inl 1] = true ∧ ([] : List mV).length ≤ 8) then (c_I (ev 105 0 [some (.inr a0), some (.inl 1)] [] M_1) fun v_4 M_3 => some (some (.inl v_4), M_3)) else none) else (if (a_rec M_1 8 [.inr a0, .inl i1, .inl 3] = true ∧ ([] : List mV).length ≤ 8) then (c_I (ev 108 0 [some (.inr a0), some (.inl i1), some (.inl 3)] [] M_1) fun v_6 M_5 => if v_6 = 0 then (if (a_rec M_5 8 [.inr a0, .inl 2] = true ∧ ([] : List mV).length ≤ 8) then (c_I (ev 105 0 [some (.inr a0), some (.inl 2)] [] M_5) fun v_8 M_7 => some (some (.inl v_8), M_7)) else none) else (if h_k M_5 a0 = 8 then (if (h_k M_5 (h_r M_5 a0 20) = 9 ∨ h_k M_5 (h_r M_5 a0 20) = 14) ∧ h_in i1 (h_l M_5 (h_r M_5 a0 20)) then (if (h_i M_5 (h_r M_5 a0 20) (i1).toNatClampNeg) = 2 then (if h_k M_5 a0 = 8 then (if (h_k M_5 (h_r M_5 a0 24) = 9 ∨ h_k M_5 (h_r M_5 a0 24) = 14) ∧ h_in i1 (h_l M_5 (h_r M_5 a0 24)) then (if h_k M_5 a0 = 8 then (if (h_k M_5 (h_r M_5 a0 22) = 9 ∨ h_k M_5 (h_r M_5 a0 22) = 14) ∧ h_in i1 (h_l M_5 (h_r M_5 a0 22)) then (if (h_i M_5 (h_r M_5 a0 24) (i1).toNatClampNeg) = (h_i M_5 (h_r M_5 a0 22) (i1).toNatClampNeg) then (ev 156 32 [some (.inr a0), some (.inl i1), none, none] [] M_5) else (if h_k M_5 a0 = 8 then (if (h_k M_5 (h_r M_5 a0 7) = 9 ∨ h_k M_5 (h_r M_5 a0 7) = 14) ∧ h_in i1 (h_l M_5 (h_r M_5 a0 7)) then (if h_k M_5 a0 = 8 then (if (h_k M_5 (h_r M_5 a0 24) = 9 ∨ h_k M_5 (h_r M_5 a0 24) = 14) ∧ h_in i1 (h_l M_5 (h_r M_5 a0 24)) then (if (a_rec M_5 8 [.inr a0, .inl (h_i M_5 (h_r M_5 a0 7) (i1).toNatClampNeg), .inl (h_i M_5 (h_r M_5 a0 24) (i1).toNatClampNeg)] = true ∧ ([] : List mV).length ≤ 8) then (c_I (ev 119 0 [some (.inr a0), some (.inl (h_i M_5 (h_r M_5 a0 7) (i1).toNatClampNeg)), some (.inl (h_i M_5 (h_r M_5 a0 24) (i1).toNatClampNeg))] [] M_5) fun v_10 M_9 => if (a_rec M_9 8 [.inr a0, .inl v_10] = true ∧ ([] : List mV).length ≤ 8) then (c_I (ev 121 0 [some (.inr a0), some (.inl v_10)] [] M_9) fun v_12 M_11 => if (a_rec M_11 8 [.inr a0, .inl v_10] = true ∧ ([.inl v_12] : List mV).length ≤ 8) then (c_I (ev 120 0 [some (.inr a0), some (.inl v_10)] [] M_11) fun v_14 M_13 => if (a_rec M_13 0 [.inl v_14] = true ∧ ([.inl v_12] : List mV).length ≤ 8) then (c_I (ev 116 0 [some (.inl v_14)] [] M_13) fun v_16 M_15 => if (a_rec M_15 8 [.inr a0, .inl v_10] = true ∧ ([] : List mV).length ≤ 8) then (c_I (ev 121 0 [some (.inr a0), some (.inl v_10)] [] M_15) fun v_18 M_17 => if h_k M_17 a0 = 8 then (if (h_k M_17 (h_r M_17 a0 24) = 9 ∨ h_k M_17 (h_r M_17 a0 24) = 14) ∧ h_in i1 (h_l M_17 (h_r M_17 a0 24)) then (if v_18 < (h_i M_17 (h_r M_17 a0 24) (i1).toNatClampNeg) then (ev 156 70 [some (.inr a0), some (.inl i1), some (.inl v_10), some (.inl (v_12 + v_16))] [] M_17) else (if h_k M_17 a0 = 8 then (if (h_k M_17 (h_r M_17 a0 22) = 9 ∨ h_k M_17 (h_r M_17 a0 22) = 14) ∧ h_in i1 (h_l M_17 (h_r M_17 a0 22)) then (if (v_12 + v_16) ≤ (h_i M_17 (h_r M_17 a0 22) (i1).toNatClampNeg) then (if h_k M_17 a0 = 8 then (if h_k M_17 a0 = 8 then (if (h_k M_17 (h_r M_17 a0 23) = 9 ∨ h_k M_17 (h_r M_17 a0 23) = 14) ∧ h_in i1 (h_l M_17 (h_r M_17 a0 23)) then (if h_k M_17 (h_r M_17 a0 16) = 9 ∧ h_in v_10 (h_l M_17 (h_r M_17 a0 16)) then (if h_k (h_si M_17 (h_r M_17 a0 16) (v_10).toNatClampNeg (h_i M_17 (h_r M_17 a0 23) (i1).toNatClampNeg)) a0 = 8 then (if h_k (h_si M_17 (h_r M_17 a0 16) (v_10).toNatClampNeg (h_i M_17 (h_r M_17 a0 23) (i1).toNatClampNeg)) (h_r (h_si M_17 (h_r M_17 a0 16) (v_10).toNatClampNeg (h_i M_17 (h_r M_17 a0 23) (i1).toNatClampNeg)) a0 24) = 9 ∧ h_in i1 (h_l (h_si M_17 (h_r M_17 a0 16) (v_10).toNatClampNeg (h_i M_17 (h_r M_17 a0 23) (i1).toNatClampNeg)) (h_r (h_si M_17 (h_r M_17 a0 16) (v_10).toNatClampNeg (h_i M_17 (h_r M_17 a0 23) (i1).toNatClampNeg)) a0 24)) then (if h_k (h_si (h_si M_17 (h_r M_17 a0 16) (v_10).toNatClampNeg (h_i M_17 (h_r M_17 a0 23) (i1).toNatClampNeg)) (h_r (h_si M_17 (h_r M_17 a0 16) (v_10).toNatClampNeg (h_i M_17 (h_r M_17 a0 23) (i1).toNatClampNeg)) a0 24) (i1).toNatClampNeg (v_12 + v_16)) a0 = 8 then (some (some (.inl (v_12 + v_16)), h_si (h_si (h_si M_17 (h_r M_17 a0 16) (v_10).toNatClampNeg (h_i M_17 (h_r M_17 a0 23) (i1).toNatClampNeg)) (h_r (h_si M_17 (h_r M_17 a0 16) (v_10).toNatClampNeg (h_i M_17 (h_r M_17 a0 23) (i1).toNatClampNeg)) a0 24) (i1).toNatClampNeg (v_12 + v_16)) a0 1 0)) else none) else none) else none) else none) else none) else none) else none) else (ev 156 70 [some (.inr a0), some (.inl i1), some (.inl v_10), some (.inl (v_12 + v_16))] [] M_17)) else none) else none)) else none) else none) else none) else none) else none) else none) else none) else none) else none) else none) else none)) else none) else none) else none) else none) else (ev 156 32 [some (.inr a0), some (.inl i1), none, none] [] M_5)) else none) else none)) else none)) else none := by
  refine (ev_ns c_156 2 (ip' := 2) (ls' := [some (.inr a0), some (.inl i1), none, none]) (st' := [.inl i1, .inr a0]) (M' := M) rfl).trans ?_
  refine (ev_gI (a_rec M 8 [.inr a0, .inl i1] = true ∧ ([] : List mV).length ≤ 8) (as := [.inr a0, .inl i1]) (rr := []) c_156 c_107 rfl).trans (t_i (t_cI ?_) rfl)
  intro v_2 M_1
  refine (ev_i (v_2 = 0) (i1 := 4) (l1 := [some (.inr a0), some (.inl i1), none, none]) (s1 := []) (M1 := M_1) (i2 := 8) (l2 := [some (.inr a0), some (.inl i1), none, none]) (s2 := []) (M2 := M_1) c_156 rfl).trans (t_i ?_ ?_)
  · skip
    refine (ev_ns c_156 2 (ip' := 6) (ls' := [some (.inr a0), some (.inl i1), none, none]) (st' := [.inl 1, .inr a0]) (M' := M_1) rfl).trans ?_
    refine (ev_gI (a_rec M_1 8 [.inr a0, .inl 1] = true ∧ ([] : List mV).length ≤ 8) (as := [.inr a0, .inl 1]) (rr := []) c_156 c_105 rfl).trans (t_i (t_cI ?_) rfl)
    intro v_4 M_3
    exact ev_d c_156 rfl
  · skip
    refine (ev_ns c_156 3 (ip' := 11) (ls' := [some (.inr a0), some (.inl i1), none, none]) (st' := [.inl 3, .inl i1, .inr a0]) (M' := M_1) rfl).trans ?_
    refine (ev_gI (a_rec M_1 8 [.inr a0, .inl i1, .inl 3] = true ∧ ([] : List mV).length ≤ 8) (as := [.inr a0, .inl i1, .inl 3]) (rr := []) c_156 c_108 rfl).trans (t_i (t_cI ?_) rfl)
    intro v_6 M_5
    refine (ev_i (v_6 = 0) (i1 := 13) (l1 := [some (.inr a0), some (.inl i1), none, none]) (s1 := []) (M1 := M_5) (i2 := 17) (l2 := [some (.inr a0), some (.inl i1), none, none]) (s2 := []) (M2 := M_5) c_156 rfl).trans (t_i ?_ ?_)
    · skip
      refine (ev_ns c_156 2 (ip' := 15) (ls' := [some (.inr a0), some (.inl i1), none, none]) (st' := [.inl 2, .inr a0]) (M' := M_5) rfl).trans ?_
      refine (ev_gI (a_rec M_5 8 [.inr a0, .inl 2] = true ∧ ([] : List mV).length ≤ 8) (as := [.inr a0, .inl 2]) (rr := []) c_156 c_105 rfl).trans (t_i (t_cI ?_) rfl)
      intro v_8 M_7
      exact ev_d c_156 rfl
    · skip
      refine (ev_ns c_156 1 (ip' := 18) (ls' := [some (.inr a0), some (.inl i1), none, none]) (st' := [.inr a0]) (M' := M_5) rfl).trans ?_
      refine (ev_g (h_k M_5 a0 = 8) (ip' := 19) (ls' := [some (.inr a0), some (.inl i1), none, none]) (st' := [.inr (h_r M_5 a0 20)]) (M' := M_5) c_156 rfl).trans (t_i ?_ rfl)
      refine (ev_ns c_156 1 (ip' := 20) (ls' := [some (.inr a0), some (.inl i1), none, none]) (st' := [.inl i1, .inr (h_r M_5 a0 20)]) (M' := M_5) rfl).trans ?_
      refine (ev_g ((h_k M_5 (h_r M_5 a0 20) = 9 ∨ h_k M_5 (h_r M_5 a0 20) = 14) ∧ h_in i1 (h_l M_5 (h_r M_5 a0 20))) (ip' := 21) (ls' := [some (.inr a0), some (.inl i1), none, none]) (st' := [.inl (h_i M_5 (h_r M_5 a0 20) (i1).toNatClampNeg)]) (M' := M_5) c_156 rfl).trans (t_i ?_ rfl)
      refine (ev_ns c_156 1 (ip' := 22) (ls' := [some (.inr a0), some (.inl i1), none, none]) (st' := [.inl 2, .inl (h_i M_5 (h_r M_5 a0 20) (i1).toNatClampNeg)]) (M' := M_5) rfl).trans ?_
      refine (ev_i ((h_i M_5 (h_r M_5 a0 20) (i1).toNatClampNeg) = 2) (i1 := 23) (l1 := [some (.inr a0), some (.inl i1), none, none]) (s1 := []) (M1 := M_5) (i2 := 32) (l2 := [some (.inr a0), some (.inl i1), none, none]) (s2 := []) (M2 := M_5) c_156 rfl).trans (t_i ?_ ?_)
      · skip
        refine (ev_ns c_156 1 (ip' := 24) (ls' := [some (.inr a0), some (.inl i1), none, none]) (st' := [.inr a0]) (M' := M_5) rfl).trans ?_
        refine (ev_g (h_k M_5 a0 = 8) (ip' := 25) (ls' := [some (.inr a0), some (.inl i1), none, none]) (st' := [.inr (h_r M_5 a0 24)]) (M' := M_5) c_156 rfl).trans (t_i ?_ rfl)
        refine (ev_ns c_156 1 (ip' := 26) (ls' := [some (.inr a0), some (.inl i1), none, none]) (st' := [.inl i1, .inr (h_r M_5 a0 24)]) (M' := M_5) rfl).trans ?_
        refine (ev_g ((h_k M_5 (h_r M_5 a0 24) = 9 ∨ h_k M_5 (h_r M_5 a0 24) = 14) ∧ h_in i1 (h_l M_5 (h_r M_5 a0 24))) (ip' := 27) (ls' := [some (.inr a0), some (.inl i1), none, none]) (st' := [.inl (h_i M_5 (h_r M_5 a0 24) (i1).toNatClampNeg)]) (M' := M_5) c_156 rfl).trans (t_i ?_ rfl)
        refine (ev_ns c_156 1 (ip' := 28) (ls' := [some (.inr a0), some (.inl i1), none, none]) (st' := [.inr a0, .inl (h_i M_5 (h_r M_5 a0 24) (i1).toNatClampNeg)]) (M' := M_5) rfl).trans ?_
        refine (ev_g (h_k M_5 a0 = 8) (ip' := 29) (ls' := [some (.inr a0), some (.inl i1), none, none]) (st' := [.inr (h_r M_5 a0 22), .inl (h_i M_5 (h_r M_5 a0 24) (i1).toNatClampNeg)]) (M' := M_5) c_156 rfl).trans (t_i ?_ rfl)
        refine (ev_ns c_156 1 (ip' := 30) (ls' := [some (.inr a0), some (.inl i1), none, none]) (st' := [.inl i1, .inr (h_r M_5 a0 22), .inl (h_i M_5 (h_r M_5 a0 24) (i1).toNatClampNeg)]) (M' := M_5) rfl).trans ?_
        refine (ev_g ((h_k M_5 (h_r M_5 a0 22) = 9 ∨ h_k M_5 (h_r M_5 a0 22) = 14) ∧ h_in i1 (h_l M_5 (h_r M_5 a0 22))) (ip' := 31) (ls' := [some (.inr a0), some (.inl i1), none, none]) (st' := [.inl (h_i M_5 (h_r M_5 a0 22) (i1).toNatClampNeg), .inl (h_i M_5 (h_r M_5 a0 24) (i1).toNatClampNeg)]) (M' := M_5) c_156 rfl).trans (t_i ?_ rfl)
        refine (ev_i ((h_i M_5 (h_r M_5 a0 24) (i1).toNatClampNeg) = (h_i M_5 (h_r M_5 a0 22) (i1).toNatClampNeg)) (i1 := 32) (l1 := [some (.inr a0), some (.inl i1), none, none]) (s1 := []) (M1 := M_5) (i2 := 36) (l2 := [some (.inr a0), some (.inl i1), none, none]) (s2 := []) (M2 := M_5) c_156 rfl).trans (t_i ?_ ?_)
        · skip
          exact rfl
        · skip
          refine (ev_ns c_156 2 (ip' := 38) (ls' := [some (.inr a0), some (.inl i1), none, none]) (st' := [.inr a0, .inr a0]) (M' := M_5) rfl).trans ?_
          refine (ev_g (h_k M_5 a0 = 8) (ip' := 39) (ls' := [some (.inr a0), some (.inl i1), none, none]) (st' := [.inr (h_r M_5 a0 7), .inr a0]) (M' := M_5) c_156 rfl).trans (t_i ?_ rfl)
          refine (ev_ns c_156 1 (ip' := 40) (ls' := [some (.inr a0), some (.inl i1), none, none]) (st' := [.inl i1, .inr (h_r M_5 a0 7), .inr a0]) (M' := M_5) rfl).trans ?_
          refine (ev_g ((h_k M_5 (h_r M_5 a0 7) = 9 ∨ h_k M_5 (h_r M_5 a0 7) = 14) ∧ h_in i1 (h_l M_5 (h_r M_5 a0 7))) (ip' := 41) (ls' := [some (.inr a0), some (.inl i1), none, none]) (st' := [.inl (h_i M_5 (h_r M_5 a0 7) (i1).toNatClampNeg), .inr a0]) (M' := M_5) c_156 rfl).trans (t_i ?_ rfl)
          refine (ev_ns c_156 1 (ip' := 42) (ls' := [some (.inr a0), some (.inl i1), none, none]) (st' := [.inr a0, .inl (h_i M_5 (h_r M_5 a0 7) (i1).toNatClampNeg), .inr a0]) (M' := M_5) rfl).trans ?_
          refine (ev_g (h_k M_5 a0 = 8) (ip' := 43) (ls' := [some (.inr a0), some (.inl i1), none, none]) (st' := [.inr (h_r M_5 a0 24), .inl (h_i M_5 (h_r M_5 a0 7) (i1).toNatClampNeg), .inr a0]) (M' := M_5) c_156 rfl).trans (t_i ?_ rfl)
          refine (ev_ns c_156 1 (ip' := 44) (ls' := [some (.inr a0), some (.inl i1), none, none]) (st' := [.inl i1, .inr (h_r M_5 a0 24), .inl (h_i M_5 (h_r M_5 a0 7) (i1).toNatClampNeg), .inr a0]) (M' := M_5) rfl).trans ?_
          refine (ev_g ((h_k M_5 (h_r M_5 a0 24) = 9 ∨ h_k M_5 (h_r M_5 a0 24) = 14) ∧ h_in i1 (h_l M_5 (h_r M_5 a0 24))) (ip' := 45) (ls' := [some (.inr a0), some (.inl i1), none, none]) (st' := [.inl (h_i M_5 (h_r M_5 a0 24) (i1).toNatClampNeg), .inl (h_i M_5 (h_r M_5 a0 7) (i1).toNatClampNeg), .inr a0]) (M' := M_5) c_156 rfl).trans (t_i ?_ rfl)
          refine (ev_gI (a_rec M_5 8 [.inr a0, .inl (h_i M_5 (h_r M_5 a0 7) (i1).toNatClampNeg), .inl (h_i M_5 (h_r M_5 a0 24) (i1).toNatClampNeg)] = true ∧ ([] : List mV).length ≤ 8) (as := [.inr a0, .inl (h_i M_5 (h_r M_5 a0 7) (i1).toNatClampNeg), .inl (h_i M_5 (h_r M_5 a0 24) (i1).toNatClampNeg)]) (rr := []) c_156 c_119 rfl).trans (t_i (t_cI ?_) rfl)
          intro v_10 M_9
          refine (ev_ns c_156 3 (ip' := 49) (ls' := [some (.inr a0), some (.inl i1), some (.inl v_10), none]) (st' := [.inl v_10, .inr a0]) (M' := M_9) rfl).trans ?_
          refine (ev_gI (a_rec M_9 8 [.inr a0, .inl v_10] = true ∧ ([] : List mV).length ≤ 8) (as := [.inr a0, .inl v_10]) (rr := []) c_156 c_121 rfl).trans (t_i (t_cI ?_) rfl)
          intro v_12 M_11
          refine (ev_ns c_156 2 (ip' := 52) (ls' := [some (.inr a0), some (.inl i1), some (.inl v_10), none]) (st' := [.inl v_10, .inr a0, .inl v_12]) (M' := M_11) rfl).trans ?_
          refine (ev_gI (a_rec M_11 8 [.inr a0, .inl v_10] = true ∧ ([.inl v_12] : List mV).length ≤ 8) (as := [.inr a0, .inl v_10]) (rr := [.inl v_12]) c_156 c_120 rfl).trans (t_i (t_cI ?_) rfl)
          intro v_14 M_13
          refine (ev_gI (a_rec M_13 0 [.inl v_14] = true ∧ ([.inl v_12] : List mV).length ≤ 8) (as := [.inl v_14]) (rr := [.inl v_12]) c_156 c_116 rfl).trans (t_i (t_cI ?_) rfl)
          intro v_16 M_15
          refine (ev_ns c_156 4 (ip' := 58) (ls' := [some (.inr a0), some (.inl i1), some (.inl v_10), some (.inl (v_12 + v_16))]) (st' := [.inl v_10, .inr a0]) (M' := M_15) rfl).trans ?_
          refine (ev_gI (a_rec M_15 8 [.inr a0, .inl v_10] = true ∧ ([] : List mV).length ≤ 8) (as := [.inr a0, .inl v_10]) (rr := []) c_156 c_121 rfl).trans (t_i (t_cI ?_) rfl)
          intro v_18 M_17
          refine (ev_ns c_156 1 (ip' := 60) (ls' := [some (.inr a0), some (.inl i1), some (.inl v_10), some (.inl (v_12 + v_16))]) (st' := [.inr a0, .inl v_18]) (M' := M_17) rfl).trans ?_
          refine (ev_g (h_k M_17 a0 = 8) (ip' := 61) (ls' := [some (.inr a0), some (.inl i1), some (.inl v_10), some (.inl (v_12 + v_16))]) (st' := [.inr (h_r M_17 a0 24), .inl v_18]) (M' := M_17) c_156 rfl).trans (t_i ?_ rfl)
          refine (ev_ns c_156 1 (ip' := 62) (ls' := [some (.inr a0), some (.inl i1), some (.inl v_10), some (.inl (v_12 + v_16))]) (st' := [.inl i1, .inr (h_r M_17 a0 24), .inl v_18]) (M' := M_17) rfl).trans ?_
          refine (ev_g ((h_k M_17 (h_r M_17 a0 24) = 9 ∨ h_k M_17 (h_r M_17 a0 24) = 14) ∧ h_in i1 (h_l M_17 (h_r M_17 a0 24))) (ip' := 63) (ls' := [some (.inr a0), some (.inl i1), some (.inl v_10), some (.inl (v_12 + v_16))]) (st' := [.inl (h_i M_17 (h_r M_17 a0 24) (i1).toNatClampNeg), .inl v_18]) (M' := M_17) c_156 rfl).trans (t_i ?_ rfl)
          refine (ev_i (v_18 < (h_i M_17 (h_r M_17 a0 24) (i1).toNatClampNeg)) (i1 := 70) (l1 := [some (.inr a0), some (.inl i1), some (.inl v_10), some (.inl (v_12 + v_16))]) (s1 := []) (M1 := M_17) (i2 := 64) (l2 := [some (.inr a0), some (.inl i1), some (.inl v_10), some (.inl (v_12 + v_16))]) (s2 := []) (M2 := M_17) c_156 rfl).trans (t_i ?_ ?_)
          · skip
            exact rfl
          · skip
            refine (ev_ns c_156 2 (ip' := 66) (ls' := [some (.inr a0), some (.inl i1), some (.inl v_10), some (.inl (v_12 + v_16))]) (st' := [.inr a0, .inl (v_12 + v_16)]) (M' := M_17) rfl).trans ?_
            refine (ev_g (h_k M_17 a0 = 8) (ip' := 67) (ls' := [some (.inr a0), some (.inl i1), some (.inl v_10), some (.inl (v_12 + v_16))]) (st' := [.inr (h_r M_17 a0 22), .inl (v_12 + v_16)]) (M' := M_17) c_156 rfl).trans (t_i ?_ rfl)
            refine (ev_ns c_156 1 (ip' := 68) (ls' := [some (.inr a0), some (.inl i1), some (.inl v_10), some (.inl (v_12 + v_16))]) (st' := [.inl i1, .inr (h_r M_17 a0 22), .inl (v_12 + v_16)]) (M' := M_17) rfl).trans ?_
            refine (ev_g ((h_k M_17 (h_r M_17 a0 22) = 9 ∨ h_k M_17 (h_r M_17 a0 22) = 14) ∧ h_in i1 (h_l M_17 (h_r M_17 a0 22))) (ip' := 69) (ls' := [some (.inr a0), some (.inl i1), some (.inl v_10), some (.inl (v_12 + v_16))]) (st' := [.inl (h_i M_17 (h_r M_17 a0 22) (i1).toNatClampNeg), .inl (v_12 + v_16)]) (M' := M_17) c_156 rfl).trans (t_i ?_ rfl)
            refine (ev_i ((v_12 + v_16) ≤ (h_i M_17 (h_r M_17 a0 22) (i1).toNatClampNeg)) (i1 := 74) (l1 := [some (.inr a0), some (.inl i1), some (.inl v_10), some (.inl (v_12 + v_16))]) (s1 := []) (M1 := M_17) (i2 := 70) (l2 := [some (.inr a0), some (.inl i1), some (.inl v_10), some (.inl (v_12 + v_16))]) (s2 := []) (M2 := M_17) c_156 rfl).trans (t_i ?_ ?_)
            · skip
              refine (ev_ns c_156 1 (ip' := 75) (ls' := [some (.inr a0), some (.inl i1), some (.inl v_10), some (.inl (v_12 + v_16))]) (st' := [.inr a0]) (M' := M_17) rfl).trans ?_
              refine (ev_g (h_k M_17 a0 = 8) (ip' := 76) (ls' := [some (.inr a0), some (.inl i1), some (.inl v_10), some (.inl (v_12 + v_16))]) (st' := [.inr (h_r M_17 a0 16)]) (M' := M_17) c_156 rfl).trans (t_i ?_ rfl)
              refine (ev_ns c_156 2 (ip' := 78) (ls' := [some (.inr a0), some (.inl i1), some (.inl v_10), some (.inl (v_12 + v_16))]) (st' := [.inr a0, .inl v_10, .inr (h_r M_17 a0 16)]) (M' := M_17) rfl).trans ?_
              refine (ev_g (h_k M_17 a0 = 8) (ip' := 79) (ls' := [some (.inr a0), some (.inl i1), some (.inl v_10), some (.inl (v_12 + v_16))]) (st' := [.inr (h_r M_17 a0 23), .inl v_10, .inr (h_r M_17 a0 16)]) (M' := M_17) c_156 rfl).trans (t_i ?_ rfl)
              refine (ev_ns c_156 1 (ip' := 80) (ls' := [some (.inr a0), some (.inl i1), some (.inl v_10), some (.inl (v_12 + v_16))]) (st' := [.inl i1, .inr (h_r M_17 a0 23), .inl v_10, .inr (h_r M_17 a0 16)]) (M' := M_17) rfl).trans ?_
              refine (ev_g ((h_k M_17 (h_r M_17 a0 23) = 9 ∨ h_k M_17 (h_r M_17 a0 23) = 14) ∧ h_in i1 (h_l M_17 (h_r M_17 a0 23))) (ip' := 81) (ls' := [some (.inr a0), some (.inl i1), some (.inl v_10), some (.inl (v_12 + v_16))]) (st' := [.inl (h_i M_17 (h_r M_17 a0 23) (i1).toNatClampNeg), .inl v_10, .inr (h_r M_17 a0 16)]) (M' := M_17) c_156 rfl).trans (t_i ?_ rfl)
              refine (ev_g (h_k M_17 (h_r M_17 a0 16) = 9 ∧ h_in v_10 (h_l M_17 (h_r M_17 a0 16))) (ip' := 82) (ls' := [some (.inr a0), some (.inl i1), some (.inl v_10), some (.inl (v_12 + v_16))]) (st' := []) (M' := h_si M_17 (h_r M_17 a0 16) (v_10).toNatClampNeg (h_i M_17 (h_r M_17 a0 23) (i1).toNatClampNeg)) c_156 rfl).trans (t_i ?_ rfl)
              refine (ev_ns c_156 1 (ip' := 83) (ls' := [some (.inr a0), some (.inl i1), some (.inl v_10), some (.inl (v_12 + v_16))]) (st' := [.inr a0]) (M' := h_si M_17 (h_r M_17 a0 16) (v_10).toNatClampNeg (h_i M_17 (h_r M_17 a0 23) (i1).toNatClampNeg)) rfl).trans ?_
              refine (ev_g (h_k (h_si M_17 (h_r M_17 a0 16) (v_10).toNatClampNeg (h_i M_17 (h_r M_17 a0 23) (i1).toNatClampNeg)) a0 = 8) (ip' := 84) (ls' := [some (.inr a0), some (.inl i1), some (.inl v_10), some (.inl (v_12 + v_16))]) (st' := [.inr (h_r (h_si M_17 (h_r M_17 a0 16) (v_10).toNatClampNeg (h_i M_17 (h_r M_17 a0 23) (i1).toNatClampNeg)) a0 24)]) (M' := h_si M_17 (h_r M_17 a0 16) (v_10).toNatClampNeg (h_i M_17 (h_r M_17 a0 23) (i1).toNatClampNeg)) c_156 rfl).trans (t_i ?_ rfl)
              refine (ev_ns c_156 2 (ip' := 86) (ls' := [some (.inr a0), some (.inl i1), some (.inl v_10), some (.inl (v_12 + v_16))]) (st' := [.inl (v_12 + v_16), .inl i1, .inr (h_r (h_si M_17 (h_r M_17 a0 16) (v_10).toNatClampNeg (h_i M_17 (h_r M_17 a0 23) (i1).toNatClampNeg)) a0 24)]) (M' := h_si M_17 (h_r M_17 a0 16) (v_10).toNatClampNeg (h_i M_17 (h_r M_17 a0 23) (i1).toNatClampNeg)) rfl).trans ?_
              refine (ev_g (h_k (h_si M_17 (h_r M_17 a0 16) (v_10).toNatClampNeg (h_i M_17 (h_r M_17 a0 23) (i1).toNatClampNeg)) (h_r (h_si M_17 (h_r M_17 a0 16) (v_10).toNatClampNeg (h_i M_17 (h_r M_17 a0 23) (i1).toNatClampNeg)) a0 24) = 9 ∧ h_in i1 (h_l (h_si M_17 (h_r M_17 a0 16) (v_10).toNatClampNeg (h_i M_17 (h_r M_17 a0 23) (i1).toNatClampNeg)) (h_r (h_si M_17 (h_r M_17 a0 16) (v_10).toNatClampNeg (h_i M_17 (h_r M_17 a0 23) (i1).toNatClampNeg)) a0 24))) (ip' := 87) (ls' := [some (.inr a0), some (.inl i1), some (.inl v_10), some (.inl (v_12 + v_16))]) (st' := []) (M' := h_si (h_si M_17 (h_r M_17 a0 16) (v_10).toNatClampNeg (h_i M_17 (h_r M_17 a0 23) (i1).toNatClampNeg)) (h_r (h_si M_17 (h_r M_17 a0 16) (v_10).toNatClampNeg (h_i M_17 (h_r M_17 a0 23) (i1).toNatClampNeg)) a0 24) (i1).toNatClampNeg (v_12 + v_16)) c_156 rfl).trans (t_i ?_ rfl)
              refine (ev_ns c_156 2 (ip' := 89) (ls' := [some (.inr a0), some (.inl i1), some (.inl v_10), some (.inl (v_12 + v_16))]) (st' := [.inl 0, .inr a0]) (M' := h_si (h_si M_17 (h_r M_17 a0 16) (v_10).toNatClampNeg (h_i M_17 (h_r M_17 a0 23) (i1).toNatClampNeg)) (h_r (h_si M_17 (h_r M_17 a0 16) (v_10).toNatClampNeg (h_i M_17 (h_r M_17 a0 23) (i1).toNatClampNeg)) a0 24) (i1).toNatClampNeg (v_12 + v_16)) rfl).trans ?_
              refine (ev_g (h_k (h_si (h_si M_17 (h_r M_17 a0 16) (v_10).toNatClampNeg (h_i M_17 (h_r M_17 a0 23) (i1).toNatClampNeg)) (h_r (h_si M_17 (h_r M_17 a0 16) (v_10).toNatClampNeg (h_i M_17 (h_r M_17 a0 23) (i1).toNatClampNeg)) a0 24) (i1).toNatClampNeg (v_12 + v_16)) a0 = 8) (ip' := 90) (ls' := [some (.inr a0), some (.inl i1), some (.inl v_10), some (.inl (v_12 + v_16))]) (st' := []) (M' := h_si (h_si (h_si M_17 (h_r M_17 a0 16) (v_10).toNatClampNeg (h_i M_17 (h_r M_17 a0 23) (i1).toNatClampNeg)) (h_r (h_si M_17 (h_r M_17 a0 16) (v_10).toNatClampNeg (h_i M_17 (h_r M_17 a0 23) (i1).toNatClampNeg)) a0 24) (i1).toNatClampNeg (v_12 + v_16)) a0 1 0) c_156 rfl).trans (t_i ?_ rfl)
              refine (ev_ns c_156 1 (ip' := 91) (ls' := [some (.inr a0), some (.inl i1), some (.inl v_10), some (.inl (v_12 + v_16))]) (st' := [.inl (v_12 + v_16)]) (M' := h_si (h_si (h_si M_17 (h_r M_17 a0 16) (v_10).toNatClampNeg (h_i M_17 (h_r M_17 a0 23) (i1).toNatClampNeg)) (h_r (h_si M_17 (h_r M_17 a0 16) (v_10).toNatClampNeg (h_i M_17 (h_r M_17 a0 23) (i1).toNatClampNeg)) a0 24) (i1).toNatClampNeg (v_12 + v_16)) a0 1 0) rfl).trans ?_
              exact ev_d c_156 rfl
            · skip
              exact rfl
      · skip
        exact rfl
set_option maxRecDepth 20000 in
theorem e_156_32 (a0 : Nat) (i1 : Int32) (M : mM) : ev 156 32 [some (.inr a0), some (.inl i1), none, none] [] M = if (a_rec M 8 [.inr a0, .inl 4] = true ∧ ([] : List mV).length ≤ 8) then (c_I (ev 105 0 [some (.inr a0), some (.inl 4)] [] M) fun v_2 M_1 => some (some (.inl v_2), M_1)) else none := by
  refine (ev_ns c_156 2 (ip' := 34) (ls' := [some (.inr a0), some (.inl i1), none, none]) (st' := [.inl 4, .inr a0]) (M' := M) rfl).trans ?_
  refine (ev_gI (a_rec M 8 [.inr a0, .inl 4] = true ∧ ([] : List mV).length ≤ 8) (as := [.inr a0, .inl 4]) (rr := []) c_156 c_105 rfl).trans (t_i (t_cI ?_) rfl)
  intro v_2 M_1
  exact ev_d c_156 rfl
set_option maxRecDepth 20000 in
theorem e_156_70 (a0 : Nat) (i1 : Int32) (i2 : Int32) (i3 : Int32) (M : mM) : ev 156 70 [some (.inr a0), some (.inl i1), some (.inl i2), some (.inl i3)] [] M = if (a_rec M 8 [.inr a0, .inl 5] = true ∧ ([] : List mV).length ≤ 8) then (c_I (ev 105 0 [some (.inr a0), some (.inl 5)] [] M) fun v_2 M_1 => some (some (.inl v_2), M_1)) else none := by
  refine (ev_ns c_156 2 (ip' := 72) (ls' := [some (.inr a0), some (.inl i1), some (.inl i2), some (.inl i3)]) (st' := [.inl 5, .inr a0]) (M' := M) rfl).trans ?_
  refine (ev_gI (a_rec M 8 [.inr a0, .inl 5] = true ∧ ([] : List mV).length ≤ 8) (as := [.inr a0, .inl 5]) (rr := []) c_156 c_105 rfl).trans (t_i (t_cI ?_) rfl)
  intro v_2 M_1
  exact ev_d c_156 rfl
/- 157: GranuleHallModel.isIdle()Z -/
set_option maxRecDepth 20000 in
theorem e_157_0 (a0 : Nat) (M : mM) : ev 157 0 [some (.inr a0)] [] M = if h_k M a0 = 8 then (if (h_i M a0 2) = (-1) then (ev 157 8 [some (.inr a0)] [.inl 4, .inr a0] M) else (ev 157 8 [some (.inr a0)] [.inl 0, .inr a0] M)) else none := by
  refine (ev_ns c_157 2 (ip' := 2) (ls' := [some (.inr a0)]) (st' := [.inr a0, .inr a0]) (M' := M) rfl).trans ?_
  refine (ev_g (h_k M a0 = 8) (ip' := 3) (ls' := [some (.inr a0)]) (st' := [.inl (h_i M a0 2), .inr a0]) (M' := M) c_157 rfl).trans (t_i ?_ rfl)
  refine (ev_ns c_157 1 (ip' := 4) (ls' := [some (.inr a0)]) (st' := [.inl (-1), .inl (h_i M a0 2), .inr a0]) (M' := M) rfl).trans ?_
  refine (ev_i ((h_i M a0 2) = (-1)) (i1 := 5) (l1 := [some (.inr a0)]) (s1 := [.inr a0]) (M1 := M) (i2 := 7) (l2 := [some (.inr a0)]) (s2 := [.inr a0]) (M2 := M) c_157 rfl).trans (t_i ?_ ?_)
  · skip
    exact ev_ns c_157 2 (ip' := 8) (ls' := [some (.inr a0)]) (st' := [.inl 4, .inr a0]) (M' := M) rfl
  · skip
    exact ev_ns c_157 1 (ip' := 8) (ls' := [some (.inr a0)]) (st' := [.inl 0, .inr a0]) (M' := M) rfl
set_option maxRecDepth 20000 in
theorem e_157_8 (a0 : Nat) (t0 : Nat) (s1 : Int32) (M : mM) : ev 157 8 [some (.inr a0)] [.inl s1, .inr t0] M = if h_k M t0 = 8 then (if h_k (h_si M t0 1 s1) a0 = 8 then (if (h_i (h_si M t0 1 s1) a0 2) = (-1) then (ev 157 16 [some (.inr a0)] [.inl 1] (h_si M t0 1 s1)) else (ev 157 16 [some (.inr a0)] [.inl 0] (h_si M t0 1 s1))) else none) else none := by
  refine (ev_g (h_k M t0 = 8) (ip' := 9) (ls' := [some (.inr a0)]) (st' := []) (M' := h_si M t0 1 s1) c_157 rfl).trans (t_i ?_ rfl)
  refine (ev_ns c_157 1 (ip' := 10) (ls' := [some (.inr a0)]) (st' := [.inr a0]) (M' := h_si M t0 1 s1) rfl).trans ?_
  refine (ev_g (h_k (h_si M t0 1 s1) a0 = 8) (ip' := 11) (ls' := [some (.inr a0)]) (st' := [.inl (h_i (h_si M t0 1 s1) a0 2)]) (M' := h_si M t0 1 s1) c_157 rfl).trans (t_i ?_ rfl)
  refine (ev_ns c_157 1 (ip' := 12) (ls' := [some (.inr a0)]) (st' := [.inl (-1), .inl (h_i (h_si M t0 1 s1) a0 2)]) (M' := h_si M t0 1 s1) rfl).trans ?_
  refine (ev_i ((h_i (h_si M t0 1 s1) a0 2) = (-1)) (i1 := 13) (l1 := [some (.inr a0)]) (s1 := []) (M1 := h_si M t0 1 s1) (i2 := 15) (l2 := [some (.inr a0)]) (s2 := []) (M2 := h_si M t0 1 s1) c_157 rfl).trans (t_i ?_ ?_)
  · skip
    exact ev_ns c_157 2 (ip' := 16) (ls' := [some (.inr a0)]) (st' := [.inl 1]) (M' := h_si M t0 1 s1) rfl
  · skip
    exact ev_ns c_157 1 (ip' := 16) (ls' := [some (.inr a0)]) (st' := [.inl 0]) (M' := h_si M t0 1 s1) rfl
set_option maxRecDepth 20000 in
theorem e_157_16 (a0 : Nat) (s0 : Int32) (M : mM) : ev 157 16 [some (.inr a0)] [.inl s0] M = if s0 = 0 ∨ s0 = 1 then some (some (.inl s0), M) else none := by
  exact ev_gd (s0 = 0 ∨ s0 = 1) c_157 rfl
/- 158: GranuleHallModel.fault()I -/
set_option maxRecDepth 20000 in
theorem e_158_0 (a0 : Nat) (M : mM) : ev 158 0 [some (.inr a0)] [] M = if h_k M a0 = 8 then (if h_k M a0 = 8 then (some (some (.inl 1), h_si M a0 4 ((h_i M a0 4) + 1))) else none) else none := by
  refine (ev_ns c_158 2 (ip' := 2) (ls' := [some (.inr a0)]) (st' := [.inr a0, .inr a0]) (M' := M) rfl).trans ?_
  refine (ev_g (h_k M a0 = 8) (ip' := 3) (ls' := [some (.inr a0)]) (st' := [.inl (h_i M a0 4), .inr a0]) (M' := M) c_158 rfl).trans (t_i ?_ rfl)
  refine (ev_ns c_158 2 (ip' := 5) (ls' := [some (.inr a0)]) (st' := [.inl ((h_i M a0 4) + 1), .inr a0]) (M' := M) rfl).trans ?_
  refine (ev_g (h_k M a0 = 8) (ip' := 6) (ls' := [some (.inr a0)]) (st' := []) (M' := h_si M a0 4 ((h_i M a0 4) + 1)) c_158 rfl).trans (t_i ?_ rfl)
  refine (ev_ns c_158 1 (ip' := 7) (ls' := [some (.inr a0)]) (st' := [.inl 1]) (M' := h_si M a0 4 ((h_i M a0 4) + 1)) rfl).trans ?_
  exact ev_d c_158 rfl
/- 159: GranuleHallModel.exit(IIII)I -/
set_option maxRecDepth 20000 in
theorem e_159_0 (a0 : Nat) (i1 : Int32) (i2 : Int32) (i3 : Int32) (i4 : Int32) (M : mM) : ev 159 0 [some (.inr a0), some (.inl i1), some (.inl i2), some (.inl i3), some (.inl i4), none, none] [] M = if h_k M a0 = 8 then (if h_k M a0 = 8 then (if (h_k M (h_r M a0 26) = 9 ∨ h_k M (h_r M a0 26) = 14) ∧ h_in (h_i M a0 2) (h_l M (h_r M a0 26)) then (if (a_rec M 8 [.inr a0, .inl (h_i M (h_r M a0 26) ((h_i M a0 2)).toNatClampNeg), .inl 0] = true ∧ ([] : List mV).length ≤ 8) then (c_I (ev 108 0 [some (.inr a0), some (.inl (h_i M (h_r M a0 26) ((h_i M a0 2)).toNatClampNeg)), some (.inl 0)] [] M) fun v_2 M_1 => if v_2 = 0 then (ev 159 61 [some (.inr a0), some (.inl i1), some (.inl i2), some (.inl i3), some (.inl i4), some (.inl (h_i M (h_r M a0 26) ((h_i M a0 2)).toNatClampNeg)), none] [] M_1) else (ev 159 13 [some (.inr a0), some (.inl i1), some (.inl i2), some (.inl i3), some (.inl i4), some (.inl (h_i M (h_r M a0 26) ((h_i M a0 2)).toNatClampNeg)), some (.inl 0)] [] M_1)) else none) else none) else none) else none := by
  refine (ev_ns c_159 1 (ip' := 1) (ls' := [some (.inr a0), some (.inl i1), some (.inl i2), some (.inl i3), some (.inl i4), none, none]) (st' := [.inr a0]) (M' := M) rfl).trans ?_
  refine (ev_g (h_k M a0 = 8) (ip' := 2) (ls' := [some (.inr a0), some (.inl i1), some (.inl i2), some (.inl i3), some (.inl i4), none, none]) (st' := [.inr (h_r M a0 26)]) (M' := M) c_159 rfl).trans (t_i ?_ rfl)
  refine (ev_ns c_159 1 (ip' := 3) (ls' := [some (.inr a0), some (.inl i1), some (.inl i2), some (.inl i3), some (.inl i4), none, none]) (st' := [.inr a0, .inr (h_r M a0 26)]) (M' := M) rfl).trans ?_
  refine (ev_g (h_k M a0 = 8) (ip' := 4) (ls' := [some (.inr a0), some (.inl i1), some (.inl i2), some (.inl i3), some (.inl i4), none, none]) (st' := [.inl (h_i M a0 2), .inr (h_r M a0 26)]) (M' := M) c_159 rfl).trans (t_i ?_ rfl)
  refine (ev_g ((h_k M (h_r M a0 26) = 9 ∨ h_k M (h_r M a0 26) = 14) ∧ h_in (h_i M a0 2) (h_l M (h_r M a0 26))) (ip' := 5) (ls' := [some (.inr a0), some (.inl i1), some (.inl i2), some (.inl i3), some (.inl i4), none, none]) (st' := [.inl (h_i M (h_r M a0 26) ((h_i M a0 2)).toNatClampNeg)]) (M' := M) c_159 rfl).trans (t_i ?_ rfl)
  refine (ev_ns c_159 4 (ip' := 9) (ls' := [some (.inr a0), some (.inl i1), some (.inl i2), some (.inl i3), some (.inl i4), some (.inl (h_i M (h_r M a0 26) ((h_i M a0 2)).toNatClampNeg)), none]) (st' := [.inl 0, .inl (h_i M (h_r M a0 26) ((h_i M a0 2)).toNatClampNeg), .inr a0]) (M' := M) rfl).trans ?_
  refine (ev_gI (a_rec M 8 [.inr a0, .inl (h_i M (h_r M a0 26) ((h_i M a0 2)).toNatClampNeg), .inl 0] = true ∧ ([] : List mV).length ≤ 8) (as := [.inr a0, .inl (h_i M (h_r M a0 26) ((h_i M a0 2)).toNatClampNeg), .inl 0]) (rr := []) c_159 c_108 rfl).trans (t_i (t_cI ?_) rfl)
  intro v_2 M_1
  refine (ev_i (v_2 = 0) (i1 := 61) (l1 := [some (.inr a0), some (.inl i1), some (.inl i2), some (.inl i3), some (.inl i4), some (.inl (h_i M (h_r M a0 26) ((h_i M a0 2)).toNatClampNeg)), none]) (s1 := []) (M1 := M_1) (i2 := 11) (l2 := [some (.inr a0), some (.inl i1), some (.inl i2), some (.inl i3), some (.inl i4), some (.inl (h_i M (h_r M a0 26) ((h_i M a0 2)).toNatClampNeg)), none]) (s2 := []) (M2 := M_1) c_159 rfl).trans (t_i ?_ ?_)
  · skip
    exact rfl
  · skip
    exact ev_ns c_159 2 (ip' := 13) (ls' := [some (.inr a0), some (.inl i1), some (.inl i2), some (.inl i3), some (.inl i4), some (.inl (h_i M (h_r M a0 26) ((h_i M a0 2)).toNatClampNeg)), some (.inl 0)]) (st' := []) (M' := M_1) rfl
set_option maxRecDepth 20000 in
theorem e_159_13 (a0 : Nat) (i1 : Int32) (i2 : Int32) (i3 : Int32) (i4 : Int32) (i5 : Int32) (i6 : Int32) (M : mM) : ev 159 13 [some (.inr a0), some (.inl i1), some (.inl i2), some (.inl i3), some (.inl i4), some (.inl i5), some (.inl i6)] [] M = if (32 : Int32) ≤ i6 then (if h_k M a0 = 8 then (if h_k M (h_r M a0 6) = 9 ∧ h_in (32 * i5) (h_l M (h_r M a0 6)) then (if h_k (h_si M (h_r M a0 6) ((32 * i5)).toNatClampNeg i1) a0 = 8 then (if h_k (h_si M (h_r M a0 6) ((32 * i5)).toNatClampNeg i1) (h_r (h_si M (h_r M a0 6) ((32 * i5)).toNatClampNeg i1) a0 6) = 9 ∧ h_in ((32 * i5) + 1) (h_l (h_si M (h_r M a0 6) ((32 * i5)).toNatClampNeg i1) (h_r (h_si M (h_r M a0 6) ((32 * i5)).toNatClampNeg i1) a0 6)) then (if h_k (h_si (h_si M (h_r M a0 6) ((32 * i5)).toNatClampNeg i1) (h_r (h_si M (h_r M a0 6) ((32 * i5)).toNatClampNeg i1) a0 6) (((32 * i5) + 1)).toNatClampNeg i2) a0 = 8 then (if h_k (h_si (h_si M (h_r M a0 6) ((32 * i5)).toNatClampNeg i1) (h_r (h_si M (h_r M a0 6) ((32 * i5)).toNatClampNeg i1) a0 6) (((32 * i5) + 1)).toNatClampNeg i2) (h_r (h_si (h_si M (h_r M a0 6) ((32 * i5)).toNatClampNeg i1) (h_r (h_si M (h_r M a0 6) ((32 * i5)).toNatClampNeg i1) a0 6) (((32 * i5) + 1)).toNatClampNeg i2) a0 6) = 9 ∧ h_in ((32 * i5) + 2) (h_l (h_si (h_si M (h_r M a0 6) ((32 * i5)).toNatClampNeg i1) (h_r (h_si M (h_r M a0 6) ((32 * i5)).toNatClampNeg i1) a0 6) (((32 * i5) + 1)).toNatClampNeg i2) (h_r (h_si (h_si M (h_r M a0 6) ((32 * i5)).toNatClampNeg i1) (h_r (h_si M (h_r M a0 6) ((32 * i5)).toNatClampNeg i1) a0 6) (((32 * i5) + 1)).toNatClampNeg i2) a0 6)) then (if h_k (h_si (h_si (h_si M (h_r M a0 6) ((32 * i5)).toNatClampNeg i1) (h_r (h_si M (h_r M a0 6) ((32 * i5)).toNatClampNeg i1) a0 6) (((32 * i5) + 1)).toNatClampNeg i2) (h_r (h_si (h_si M (h_r M a0 6) ((32 * i5)).toNatClampNeg i1) (h_r (h_si M (h_r M a0 6) ((32 * i5)).toNatClampNeg i1) a0 6) (((32 * i5) + 1)).toNatClampNeg i2) a0 6) (((32 * i5) + 2)).toNatClampNeg i3) a0 = 8 then (if h_k (h_si (h_si (h_si M (h_r M a0 6) ((32 * i5)).toNatClampNeg i1) (h_r (h_si M (h_r M a0 6) ((32 * i5)).toNatClampNeg i1) a0 6) (((32 * i5) + 1)).toNatClampNeg i2) (h_r (h_si (h_si M (h_r M a0 6) ((32 * i5)).toNatClampNeg i1) (h_r (h_si M (h_r M a0 6) ((32 * i5)).toNatClampNeg i1) a0 6) (((32 * i5) + 1)).toNatClampNeg i2) a0 6) (((32 * i5) + 2)).toNatClampNeg i3) (h_r (h_si (h_si (h_si M (h_r M a0 6) ((32 * i5)).toNatClampNeg i1) (h_r (h_si M (h_r M a0 6) ((32 * i5)).toNatClampNeg i1) a0 6) (((32 * i5) + 1)).toNatClampNeg i2) (h_r (h_si (h_si M (h_r M a0 6) ((32 * i5)).toNatClampNeg i1) (h_r (h_si M (h_r M a0 6) ((32 * i5)).toNatClampNeg i1) a0 6) (((32 * i5) + 1)).toNatClampNeg i2) a0 6) (((32 * i5) + 2)).toNatClampNeg i3) a0 6) = 9 ∧ h_in ((32 * i5) + 3) (h_l (h_si (h_si (h_si M (h_r M a0 6) ((32 * i5)).toNatClampNeg i1) (h_r (h_si M (h_r M a0 6) ((32 * i5)).toNatClampNeg i1) a0 6) (((32 * i5) + 1)).toNatClampNeg i2) (h_r (h_si (h_si M (h_r M a0 6) ((32 * i5)).toNatClampNeg i1) (h_r (h_si M (h_r M a0 6) ((32 * i5)).toNatClampNeg i1) a0 6) (((32 * i5) + 1)).toNatClampNeg i2) a0 6) (((32 * i5) + 2)).toNatClampNeg i3) (h_r (h_si (h_si (h_si M (h_r M a0 6) ((32 * i5)).toNatClampNeg i1) (h_r (h_si M (h_r M a0 6) ((32 * i5)).toNatClampNeg i1) a0 6) (((32 * i5) + 1)).toNatClampNeg i2) (h_r (h_si (h_si M (h_r M a0 6) ((32 * i5)).toNatClampNeg i1) (h_r (h_si M (h_r M a0 6) ((32 * i5)).toNatClampNeg i1) a0 6) (((32 * i5) + 1)).toNatClampNeg i2) a0 6) (((32 * i5) + 2)).toNatClampNeg i3) a0 6)) then (ev 159 61 [some (.inr a0), some (.inl i1), some (.inl i2), some (.inl i3), some (.inl i4), some (.inl i5), some (.inl i6)] [] (h_si (h_si (h_si (h_si M (h_r M a0 6) ((32 * i5)).toNatClampNeg i1) (h_r (h_si M (h_r M a0 6) ((32 * i5)).toNatClampNeg i1) a0 6) (((32 * i5) + 1)).toNatClampNeg i2) (h_r (h_si (h_si M (h_r M a0 6) ((32 * i5)).toNatClampNeg i1) (h_r (h_si M (h_r M a0 6) ((32 * i5)).toNatClampNeg i1) a0 6) (((32 * i5) + 1)).toNatClampNeg i2) a0 6) (((32 * i5) + 2)).toNatClampNeg i3) (h_r (h_si (h_si (h_si M (h_r M a0 6) ((32 * i5)).toNatClampNeg i1) (h_r (h_si M (h_r M a0 6) ((32 * i5)).toNatClampNeg i1) a0 6) (((32 * i5) + 1)).toNatClampNeg i2) (h_r (h_si (h_si M (h_r M a0 6) ((32 * i5)).toNatClampNeg i1) (h_r (h_si M (h_r M a0 6) ((32 * i5)).toNatClampNeg i1) a0 6) (((32 * i5) + 1)).toNatClampNeg i2) a0 6) (((32 * i5) + 2)).toNatClampNeg i3) a0 6) (((32 * i5) + 3)).toNatClampNeg i4)) else none) else none) else none) else none) else none) else none) else none) else none) else (if h_k M a0 = 8 then (if h_k M (h_r M a0 6) = 9 ∧ h_in ((32 * i5) + i6) (h_l M (h_r M a0 6)) then (ev 159 13 [some (.inr a0), some (.inl i1), some (.inl i2), some (.inl i3), some (.inl i4), some (.inl i5), some (.inl (i6 + 1))] [] (h_si M (h_r M a0 6) (((32 * i5) + i6)).toNatClampNeg 0)) else none) else none) := by
  refine (ev_ns c_159 2 (ip' := 15) (ls' := [some (.inr a0), some (.inl i1), some (.inl i2), some (.inl i3), some (.inl i4), some (.inl i5), some (.inl i6)]) (st' := [.inl 32, .inl i6]) (M' := M) rfl).trans ?_
  refine (ev_i ((32 : Int32) ≤ i6) (i1 := 27) (l1 := [some (.inr a0), some (.inl i1), some (.inl i2), some (.inl i3), some (.inl i4), some (.inl i5), some (.inl i6)]) (s1 := []) (M1 := M) (i2 := 16) (l2 := [some (.inr a0), some (.inl i1), some (.inl i2), some (.inl i3), some (.inl i4), some (.inl i5), some (.inl i6)]) (s2 := []) (M2 := M) c_159 rfl).trans (t_i ?_ ?_)
  · skip
    refine (ev_ns c_159 1 (ip' := 28) (ls' := [some (.inr a0), some (.inl i1), some (.inl i2), some (.inl i3), some (.inl i4), some (.inl i5), some (.inl i6)]) (st' := [.inr a0]) (M' := M) rfl).trans ?_
    refine (ev_g (h_k M a0 = 8) (ip' := 29) (ls' := [some (.inr a0), some (.inl i1), some (.inl i2), some (.inl i3), some (.inl i4), some (.inl i5), some (.inl i6)]) (st' := [.inr (h_r M a0 6)]) (M' := M) c_159 rfl).trans (t_i ?_ rfl)
    refine (ev_ns c_159 4 (ip' := 33) (ls' := [some (.inr a0), some (.inl i1), some (.inl i2), some (.inl i3), some (.inl i4), some (.inl i5), some (.inl i6)]) (st' := [.inl i1, .inl (32 * i5), .inr (h_r M a0 6)]) (M' := M) rfl).trans ?_
    refine (ev_g (h_k M (h_r M a0 6) = 9 ∧ h_in (32 * i5) (h_l M (h_r M a0 6))) (ip' := 34) (ls' := [some (.inr a0), some (.inl i1), some (.inl i2), some (.inl i3), some (.inl i4), some (.inl i5), some (.inl i6)]) (st' := []) (M' := h_si M (h_r M a0 6) ((32 * i5)).toNatClampNeg i1) c_159 rfl).trans (t_i ?_ rfl)
    refine (ev_ns c_159 1 (ip' := 35) (ls' := [some (.inr a0), some (.inl i1), some (.inl i2), some (.inl i3), some (.inl i4), some (.inl i5), some (.inl i6)]) (st' := [.inr a0]) (M' := h_si M (h_r M a0 6) ((32 * i5)).toNatClampNeg i1) rfl).trans ?_
    refine (ev_g (h_k (h_si M (h_r M a0 6) ((32 * i5)).toNatClampNeg i1) a0 = 8) (ip' := 36) (ls' := [some (.inr a0), some (.inl i1), some (.inl i2), some (.inl i3), some (.inl i4), some (.inl i5), some (.inl i6)]) (st' := [.inr (h_r (h_si M (h_r M a0 6) ((32 * i5)).toNatClampNeg i1) a0 6)]) (M' := h_si M (h_r M a0 6) ((32 * i5)).toNatClampNeg i1) c_159 rfl).trans (t_i ?_ rfl)
    refine (ev_ns c_159 6 (ip' := 42) (ls' := [some (.inr a0), some (.inl i1), some (.inl i2), some (.inl i3), some (.inl i4), some (.inl i5), some (.inl i6)]) (st' := [.inl i2, .inl ((32 * i5) + 1), .inr (h_r (h_si M (h_r M a0 6) ((32 * i5)).toNatClampNeg i1) a0 6)]) (M' := h_si M (h_r M a0 6) ((32 * i5)).toNatClampNeg i1) rfl).trans ?_
    refine (ev_g (h_k (h_si M (h_r M a0 6) ((32 * i5)).toNatClampNeg i1) (h_r (h_si M (h_r M a0 6) ((32 * i5)).toNatClampNeg i1) a0 6) = 9 ∧ h_in ((32 * i5) + 1) (h_l (h_si M (h_r M a0 6) ((32 * i5)).toNatClampNeg i1) (h_r (h_si M (h_r M a0 6) ((32 * i5)).toNatClampNeg i1) a0 6))) (ip' := 43) (ls' := [some (.inr a0), some (.inl i1), some (.inl i2), some (.inl i3), some (.inl i4), some (.inl i5), some (.inl i6)]) (st' := []) (M' := h_si (h_si M (h_r M a0 6) ((32 * i5)).toNatClampNeg i1) (h_r (h_si M (h_r M a0 6) ((32 * i5)).toNatClampNeg i1) a0 6) (((32 * i5) + 1)).toNatClampNeg i2) c_159 rfl).trans (t_i ?_ rfl)
    refine (ev_ns c_159 1 (ip' := 44) (ls' := [some (.inr a0), some (.inl i1), some (.inl i2), some (.inl i3), some (.inl i4), some (.inl i5), some (.inl i6)]) (st' := [.inr a0]) (M' := h_si (h_si M (h_r M a0 6) ((32 * i5)).toNatClampNeg i1) (h_r (h_si M (h_r M a0 6) ((32 * i5)).toNatClampNeg i1) a0 6) (((32 * i5) + 1)).toNatClampNeg i2) rfl).trans ?_
    refine (ev_g (h_k (h_si (h_si M (h_r M a0 6) ((32 * i5)).toNatClampNeg i1) (h_r (h_si M (h_r M a0 6) ((32 * i5)).toNatClampNeg i1) a0 6) (((32 * i5) + 1)).toNatClampNeg i2) a0 = 8) (ip' := 45) (ls' := [some (.inr a0), some (.inl i1), some (.inl i2), some (.inl i3), some (.inl i4), some (.inl i5), some (.inl i6)]) (st' := [.inr (h_r (h_si (h_si M (h_r M a0 6) ((32 * i5)).toNatClampNeg i1) (h_r (h_si M (h_r M a0 6) ((32 * i5)).toNatClampNeg i1) a0 6) (((32 * i5) + 1)).toNatClampNeg i2) a0 6)]) (M' := h_si (h_si M (h_r M a0 6) ((32 * i5)).toNatClampNeg i1) (h_r (h_si M (h_r M a0 6) ((32 * i5)).toNatClampNeg i1) a0 6) (((32 * i5) + 1)).toNatClampNeg i2) c_159 rfl).trans (t_i ?_ rfl)
    refine (ev_ns c_159 6 (ip' := 51) (ls' := [some (.inr a0), some (.inl i1), some (.inl i2), some (.inl i3), some (.inl i4), some (.inl i5), some (.inl i6)]) (st' := [.inl i3, .inl ((32 * i5) + 2), .inr (h_r (h_si (h_si M (h_r M a0 6) ((32 * i5)).toNatClampNeg i1) (h_r (h_si M (h_r M a0 6) ((32 * i5)).toNatClampNeg i1) a0 6) (((32 * i5) + 1)).toNatClampNeg i2) a0 6)]) (M' := h_si (h_si M (h_r M a0 6) ((32 * i5)).toNatClampNeg i1) (h_r (h_si M (h_r M a0 6) ((32 * i5)).toNatClampNeg i1) a0 6) (((32 * i5) + 1)).toNatClampNeg i2) rfl).trans ?_
    refine (ev_g (h_k (h_si (h_si M (h_r M a0 6) ((32 * i5)).toNatClampNeg i1) (h_r (h_si M (h_r M a0 6) ((32 * i5)).toNatClampNeg i1) a0 6) (((32 * i5) + 1)).toNatClampNeg i2) (h_r (h_si (h_si M (h_r M a0 6) ((32 * i5)).toNatClampNeg i1) (h_r (h_si M (h_r M a0 6) ((32 * i5)).toNatClampNeg i1) a0 6) (((32 * i5) + 1)).toNatClampNeg i2) a0 6) = 9 ∧ h_in ((32 * i5) + 2) (h_l (h_si (h_si M (h_r M a0 6) ((32 * i5)).toNatClampNeg i1) (h_r (h_si M (h_r M a0 6) ((32 * i5)).toNatClampNeg i1) a0 6) (((32 * i5) + 1)).toNatClampNeg i2) (h_r (h_si (h_si M (h_r M a0 6) ((32 * i5)).toNatClampNeg i1) (h_r (h_si M (h_r M a0 6) ((32 * i5)).toNatClampNeg i1) a0 6) (((32 * i5) + 1)).toNatClampNeg i2) a0 6))) (ip' := 52) (ls' := [some (.inr a0), some (.inl i1), some (.inl i2), some (.inl i3), some (.inl i4), some (.inl i5), some (.inl i6)]) (st' := []) (M' := h_si (h_si (h_si M (h_r M a0 6) ((32 * i5)).toNatClampNeg i1) (h_r (h_si M (h_r M a0 6) ((32 * i5)).toNatClampNeg i1) a0 6) (((32 * i5) + 1)).toNatClampNeg i2) (h_r (h_si (h_si M (h_r M a0 6) ((32 * i5)).toNatClampNeg i1) (h_r (h_si M (h_r M a0 6) ((32 * i5)).toNatClampNeg i1) a0 6) (((32 * i5) + 1)).toNatClampNeg i2) a0 6) (((32 * i5) + 2)).toNatClampNeg i3) c_159 rfl).trans (t_i ?_ rfl)
    refine (ev_ns c_159 1 (ip' := 53) (ls' := [some (.inr a0), some (.inl i1), some (.inl i2), some (.inl i3), some (.inl i4), some (.inl i5), some (.inl i6)]) (st' := [.inr a0]) (M' := h_si (h_si (h_si M (h_r M a0 6) ((32 * i5)).toNatClampNeg i1) (h_r (h_si M (h_r M a0 6) ((32 * i5)).toNatClampNeg i1) a0 6) (((32 * i5) + 1)).toNatClampNeg i2) (h_r (h_si (h_si M (h_r M a0 6) ((32 * i5)).toNatClampNeg i1) (h_r (h_si M (h_r M a0 6) ((32 * i5)).toNatClampNeg i1) a0 6) (((32 * i5) + 1)).toNatClampNeg i2) a0 6) (((32 * i5) + 2)).toNatClampNeg i3) rfl).trans ?_
    refine (ev_g (h_k (h_si (h_si (h_si M (h_r M a0 6) ((32 * i5)).toNatClampNeg i1) (h_r (h_si M (h_r M a0 6) ((32 * i5)).toNatClampNeg i1) a0 6) (((32 * i5) + 1)).toNatClampNeg i2) (h_r (h_si (h_si M (h_r M a0 6) ((32 * i5)).toNatClampNeg i1) (h_r (h_si M (h_r M a0 6) ((32 * i5)).toNatClampNeg i1) a0 6) (((32 * i5) + 1)).toNatClampNeg i2) a0 6) (((32 * i5) + 2)).toNatClampNeg i3) a0 = 8) (ip' := 54) (ls' := [some (.inr a0), some (.inl i1), some (.inl i2), some (.inl i3), some (.inl i4), some (.inl i5), some (.inl i6)]) (st' := [.inr (h_r (h_si (h_si (h_si M (h_r M a0 6) ((32 * i5)).toNatClampNeg i1) (h_r (h_si M (h_r M a0 6) ((32 * i5)).toNatClampNeg i1) a0 6) (((32 * i5) + 1)).toNatClampNeg i2) (h_r (h_si (h_si M (h_r M a0 6) ((32 * i5)).toNatClampNeg i1) (h_r (h_si M (h_r M a0 6) ((32 * i5)).toNatClampNeg i1) a0 6) (((32 * i5) + 1)).toNatClampNeg i2) a0 6) (((32 * i5) + 2)).toNatClampNeg i3) a0 6)]) (M' := h_si (h_si (h_si M (h_r M a0 6) ((32 * i5)).toNatClampNeg i1) (h_r (h_si M (h_r M a0 6) ((32 * i5)).toNatClampNeg i1) a0 6) (((32 * i5) + 1)).toNatClampNeg i2) (h_r (h_si (h_si M (h_r M a0 6) ((32 * i5)).toNatClampNeg i1) (h_r (h_si M (h_r M a0 6) ((32 * i5)).toNatClampNeg i1) a0 6) (((32 * i5) + 1)).toNatClampNeg i2) a0 6) (((32 * i5) + 2)).toNatClampNeg i3) c_159 rfl).trans (t_i ?_ rfl)
    refine (ev_ns c_159 6 (ip' := 60) (ls' := [some (.inr a0), some (.inl i1), some (.inl i2), some (.inl i3), some (.inl i4), some (.inl i5), some (.inl i6)]) (st' := [.inl i4, .inl ((32 * i5) + 3), .inr (h_r (h_si (h_si (h_si M (h_r M a0 6) ((32 * i5)).toNatClampNeg i1) (h_r (h_si M (h_r M a0 6) ((32 * i5)).toNatClampNeg i1) a0 6) (((32 * i5) + 1)).toNatClampNeg i2) (h_r (h_si (h_si M (h_r M a0 6) ((32 * i5)).toNatClampNeg i1) (h_r (h_si M (h_r M a0 6) ((32 * i5)).toNatClampNeg i1) a0 6) (((32 * i5) + 1)).toNatClampNeg i2) a0 6) (((32 * i5) + 2)).toNatClampNeg i3) a0 6)]) (M' := h_si (h_si (h_si M (h_r M a0 6) ((32 * i5)).toNatClampNeg i1) (h_r (h_si M (h_r M a0 6) ((32 * i5)).toNatClampNeg i1) a0 6) (((32 * i5) + 1)).toNatClampNeg i2) (h_r (h_si (h_si M (h_r M a0 6) ((32 * i5)).toNatClampNeg i1) (h_r (h_si M (h_r M a0 6) ((32 * i5)).toNatClampNeg i1) a0 6) (((32 * i5) + 1)).toNatClampNeg i2) a0 6) (((32 * i5) + 2)).toNatClampNeg i3) rfl).trans ?_
    refine (ev_g (h_k (h_si (h_si (h_si M (h_r M a0 6) ((32 * i5)).toNatClampNeg i1) (h_r (h_si M (h_r M a0 6) ((32 * i5)).toNatClampNeg i1) a0 6) (((32 * i5) + 1)).toNatClampNeg i2) (h_r (h_si (h_si M (h_r M a0 6) ((32 * i5)).toNatClampNeg i1) (h_r (h_si M (h_r M a0 6) ((32 * i5)).toNatClampNeg i1) a0 6) (((32 * i5) + 1)).toNatClampNeg i2) a0 6) (((32 * i5) + 2)).toNatClampNeg i3) (h_r (h_si (h_si (h_si M (h_r M a0 6) ((32 * i5)).toNatClampNeg i1) (h_r (h_si M (h_r M a0 6) ((32 * i5)).toNatClampNeg i1) a0 6) (((32 * i5) + 1)).toNatClampNeg i2) (h_r (h_si (h_si M (h_r M a0 6) ((32 * i5)).toNatClampNeg i1) (h_r (h_si M (h_r M a0 6) ((32 * i5)).toNatClampNeg i1) a0 6) (((32 * i5) + 1)).toNatClampNeg i2) a0 6) (((32 * i5) + 2)).toNatClampNeg i3) a0 6) = 9 ∧ h_in ((32 * i5) + 3) (h_l (h_si (h_si (h_si M (h_r M a0 6) ((32 * i5)).toNatClampNeg i1) (h_r (h_si M (h_r M a0 6) ((32 * i5)).toNatClampNeg i1) a0 6) (((32 * i5) + 1)).toNatClampNeg i2) (h_r (h_si (h_si M (h_r M a0 6) ((32 * i5)).toNatClampNeg i1) (h_r (h_si M (h_r M a0 6) ((32 * i5)).toNatClampNeg i1) a0 6) (((32 * i5) + 1)).toNatClampNeg i2) a0 6) (((32 * i5) + 2)).toNatClampNeg i3) (h_r (h_si (h_si (h_si M (h_r M a0 6) ((32 * i5)).toNatClampNeg i1) (h_r (h_si M (h_r M a0 6) ((32 * i5)).toNatClampNeg i1) a0 6) (((32 * i5) + 1)).toNatClampNeg i2) (h_r (h_si (h_si M (h_r M a0 6) ((32 * i5)).toNatClampNeg i1) (h_r (h_si M (h_r M a0 6) ((32 * i5)).toNatClampNeg i1) a0 6) (((32 * i5) + 1)).toNatClampNeg i2) a0 6) (((32 * i5) + 2)).toNatClampNeg i3) a0 6))) (ip' := 61) (ls' := [some (.inr a0), some (.inl i1), some (.inl i2), some (.inl i3), some (.inl i4), some (.inl i5), some (.inl i6)]) (st' := []) (M' := h_si (h_si (h_si (h_si M (h_r M a0 6) ((32 * i5)).toNatClampNeg i1) (h_r (h_si M (h_r M a0 6) ((32 * i5)).toNatClampNeg i1) a0 6) (((32 * i5) + 1)).toNatClampNeg i2) (h_r (h_si (h_si M (h_r M a0 6) ((32 * i5)).toNatClampNeg i1) (h_r (h_si M (h_r M a0 6) ((32 * i5)).toNatClampNeg i1) a0 6) (((32 * i5) + 1)).toNatClampNeg i2) a0 6) (((32 * i5) + 2)).toNatClampNeg i3) (h_r (h_si (h_si (h_si M (h_r M a0 6) ((32 * i5)).toNatClampNeg i1) (h_r (h_si M (h_r M a0 6) ((32 * i5)).toNatClampNeg i1) a0 6) (((32 * i5) + 1)).toNatClampNeg i2) (h_r (h_si (h_si M (h_r M a0 6) ((32 * i5)).toNatClampNeg i1) (h_r (h_si M (h_r M a0 6) ((32 * i5)).toNatClampNeg i1) a0 6) (((32 * i5) + 1)).toNatClampNeg i2) a0 6) (((32 * i5) + 2)).toNatClampNeg i3) a0 6) (((32 * i5) + 3)).toNatClampNeg i4) c_159 rfl).trans (t_i ?_ rfl)
    exact rfl
  · skip
    refine (ev_ns c_159 1 (ip' := 17) (ls' := [some (.inr a0), some (.inl i1), some (.inl i2), some (.inl i3), some (.inl i4), some (.inl i5), some (.inl i6)]) (st' := [.inr a0]) (M' := M) rfl).trans ?_
    refine (ev_g (h_k M a0 = 8) (ip' := 18) (ls' := [some (.inr a0), some (.inl i1), some (.inl i2), some (.inl i3), some (.inl i4), some (.inl i5), some (.inl i6)]) (st' := [.inr (h_r M a0 6)]) (M' := M) c_159 rfl).trans (t_i ?_ rfl)
    refine (ev_ns c_159 6 (ip' := 24) (ls' := [some (.inr a0), some (.inl i1), some (.inl i2), some (.inl i3), some (.inl i4), some (.inl i5), some (.inl i6)]) (st' := [.inl 0, .inl ((32 * i5) + i6), .inr (h_r M a0 6)]) (M' := M) rfl).trans ?_
    refine (ev_g (h_k M (h_r M a0 6) = 9 ∧ h_in ((32 * i5) + i6) (h_l M (h_r M a0 6))) (ip' := 25) (ls' := [some (.inr a0), some (.inl i1), some (.inl i2), some (.inl i3), some (.inl i4), some (.inl i5), some (.inl i6)]) (st' := []) (M' := h_si M (h_r M a0 6) (((32 * i5) + i6)).toNatClampNeg 0) c_159 rfl).trans (t_i ?_ rfl)
    exact ev_ns c_159 2 (ip' := 13) (ls' := [some (.inr a0), some (.inl i1), some (.inl i2), some (.inl i3), some (.inl i4), some (.inl i5), some (.inl (i6 + 1))]) (st' := []) (M' := h_si M (h_r M a0 6) (((32 * i5) + i6)).toNatClampNeg 0) rfl
set_option maxRecDepth 20000 in
theorem e_159_61 (a0 : Nat) (i1 : Int32) (i2 : Int32) (i3 : Int32) (i4 : Int32) (i5 : Int32) (o6 : Option mV) (M : mM) : ev 159 61 [some (.inr a0), some (.inl i1), some (.inl i2), some (.inl i3), some (.inl i4), some (.inl i5), o6] [] M = if h_k M a0 = 8 then (if h_k (h_si M a0 2 (-1)) a0 = 8 then (if h_k (h_si M a0 2 (-1)) a0 = 8 then (some (some (.inl 2), h_si (h_si M a0 2 (-1)) a0 3 ((h_i (h_si M a0 2 (-1)) a0 3) + 1))) else none) else none) else none := by
  refine (ev_ns c_159 2 (ip' := 63) (ls' := [some (.inr a0), some (.inl i1), some (.inl i2), some (.inl i3), some (.inl i4), some (.inl i5), o6]) (st' := [.inl (-1), .inr a0]) (M' := M) rfl).trans ?_
  refine (ev_g (h_k M a0 = 8) (ip' := 64) (ls' := [some (.inr a0), some (.inl i1), some (.inl i2), some (.inl i3), some (.inl i4), some (.inl i5), o6]) (st' := []) (M' := h_si M a0 2 (-1)) c_159 rfl).trans (t_i ?_ rfl)
  refine (ev_ns c_159 2 (ip' := 66) (ls' := [some (.inr a0), some (.inl i1), some (.inl i2), some (.inl i3), some (.inl i4), some (.inl i5), o6]) (st' := [.inr a0, .inr a0]) (M' := h_si M a0 2 (-1)) rfl).trans ?_
  refine (ev_g (h_k (h_si M a0 2 (-1)) a0 = 8) (ip' := 67) (ls' := [some (.inr a0), some (.inl i1), some (.inl i2), some (.inl i3), some (.inl i4), some (.inl i5), o6]) (st' := [.inl (h_i (h_si M a0 2 (-1)) a0 3), .inr a0]) (M' := h_si M a0 2 (-1)) c_159 rfl).trans (t_i ?_ rfl)
  refine (ev_ns c_159 2 (ip' := 69) (ls' := [some (.inr a0), some (.inl i1), some (.inl i2), some (.inl i3), some (.inl i4), some (.inl i5), o6]) (st' := [.inl ((h_i (h_si M a0 2 (-1)) a0 3) + 1), .inr a0]) (M' := h_si M a0 2 (-1)) rfl).trans ?_
  refine (ev_g (h_k (h_si M a0 2 (-1)) a0 = 8) (ip' := 70) (ls' := [some (.inr a0), some (.inl i1), some (.inl i2), some (.inl i3), some (.inl i4), some (.inl i5), o6]) (st' := []) (M' := h_si (h_si M a0 2 (-1)) a0 3 ((h_i (h_si M a0 2 (-1)) a0 3) + 1)) c_159 rfl).trans (t_i ?_ rfl)
  refine (ev_ns c_159 1 (ip' := 71) (ls' := [some (.inr a0), some (.inl i1), some (.inl i2), some (.inl i3), some (.inl i4), some (.inl i5), o6]) (st' := [.inl 2]) (M' := h_si (h_si M a0 2 (-1)) a0 3 ((h_i (h_si M a0 2 (-1)) a0 3) + 1)) rfl).trans ?_
  exact ev_d c_159 rfl
/- 160: GranuleHallModel.reach(I)I -/
set_option maxRecDepth 20000 in
theorem e_160_0 (a0 : Nat) (i1 : Int32) (M : mM) : ev 160 0 [some (.inr a0), some (.inl i1), none] [] M = if h_k M a0 = 8 then (if h_k M a0 = 8 then (if (h_k M (h_r M a0 7) = 9 ∨ h_k M (h_r M a0 7) = 14) ∧ h_in (h_i M a0 2) (h_l M (h_r M a0 7)) then (if (a_rec M 8 [.inr a0, .inl (h_i M (h_r M a0 7) ((h_i M a0 2)).toNatClampNeg), .inl i1] = true ∧ ([] : List mV).length ≤ 8) then (c_I (ev 119 0 [some (.inr a0), some (.inl (h_i M (h_r M a0 7) ((h_i M a0 2)).toNatClampNeg)), some (.inl i1)] [] M) fun v_2 M_1 => if (a_rec M_1 0 [.inl i1] = true ∧ ([] : List mV).length ≤ 8) then (c_I (ev 123 0 [some (.inl i1)] [] M_1) fun v_4 M_3 => if v_4 = 0 then (if h_k M_3 a0 = 8 then (if (h_k M_3 (h_r M_3 a0 14) = 9 ∨ h_k M_3 (h_r M_3 a0 14) = 14) ∧ h_in v_2 (h_l M_3 (h_r M_3 a0 14)) then (if (h_i M_3 (h_r M_3 a0 14) (v_2).toNatClampNeg) = 1 then (if h_k M_3 a0 = 8 then (if (h_k M_3 (h_r M_3 a0 15) = 9 ∨ h_k M_3 (h_r M_3 a0 15) = 14) ∧ h_in v_2 (h_l M_3 (h_r M_3 a0 15)) then (if (a_rec M_3 8 [.inr a0, .inl (h_i M_3 (h_r M_3 a0 15) (v_2).toNatClampNeg), .inl 0] = true ∧ ([] : List mV).length ≤ 8) then (c_I (ev 108 0 [some (.inr a0), some (.inl (h_i M_3 (h_r M_3 a0 15) (v_2).toNatClampNeg)), some (.inl 0)] [] M_3) fun v_6 M_5 => if v_6 = 0 then (ev 160 31 [some (.inr a0), some (.inl i1), some (.inl v_2)] [] M_5) else (if h_k M_5 a0 = 8 then (if (h_k M_5 (h_r M_5 a0 15) = 9 ∨ h_k M_5 (h_r M_5 a0 15) = 14) ∧ h_in v_2 (h_l M_5 (h_r M_5 a0 15)) then (ev 160 32 [some (.inr a0), some (.inl i1), some (.inl v_2)] [.inl (h_i M_5 (h_r M_5 a0 15) (v_2).toNatClampNeg)] M_5) else none) else none)) else none) else none) else none) else (ev 160 31 [some (.inr a0), some (.inl i1), some (.inl v_2)] [] M_3)) else none) else none) else (if h_k M_3 a0 = 8 then (if (h_k M_3 (h_r M_3 a0 16) = 9 ∨ h_k M_3 (h_r M_3 a0 16) = 14) ∧ h_in v_2 (h_l M_3 (h_r M_3 a0 16)) then (if (h_i M_3 (h_r M_3 a0 16) (v_2).toNatClampNeg) = 0 then (some (some (.inl (-1)), M_3)) else (if h_k M_3 a0 = 8 then (if (h_k M_3 (h_r M_3 a0 14) = 9 ∨ h_k M_3 (h_r M_3 a0 14) = 14) ∧ h_in v_2 (h_l M_3 (h_r M_3 a0 14)) then (if (h_i M_3 (h_r M_3 a0 14) (v_2).toNatClampNeg) = 1 then (if h_k M_3 a0 = 8 then (if (h_k M_3 (h_r M_3 a0 16) = 9 ∨ h_k M_3 (h_r M_3 a0 16) = 14) ∧ h_in v_2 (h_l M_3 (h_r M_3 a0 16)) then (if (h_i M_3 (h_r M_3 a0 16) (v_2).toNatClampNeg) = 1 then (if h_k M_3 a0 = 8 then (if (h_k M_3 (h_r M_3 a0 15) = 9 ∨ h_k M_3 (h_r M_3 a0 15) = 14) ∧ h_in v_2 (h_l M_3 (h_r M_3 a0 15)) then (ev 160 58 [some (.inr a0), some (.inl i1), some (.inl v_2)] [.inl (h_i M_3 (h_r M_3 a0 15) (v_2).toNatClampNeg)] M_3) else none) else none) else (ev 160 57 [some (.inr a0), some (.inl i1), some (.inl v_2)] [] M_3)) else none) else none) else (ev 160 57 [some (.inr a0), some (.inl i1), some (.inl v_2)] [] M_3)) else none) else none)) else none) else none)) else none) else none) else none) else none) else none := by
  refine (ev_ns c_160 2 (ip' := 2) (ls' := [some (.inr a0), some (.inl i1), none]) (st' := [.inr a0, .inr a0]) (M' := M) rfl).trans ?_
  refine (ev_g (h_k M a0 = 8) (ip' := 3) (ls' := [some (.inr a0), some (.inl i1), none]) (st' := [.inr (h_r M a0 7), .inr a0]) (M' := M) c_160 rfl).trans (t_i ?_ rfl)
  refine (ev_ns c_160 1 (ip' := 4) (ls' := [some (.inr a0), some (.inl i1), none]) (st' := [.inr a0, .inr (h_r M a0 7), .inr a0]) (M' := M) rfl).trans ?_
  refine (ev_g (h_k M a0 = 8) (ip' := 5) (ls' := [some (.inr a0), some (.inl i1), none]) (st' := [.inl (h_i M a0 2), .inr (h_r M a0 7), .inr a0]) (M' := M) c_160 rfl).trans (t_i ?_ rfl)
  refine (ev_g ((h_k M (h_r M a0 7) = 9 ∨ h_k M (h_r M a0 7) = 14) ∧ h_in (h_i M a0 2) (h_l M (h_r M a0 7))) (ip' := 6) (ls' := [some (.inr a0), some (.inl i1), none]) (st' := [.inl (h_i M (h_r M a0 7) ((h_i M a0 2)).toNatClampNeg), .inr a0]) (M' := M) c_160 rfl).trans (t_i ?_ rfl)
  refine (ev_ns c_160 1 (ip' := 7) (ls' := [some (.inr a0), some (.inl i1), none]) (st' := [.inl i1, .inl (h_i M (h_r M a0 7) ((h_i M a0 2)).toNatClampNeg), .inr a0]) (M' := M) rfl).trans ?_
  refine (ev_gI (a_rec M 8 [.inr a0, .inl (h_i M (h_r M a0 7) ((h_i M a0 2)).toNatClampNeg), .inl i1] = true ∧ ([] : List mV).length ≤ 8) (as := [.inr a0, .inl (h_i M (h_r M a0 7) ((h_i M a0 2)).toNatClampNeg), .inl i1]) (rr := []) c_160 c_119 rfl).trans (t_i (t_cI ?_) rfl)
  intro v_2 M_1
  refine (ev_ns c_160 2 (ip' := 10) (ls' := [some (.inr a0), some (.inl i1), some (.inl v_2)]) (st' := [.inl i1]) (M' := M_1) rfl).trans ?_
  refine (ev_gI (a_rec M_1 0 [.inl i1] = true ∧ ([] : List mV).length ≤ 8) (as := [.inl i1]) (rr := []) c_160 c_123 rfl).trans (t_i (t_cI ?_) rfl)
  intro v_4 M_3
  refine (ev_i (v_4 = 0) (i1 := 12) (l1 := [some (.inr a0), some (.inl i1), some (.inl v_2)]) (s1 := []) (M1 := M_3) (i2 := 33) (l2 := [some (.inr a0), some (.inl i1), some (.inl v_2)]) (s2 := []) (M2 := M_3) c_160 rfl).trans (t_i ?_ ?_)
  · skip
    refine (ev_ns c_160 1 (ip' := 13) (ls' := [some (.inr a0), some (.inl i1), some (.inl v_2)]) (st' := [.inr a0]) (M' := M_3) rfl).trans ?_
    refine (ev_g (h_k M_3 a0 = 8) (ip' := 14) (ls' := [some (.inr a0), some (.inl i1), some (.inl v_2)]) (st' := [.inr (h_r M_3 a0 14)]) (M' := M_3) c_160 rfl).trans (t_i ?_ rfl)
    refine (ev_ns c_160 1 (ip' := 15) (ls' := [some (.inr a0), some (.inl i1), some (.inl v_2)]) (st' := [.inl v_2, .inr (h_r M_3 a0 14)]) (M' := M_3) rfl).trans ?_
    refine (ev_g ((h_k M_3 (h_r M_3 a0 14) = 9 ∨ h_k M_3 (h_r M_3 a0 14) = 14) ∧ h_in v_2 (h_l M_3 (h_r M_3 a0 14))) (ip' := 16) (ls' := [some (.inr a0), some (.inl i1), some (.inl v_2)]) (st' := [.inl (h_i M_3 (h_r M_3 a0 14) (v_2).toNatClampNeg)]) (M' := M_3) c_160 rfl).trans (t_i ?_ rfl)
    refine (ev_ns c_160 1 (ip' := 17) (ls' := [some (.inr a0), some (.inl i1), some (.inl v_2)]) (st' := [.inl 1, .inl (h_i M_3 (h_r M_3 a0 14) (v_2).toNatClampNeg)]) (M' := M_3) rfl).trans ?_
    refine (ev_i ((h_i M_3 (h_r M_3 a0 14) (v_2).toNatClampNeg) = 1) (i1 := 18) (l1 := [some (.inr a0), some (.inl i1), some (.inl v_2)]) (s1 := []) (M1 := M_3) (i2 := 31) (l2 := [some (.inr a0), some (.inl i1), some (.inl v_2)]) (s2 := []) (M2 := M_3) c_160 rfl).trans (t_i ?_ ?_)
    · skip
      refine (ev_ns c_160 2 (ip' := 20) (ls' := [some (.inr a0), some (.inl i1), some (.inl v_2)]) (st' := [.inr a0, .inr a0]) (M' := M_3) rfl).trans ?_
      refine (ev_g (h_k M_3 a0 = 8) (ip' := 21) (ls' := [some (.inr a0), some (.inl i1), some (.inl v_2)]) (st' := [.inr (h_r M_3 a0 15), .inr a0]) (M' := M_3) c_160 rfl).trans (t_i ?_ rfl)
      refine (ev_ns c_160 1 (ip' := 22) (ls' := [some (.inr a0), some (.inl i1), some (.inl v_2)]) (st' := [.inl v_2, .inr (h_r M_3 a0 15), .inr a0]) (M' := M_3) rfl).trans ?_
      refine (ev_g ((h_k M_3 (h_r M_3 a0 15) = 9 ∨ h_k M_3 (h_r M_3 a0 15) = 14) ∧ h_in v_2 (h_l M_3 (h_r M_3 a0 15))) (ip' := 23) (ls' := [some (.inr a0), some (.inl i1), some (.inl v_2)]) (st' := [.inl (h_i M_3 (h_r M_3 a0 15) (v_2).toNatClampNeg), .inr a0]) (M' := M_3) c_160 rfl).trans (t_i ?_ rfl)
      refine (ev_ns c_160 1 (ip' := 24) (ls' := [some (.inr a0), some (.inl i1), some (.inl v_2)]) (st' := [.inl 0, .inl (h_i M_3 (h_r M_3 a0 15) (v_2).toNatClampNeg), .inr a0]) (M' := M_3) rfl).trans ?_
      refine (ev_gI (a_rec M_3 8 [.inr a0, .inl (h_i M_3 (h_r M_3 a0 15) (v_2).toNatClampNeg), .inl 0] = true ∧ ([] : List mV).length ≤ 8) (as := [.inr a0, .inl (h_i M_3 (h_r M_3 a0 15) (v_2).toNatClampNeg), .inl 0]) (rr := []) c_160 c_108 rfl).trans (t_i (t_cI ?_) rfl)
      intro v_6 M_5
      refine (ev_i (v_6 = 0) (i1 := 31) (l1 := [some (.inr a0), some (.inl i1), some (.inl v_2)]) (s1 := []) (M1 := M_5) (i2 := 26) (l2 := [some (.inr a0), some (.inl i1), some (.inl v_2)]) (s2 := []) (M2 := M_5) c_160 rfl).trans (t_i ?_ ?_)
      · skip
        exact rfl
      · skip
        refine (ev_ns c_160 1 (ip' := 27) (ls' := [some (.inr a0), some (.inl i1), some (.inl v_2)]) (st' := [.inr a0]) (M' := M_5) rfl).trans ?_
        refine (ev_g (h_k M_5 a0 = 8) (ip' := 28) (ls' := [some (.inr a0), some (.inl i1), some (.inl v_2)]) (st' := [.inr (h_r M_5 a0 15)]) (M' := M_5) c_160 rfl).trans (t_i ?_ rfl)
        refine (ev_ns c_160 1 (ip' := 29) (ls' := [some (.inr a0), some (.inl i1), some (.inl v_2)]) (st' := [.inl v_2, .inr (h_r M_5 a0 15)]) (M' := M_5) rfl).trans ?_
        refine (ev_g ((h_k M_5 (h_r M_5 a0 15) = 9 ∨ h_k M_5 (h_r M_5 a0 15) = 14) ∧ h_in v_2 (h_l M_5 (h_r M_5 a0 15))) (ip' := 30) (ls' := [some (.inr a0), some (.inl i1), some (.inl v_2)]) (st' := [.inl (h_i M_5 (h_r M_5 a0 15) (v_2).toNatClampNeg)]) (M' := M_5) c_160 rfl).trans (t_i ?_ rfl)
        exact ev_ns c_160 1 (ip' := 32) (ls' := [some (.inr a0), some (.inl i1), some (.inl v_2)]) (st' := [.inl (h_i M_5 (h_r M_5 a0 15) (v_2).toNatClampNeg)]) (M' := M_5) rfl
    · skip
      exact rfl
  · skip
    refine (ev_ns c_160 1 (ip' := 34) (ls' := [some (.inr a0), some (.inl i1), some (.inl v_2)]) (st' := [.inr a0]) (M' := M_3) rfl).trans ?_
    refine (ev_g (h_k M_3 a0 = 8) (ip' := 35) (ls' := [some (.inr a0), some (.inl i1), some (.inl v_2)]) (st' := [.inr (h_r M_3 a0 16)]) (M' := M_3) c_160 rfl).trans (t_i ?_ rfl)
    refine (ev_ns c_160 1 (ip' := 36) (ls' := [some (.inr a0), some (.inl i1), some (.inl v_2)]) (st' := [.inl v_2, .inr (h_r M_3 a0 16)]) (M' := M_3) rfl).trans ?_
    refine (ev_g ((h_k M_3 (h_r M_3 a0 16) = 9 ∨ h_k M_3 (h_r M_3 a0 16) = 14) ∧ h_in v_2 (h_l M_3 (h_r M_3 a0 16))) (ip' := 37) (ls' := [some (.inr a0), some (.inl i1), some (.inl v_2)]) (st' := [.inl (h_i M_3 (h_r M_3 a0 16) (v_2).toNatClampNeg)]) (M' := M_3) c_160 rfl).trans (t_i ?_ rfl)
    refine (ev_i ((h_i M_3 (h_r M_3 a0 16) (v_2).toNatClampNeg) = 0) (i1 := 38) (l1 := [some (.inr a0), some (.inl i1), some (.inl v_2)]) (s1 := []) (M1 := M_3) (i2 := 40) (l2 := [some (.inr a0), some (.inl i1), some (.inl v_2)]) (s2 := []) (M2 := M_3) c_160 rfl).trans (t_i ?_ ?_)
    · skip
      refine (ev_ns c_160 1 (ip' := 39) (ls' := [some (.inr a0), some (.inl i1), some (.inl v_2)]) (st' := [.inl (-1)]) (M' := M_3) rfl).trans ?_
      exact ev_d c_160 rfl
    · skip
      refine (ev_ns c_160 1 (ip' := 41) (ls' := [some (.inr a0), some (.inl i1), some (.inl v_2)]) (st' := [.inr a0]) (M' := M_3) rfl).trans ?_
      refine (ev_g (h_k M_3 a0 = 8) (ip' := 42) (ls' := [some (.inr a0), some (.inl i1), some (.inl v_2)]) (st' := [.inr (h_r M_3 a0 14)]) (M' := M_3) c_160 rfl).trans (t_i ?_ rfl)
      refine (ev_ns c_160 1 (ip' := 43) (ls' := [some (.inr a0), some (.inl i1), some (.inl v_2)]) (st' := [.inl v_2, .inr (h_r M_3 a0 14)]) (M' := M_3) rfl).trans ?_
      refine (ev_g ((h_k M_3 (h_r M_3 a0 14) = 9 ∨ h_k M_3 (h_r M_3 a0 14) = 14) ∧ h_in v_2 (h_l M_3 (h_r M_3 a0 14))) (ip' := 44) (ls' := [some (.inr a0), some (.inl i1), some (.inl v_2)]) (st' := [.inl (h_i M_3 (h_r M_3 a0 14) (v_2).toNatClampNeg)]) (M' := M_3) c_160 rfl).trans (t_i ?_ rfl)
      refine (ev_ns c_160 1 (ip' := 45) (ls' := [some (.inr a0), some (.inl i1), some (.inl v_2)]) (st' := [.inl 1, .inl (h_i M_3 (h_r M_3 a0 14) (v_2).toNatClampNeg)]) (M' := M_3) rfl).trans ?_
      refine (ev_i ((h_i M_3 (h_r M_3 a0 14) (v_2).toNatClampNeg) = 1) (i1 := 46) (l1 := [some (.inr a0), some (.inl i1), some (.inl v_2)]) (s1 := []) (M1 := M_3) (i2 := 57) (l2 := [some (.inr a0), some (.inl i1), some (.inl v_2)]) (s2 := []) (M2 := M_3) c_160 rfl).trans (t_i ?_ ?_)
      · skip
        refine (ev_ns c_160 1 (ip' := 47) (ls' := [some (.inr a0), some (.inl i1), some (.inl v_2)]) (st' := [.inr a0]) (M' := M_3) rfl).trans ?_
        refine (ev_g (h_k M_3 a0 = 8) (ip' := 48) (ls' := [some (.inr a0), some (.inl i1), some (.inl v_2)]) (st' := [.inr (h_r M_3 a0 16)]) (M' := M_3) c_160 rfl).trans (t_i ?_ rfl)
        refine (ev_ns c_160 1 (ip' := 49) (ls' := [some (.inr a0), some (.inl i1), some (.inl v_2)]) (st' := [.inl v_2, .inr (h_r M_3 a0 16)]) (M' := M_3) rfl).trans ?_
        refine (ev_g ((h_k M_3 (h_r M_3 a0 16) = 9 ∨ h_k M_3 (h_r M_3 a0 16) = 14) ∧ h_in v_2 (h_l M_3 (h_r M_3 a0 16))) (ip' := 50) (ls' := [some (.inr a0), some (.inl i1), some (.inl v_2)]) (st' := [.inl (h_i M_3 (h_r M_3 a0 16) (v_2).toNatClampNeg)]) (M' := M_3) c_160 rfl).trans (t_i ?_ rfl)
        refine (ev_ns c_160 1 (ip' := 51) (ls' := [some (.inr a0), some (.inl i1), some (.inl v_2)]) (st' := [.inl 1, .inl (h_i M_3 (h_r M_3 a0 16) (v_2).toNatClampNeg)]) (M' := M_3) rfl).trans ?_
        refine (ev_i ((h_i M_3 (h_r M_3 a0 16) (v_2).toNatClampNeg) = 1) (i1 := 52) (l1 := [some (.inr a0), some (.inl i1), some (.inl v_2)]) (s1 := []) (M1 := M_3) (i2 := 57) (l2 := [some (.inr a0), some (.inl i1), some (.inl v_2)]) (s2 := []) (M2 := M_3) c_160 rfl).trans (t_i ?_ ?_)
        · skip
          refine (ev_ns c_160 1 (ip' := 53) (ls' := [some (.inr a0), some (.inl i1), some (.inl v_2)]) (st' := [.inr a0]) (M' := M_3) rfl).trans ?_
          refine (ev_g (h_k M_3 a0 = 8) (ip' := 54) (ls' := [some (.inr a0), some (.inl i1), some (.inl v_2)]) (st' := [.inr (h_r M_3 a0 15)]) (M' := M_3) c_160 rfl).trans (t_i ?_ rfl)
          refine (ev_ns c_160 1 (ip' := 55) (ls' := [some (.inr a0), some (.inl i1), some (.inl v_2)]) (st' := [.inl v_2, .inr (h_r M_3 a0 15)]) (M' := M_3) rfl).trans ?_
          refine (ev_g ((h_k M_3 (h_r M_3 a0 15) = 9 ∨ h_k M_3 (h_r M_3 a0 15) = 14) ∧ h_in v_2 (h_l M_3 (h_r M_3 a0 15))) (ip' := 56) (ls' := [some (.inr a0), some (.inl i1), some (.inl v_2)]) (st' := [.inl (h_i M_3 (h_r M_3 a0 15) (v_2).toNatClampNeg)]) (M' := M_3) c_160 rfl).trans (t_i ?_ rfl)
          exact ev_ns c_160 1 (ip' := 58) (ls' := [some (.inr a0), some (.inl i1), some (.inl v_2)]) (st' := [.inl (h_i M_3 (h_r M_3 a0 15) (v_2).toNatClampNeg)]) (M' := M_3) rfl
        · skip
          exact rfl
      · skip
        exact rfl
set_option maxRecDepth 20000 in
theorem e_160_31 (a0 : Nat) (i1 : Int32) (i2 : Int32) (M : mM) : ev 160 31 [some (.inr a0), some (.inl i1), some (.inl i2)] [] M = ev 160 32 [some (.inr a0), some (.inl i1), some (.inl i2)] [.inl (-2)] M := by
  exact ev_ns c_160 1 (ip' := 32) (ls' := [some (.inr a0), some (.inl i1), some (.inl i2)]) (st' := [.inl (-2)]) (M' := M) rfl
set_option maxRecDepth 20000 in
theorem e_160_32 (a0 : Nat) (i1 : Int32) (i2 : Int32) (s0 : Int32) (M : mM) : ev 160 32 [some (.inr a0), some (.inl i1), some (.inl i2)] [.inl s0] M = some (some (.inl s0), M) := by
  exact ev_d c_160 rfl
set_option maxRecDepth 20000 in
theorem e_160_57 (a0 : Nat) (i1 : Int32) (i2 : Int32) (M : mM) : ev 160 57 [some (.inr a0), some (.inl i1), some (.inl i2)] [] M = ev 160 58 [some (.inr a0), some (.inl i1), some (.inl i2)] [.inl (-2)] M := by
  exact ev_ns c_160 1 (ip' := 58) (ls' := [some (.inr a0), some (.inl i1), some (.inl i2)]) (st' := [.inl (-2)]) (M' := M) rfl
set_option maxRecDepth 20000 in
theorem e_160_58 (a0 : Nat) (i1 : Int32) (i2 : Int32) (s0 : Int32) (M : mM) : ev 160 58 [some (.inr a0), some (.inl i1), some (.inl i2)] [.inl s0] M = some (some (.inl s0), M) := by
  exact ev_d c_160 rfl
/- 161: GranuleHallModel.isRegister(I)Z -/
set_option maxRecDepth 20000 in
theorem e_161_0 (i0 : Int32) (M : mM) : ev 161 0 [some (.inl i0)] [] M = if i0 < 0 then (ev 161 7 [some (.inl i0)] [] M) else (if (8 : Int32) ≤ i0 then (ev 161 7 [some (.inl i0)] [] M) else (ev 161 8 [some (.inl i0)] [.inl 1] M)) := by
  refine (ev_ns c_161 1 (ip' := 1) (ls' := [some (.inl i0)]) (st' := [.inl i0]) (M' := M) rfl).trans ?_
  refine (ev_i (i0 < 0) (i1 := 7) (l1 := [some (.inl i0)]) (s1 := []) (M1 := M) (i2 := 2) (l2 := [some (.inl i0)]) (s2 := []) (M2 := M) c_161 rfl).trans (t_i ?_ ?_)
  · skip
    exact rfl
  · skip
    refine (ev_ns c_161 2 (ip' := 4) (ls' := [some (.inl i0)]) (st' := [.inl 8, .inl i0]) (M' := M) rfl).trans ?_
    refine (ev_i ((8 : Int32) ≤ i0) (i1 := 7) (l1 := [some (.inl i0)]) (s1 := []) (M1 := M) (i2 := 5) (l2 := [some (.inl i0)]) (s2 := []) (M2 := M) c_161 rfl).trans (t_i ?_ ?_)
    · skip
      exact rfl
    · skip
      exact ev_ns c_161 2 (ip' := 8) (ls' := [some (.inl i0)]) (st' := [.inl 1]) (M' := M) rfl
set_option maxRecDepth 20000 in
theorem e_161_7 (i0 : Int32) (M : mM) : ev 161 7 [some (.inl i0)] [] M = ev 161 8 [some (.inl i0)] [.inl 0] M := by
  exact ev_ns c_161 1 (ip' := 8) (ls' := [some (.inl i0)]) (st' := [.inl 0]) (M' := M) rfl
set_option maxRecDepth 20000 in
theorem e_161_8 (i0 : Int32) (s0 : Int32) (M : mM) : ev 161 8 [some (.inl i0)] [.inl s0] M = if s0 = 0 ∨ s0 = 1 then some (some (.inl s0), M) else none := by
  exact ev_gd (s0 = 0 ∨ s0 = 1) c_161 rfl
/- 162: GranuleHallModel.move(II)I -/
set_option maxRecDepth 20000 in
theorem e_162_0 (a0 : Nat) (i1 : Int32) (i2 : Int32) (M : mM) : ev 162 0 [some (.inr a0), some (.inl i1), some (.inl i2)] [] M = if (a_rec M 8 [.inr a0] = true ∧ ([] : List mV).length ≤ 8) then (c_I (ev 157 0 [some (.inr a0)] [] M) fun v_2 M_1 => if v_2 = 0 then (if (a_rec M_1 0 [.inl i1] = true ∧ ([] : List mV).length ≤ 8) then (c_I (ev 161 0 [some (.inl i1)] [] M_1) fun v_4 M_3 => if v_4 = 0 then (if (a_rec M_3 8 [.inr a0] = true ∧ ([] : List mV).length ≤ 8) then (c_I (ev 158 0 [some (.inr a0)] [] M_3) fun v_6 M_5 => some (some (.inl v_6), M_5)) else none) else (if h_k M_3 a0 = 8 then (if h_k M_3 a0 = 8 then (if h_k M_3 (h_r M_3 a0 19) = 9 ∧ h_in ((8 * (h_i M_3 a0 2)) + i1) (h_l M_3 (h_r M_3 a0 19)) then (some (some (.inl 0), h_si M_3 (h_r M_3 a0 19) (((8 * (h_i M_3 a0 2)) + i1)).toNatClampNeg i2)) else none) else none) else none)) else none) else (some (some (.inl (-1)), M_1))) else none := by
  refine (ev_ns c_162 1 (ip' := 1) (ls' := [some (.inr a0), some (.inl i1), some (.inl i2)]) (st' := [.inr a0]) (M' := M) rfl).trans ?_
  refine (ev_gI (a_rec M 8 [.inr a0] = true ∧ ([] : List mV).length ≤ 8) (as := [.inr a0]) (rr := []) c_162 c_157 rfl).trans (t_i (t_cI ?_) rfl)
  intro v_2 M_1
  refine (ev_i (v_2 = 0) (i1 := 5) (l1 := [some (.inr a0), some (.inl i1), some (.inl i2)]) (s1 := []) (M1 := M_1) (i2 := 3) (l2 := [some (.inr a0), some (.inl i1), some (.inl i2)]) (s2 := []) (M2 := M_1) c_162 rfl).trans (t_i ?_ ?_)
  · skip
    refine (ev_ns c_162 1 (ip' := 6) (ls' := [some (.inr a0), some (.inl i1), some (.inl i2)]) (st' := [.inl i1]) (M' := M_1) rfl).trans ?_
    refine (ev_gI (a_rec M_1 0 [.inl i1] = true ∧ ([] : List mV).length ≤ 8) (as := [.inl i1]) (rr := []) c_162 c_161 rfl).trans (t_i (t_cI ?_) rfl)
    intro v_4 M_3
    refine (ev_i (v_4 = 0) (i1 := 8) (l1 := [some (.inr a0), some (.inl i1), some (.inl i2)]) (s1 := []) (M1 := M_3) (i2 := 11) (l2 := [some (.inr a0), some (.inl i1), some (.inl i2)]) (s2 := []) (M2 := M_3) c_162 rfl).trans (t_i ?_ ?_)
    · skip
      refine (ev_ns c_162 1 (ip' := 9) (ls' := [some (.inr a0), some (.inl i1), some (.inl i2)]) (st' := [.inr a0]) (M' := M_3) rfl).trans ?_
      refine (ev_gI (a_rec M_3 8 [.inr a0] = true ∧ ([] : List mV).length ≤ 8) (as := [.inr a0]) (rr := []) c_162 c_158 rfl).trans (t_i (t_cI ?_) rfl)
      intro v_6 M_5
      exact ev_d c_162 rfl
    · skip
      refine (ev_ns c_162 1 (ip' := 12) (ls' := [some (.inr a0), some (.inl i1), some (.inl i2)]) (st' := [.inr a0]) (M' := M_3) rfl).trans ?_
      refine (ev_g (h_k M_3 a0 = 8) (ip' := 13) (ls' := [some (.inr a0), some (.inl i1), some (.inl i2)]) (st' := [.inr (h_r M_3 a0 19)]) (M' := M_3) c_162 rfl).trans (t_i ?_ rfl)
      refine (ev_ns c_162 2 (ip' := 15) (ls' := [some (.inr a0), some (.inl i1), some (.inl i2)]) (st' := [.inr a0, .inl 8, .inr (h_r M_3 a0 19)]) (M' := M_3) rfl).trans ?_
      refine (ev_g (h_k M_3 a0 = 8) (ip' := 16) (ls' := [some (.inr a0), some (.inl i1), some (.inl i2)]) (st' := [.inl (h_i M_3 a0 2), .inl 8, .inr (h_r M_3 a0 19)]) (M' := M_3) c_162 rfl).trans (t_i ?_ rfl)
      refine (ev_ns c_162 4 (ip' := 20) (ls' := [some (.inr a0), some (.inl i1), some (.inl i2)]) (st' := [.inl i2, .inl ((8 * (h_i M_3 a0 2)) + i1), .inr (h_r M_3 a0 19)]) (M' := M_3) rfl).trans ?_
      refine (ev_g (h_k M_3 (h_r M_3 a0 19) = 9 ∧ h_in ((8 * (h_i M_3 a0 2)) + i1) (h_l M_3 (h_r M_3 a0 19))) (ip' := 21) (ls' := [some (.inr a0), some (.inl i1), some (.inl i2)]) (st' := []) (M' := h_si M_3 (h_r M_3 a0 19) (((8 * (h_i M_3 a0 2)) + i1)).toNatClampNeg i2) c_162 rfl).trans (t_i ?_ rfl)
      refine (ev_ns c_162 1 (ip' := 22) (ls' := [some (.inr a0), some (.inl i1), some (.inl i2)]) (st' := [.inl 0]) (M' := h_si M_3 (h_r M_3 a0 19) (((8 * (h_i M_3 a0 2)) + i1)).toNatClampNeg i2) rfl).trans ?_
      exact ev_d c_162 rfl
  · skip
    refine (ev_ns c_162 1 (ip' := 4) (ls' := [some (.inr a0), some (.inl i1), some (.inl i2)]) (st' := [.inl (-1)]) (M' := M_1) rfl).trans ?_
    exact ev_d c_162 rfl
/- 163: GranuleHallModel.touch(IIIZ)I -/
set_option maxRecDepth 20000 in
theorem e_163_0 (a0 : Nat) (i1 : Int32) (i2 : Int32) (i3 : Int32) (i4 : Int32) (M : mM) : ev 163 0 [some (.inr a0), some (.inl i1), some (.inl i2), some (.inl i3), some (.inl i4), none] [] M = if (a_rec M 8 [.inr a0] = true ∧ ([] : List mV).length ≤ 8) then (c_I (ev 157 0 [some (.inr a0)] [] M) fun v_2 M_1 => if v_2 = 0 then (if (a_rec M_1 0 [.inl i1] = true ∧ ([] : List mV).length ≤ 8) then (c_I (ev 161 0 [some (.inl i1)] [] M_1) fun v_4 M_3 => if v_4 = 0 then (ev 163 16 [some (.inr a0), some (.inl i1), some (.inl i2), some (.inl i3), some (.inl i4), none] [] M_3) else (if (a_rec M_3 0 [.inl i2] = true ∧ ([] : List mV).length ≤ 8) then (c_I (ev 122 0 [some (.inl i2)] [] M_3) fun v_6 M_5 => if v_6 = 0 then (ev 163 16 [some (.inr a0), some (.inl i1), some (.inl i2), some (.inl i3), some (.inl i4), none] [] M_5) else (if i3 < 0 then (ev 163 16 [some (.inr a0), some (.inl i1), some (.inl i2), some (.inl i3), some (.inl i4), none] [] M_5) else (if i3 ≤ 31 then (if (a_rec M_5 8 [.inr a0, .inl i2] = true ∧ ([] : List mV).length ≤ 8) then (c_I (ev 160 0 [some (.inr a0), some (.inl i2), none] [] M_5) fun v_8 M_7 => if v_8 = (-1) then (if (a_rec M_7 8 [.inr a0] = true ∧ ([] : List mV).length ≤ 8) then (c_I (ev 158 0 [some (.inr a0)] [] M_7) fun v_10 M_9 => some (some (.inl v_10), M_9)) else none) else (if v_8 = (-2) then (if i4 = 0 then (ev 163 40 [some (.inr a0), some (.inl i1), some (.inl i2), some (.inl i3), some (.inl i4), some (.inl v_8)] [.inl 0, .inl i2, .inl 5, .inr a0] M_7) else (ev 163 40 [some (.inr a0), some (.inl i1), some (.inl i2), some (.inl i3), some (.inl i4), some (.inl v_8)] [.inl 1, .inl i2, .inl 5, .inr a0] M_7)) else (if i4 = 0 then (if h_k M_7 a0 = 8 then (if h_k M_7 a0 = 8 then (if h_k M_7 a0 = 8 then (if (h_k M_7 (h_r M_7 a0 6) = 9 ∨ h_k M_7 (h_r M_7 a0 6) = 14) ∧ h_in ((32 * v_8) + i3) (h_l M_7 (h_r M_7 a0 6)) then (if h_k M_7 (h_r M_7 a0 19) = 9 ∧ h_in ((8 * (h_i M_7 a0 2)) + i1) (h_l M_7 (h_r M_7 a0 19)) then (ev 163 80 [some (.inr a0), some (.inl i1), some (.inl i2), some (.inl i3), some (.inl i4), some (.inl v_8)] [] (h_si M_7 (h_r M_7 a0 19) (((8 * (h_i M_7 a0 2)) + i1)).toNatClampNeg (h_i M_7 (h_r M_7 a0 6) (((32 * v_8) + i3)).toNatClampNeg))) else none) else none) else none) else none) else none) else (if h_k M_7 a0 = 8 then (if h_k M_7 a0 = 8 then (if h_k M_7 a0 = 8 then (if (h_k M_7 (h_r M_7 a0 19) = 9 ∨ h_k M_7 (h_r M_7 a0 19) = 14) ∧ h_in ((8 * (h_i M_7 a0 2)) + i1) (h_l M_7 (h_r M_7 a0 19)) then (if h_k M_7 (h_r M_7 a0 6) = 9 ∧ h_in ((32 * v_8) + i3) (h_l M_7 (h_r M_7 a0 6)) then (ev 163 80 [some (.inr a0), some (.inl i1), some (.inl i2), some (.inl i3), some (.inl i4), some (.inl v_8)] [] (h_si M_7 (h_r M_7 a0 6) (((32 * v_8) + i3)).toNatClampNeg (h_i M_7 (h_r M_7 a0 19) (((8 * (h_i M_7 a0 2)) + i1)).toNatClampNeg))) else none) else none) else none) else none) else none)))) else none) else (ev 163 16 [some (.inr a0), some (.inl i1), some (.inl i2), some (.inl i3), some (.inl i4), none] [] M_5)))) else none)) else none) else (some (some (.inl (-1)), M_1))) else none := by
  refine (ev_ns c_163 1 (ip' := 1) (ls' := [some (.inr a0), some (.inl i1), some (.inl i2), some (.inl i3), some (.inl i4), none]) (st' := [.inr a0]) (M' := M) rfl).trans ?_
  refine (ev_gI (a_rec M 8 [.inr a0] = true ∧ ([] : List mV).length ≤ 8) (as := [.inr a0]) (rr := []) c_163 c_157 rfl).trans (t_i (t_cI ?_) rfl)
  intro v_2 M_1
  refine (ev_i (v_2 = 0) (i1 := 5) (l1 := [some (.inr a0), some (.inl i1), some (.inl i2), some (.inl i3), some (.inl i4), none]) (s1 := []) (M1 := M_1) (i2 := 3) (l2 := [some (.inr a0), some (.inl i1), some (.inl i2), some (.inl i3), some (.inl i4), none]) (s2 := []) (M2 := M_1) c_163 rfl).trans (t_i ?_ ?_)
  · skip
    refine (ev_ns c_163 1 (ip' := 6) (ls' := [some (.inr a0), some (.inl i1), some (.inl i2), some (.inl i3), some (.inl i4), none]) (st' := [.inl i1]) (M' := M_1) rfl).trans ?_
    refine (ev_gI (a_rec M_1 0 [.inl i1] = true ∧ ([] : List mV).length ≤ 8) (as := [.inl i1]) (rr := []) c_163 c_161 rfl).trans (t_i (t_cI ?_) rfl)
    intro v_4 M_3
    refine (ev_i (v_4 = 0) (i1 := 16) (l1 := [some (.inr a0), some (.inl i1), some (.inl i2), some (.inl i3), some (.inl i4), none]) (s1 := []) (M1 := M_3) (i2 := 8) (l2 := [some (.inr a0), some (.inl i1), some (.inl i2), some (.inl i3), some (.inl i4), none]) (s2 := []) (M2 := M_3) c_163 rfl).trans (t_i ?_ ?_)
    · skip
      exact rfl
    · skip
      refine (ev_ns c_163 1 (ip' := 9) (ls' := [some (.inr a0), some (.inl i1), some (.inl i2), some (.inl i3), some (.inl i4), none]) (st' := [.inl i2]) (M' := M_3) rfl).trans ?_
      refine (ev_gI (a_rec M_3 0 [.inl i2] = true ∧ ([] : List mV).length ≤ 8) (as := [.inl i2]) (rr := []) c_163 c_122 rfl).trans (t_i (t_cI ?_) rfl)
      intro v_6 M_5
      refine (ev_i (v_6 = 0) (i1 := 16) (l1 := [some (.inr a0), some (.inl i1), some (.inl i2), some (.inl i3), some (.inl i4), none]) (s1 := []) (M1 := M_5) (i2 := 11) (l2 := [some (.inr a0), some (.inl i1), some (.inl i2), some (.inl i3), some (.inl i4), none]) (s2 := []) (M2 := M_5) c_163 rfl).trans (t_i ?_ ?_)
      · skip
        exact rfl
      · skip
        refine (ev_ns c_163 1 (ip' := 12) (ls' := [some (.inr a0), some (.inl i1), some (.inl i2), some (.inl i3), some (.inl i4), none]) (st' := [.inl i3]) (M' := M_5) rfl).trans ?_
        refine (ev_i (i3 < 0) (i1 := 16) (l1 := [some (.inr a0), some (.inl i1), some (.inl i2), some (.inl i3), some (.inl i4), none]) (s1 := []) (M1 := M_5) (i2 := 13) (l2 := [some (.inr a0), some (.inl i1), some (.inl i2), some (.inl i3), some (.inl i4), none]) (s2 := []) (M2 := M_5) c_163 rfl).trans (t_i ?_ ?_)
        · skip
          exact rfl
        · skip
          refine (ev_ns c_163 2 (ip' := 15) (ls' := [some (.inr a0), some (.inl i1), some (.inl i2), some (.inl i3), some (.inl i4), none]) (st' := [.inl 31, .inl i3]) (M' := M_5) rfl).trans ?_
          refine (ev_i (i3 ≤ 31) (i1 := 19) (l1 := [some (.inr a0), some (.inl i1), some (.inl i2), some (.inl i3), some (.inl i4), none]) (s1 := []) (M1 := M_5) (i2 := 16) (l2 := [some (.inr a0), some (.inl i1), some (.inl i2), some (.inl i3), some (.inl i4), none]) (s2 := []) (M2 := M_5) c_163 rfl).trans (t_i ?_ ?_)
          · skip
            refine (ev_ns c_163 2 (ip' := 21) (ls' := [some (.inr a0), some (.inl i1), some (.inl i2), some (.inl i3), some (.inl i4), none]) (st' := [.inl i2, .inr a0]) (M' := M_5) rfl).trans ?_
            refine (ev_gI (a_rec M_5 8 [.inr a0, .inl i2] = true ∧ ([] : List mV).length ≤ 8) (as := [.inr a0, .inl i2]) (rr := []) c_163 c_160 rfl).trans (t_i (t_cI ?_) rfl)
            intro v_8 M_7
            refine (ev_ns c_163 3 (ip' := 25) (ls' := [some (.inr a0), some (.inl i1), some (.inl i2), some (.inl i3), some (.inl i4), some (.inl v_8)]) (st' := [.inl (-1), .inl v_8]) (M' := M_7) rfl).trans ?_
            refine (ev_i (v_8 = (-1)) (i1 := 26) (l1 := [some (.inr a0), some (.inl i1), some (.inl i2), some (.inl i3), some (.inl i4), some (.inl v_8)]) (s1 := []) (M1 := M_7) (i2 := 29) (l2 := [some (.inr a0), some (.inl i1), some (.inl i2), some (.inl i3), some (.inl i4), some (.inl v_8)]) (s2 := []) (M2 := M_7) c_163 rfl).trans (t_i ?_ ?_)
            · skip
              refine (ev_ns c_163 1 (ip' := 27) (ls' := [some (.inr a0), some (.inl i1), some (.inl i2), some (.inl i3), some (.inl i4), some (.inl v_8)]) (st' := [.inr a0]) (M' := M_7) rfl).trans ?_
              refine (ev_gI (a_rec M_7 8 [.inr a0] = true ∧ ([] : List mV).length ≤ 8) (as := [.inr a0]) (rr := []) c_163 c_158 rfl).trans (t_i (t_cI ?_) rfl)
              intro v_10 M_9
              exact ev_d c_163 rfl
            · skip
              refine (ev_ns c_163 2 (ip' := 31) (ls' := [some (.inr a0), some (.inl i1), some (.inl i2), some (.inl i3), some (.inl i4), some (.inl v_8)]) (st' := [.inl (-2), .inl v_8]) (M' := M_7) rfl).trans ?_
              refine (ev_i (v_8 = (-2)) (i1 := 32) (l1 := [some (.inr a0), some (.inl i1), some (.inl i2), some (.inl i3), some (.inl i4), some (.inl v_8)]) (s1 := []) (M1 := M_7) (i2 := 43) (l2 := [some (.inr a0), some (.inl i1), some (.inl i2), some (.inl i3), some (.inl i4), some (.inl v_8)]) (s2 := []) (M2 := M_7) c_163 rfl).trans (t_i ?_ ?_)
              · skip
                refine (ev_ns c_163 4 (ip' := 36) (ls' := [some (.inr a0), some (.inl i1), some (.inl i2), some (.inl i3), some (.inl i4), some (.inl v_8)]) (st' := [.inl i4, .inl i2, .inl 5, .inr a0]) (M' := M_7) rfl).trans ?_
                refine (ev_i (i4 = 0) (i1 := 39) (l1 := [some (.inr a0), some (.inl i1), some (.inl i2), some (.inl i3), some (.inl i4), some (.inl v_8)]) (s1 := [.inl i2, .inl 5, .inr a0]) (M1 := M_7) (i2 := 37) (l2 := [some (.inr a0), some (.inl i1), some (.inl i2), some (.inl i3), some (.inl i4), some (.inl v_8)]) (s2 := [.inl i2, .inl 5, .inr a0]) (M2 := M_7) c_163 rfl).trans (t_i ?_ ?_)
                · skip
                  exact ev_ns c_163 1 (ip' := 40) (ls' := [some (.inr a0), some (.inl i1), some (.inl i2), some (.inl i3), some (.inl i4), some (.inl v_8)]) (st' := [.inl 0, .inl i2, .inl 5, .inr a0]) (M' := M_7) rfl
                · skip
                  exact ev_ns c_163 2 (ip' := 40) (ls' := [some (.inr a0), some (.inl i1), some (.inl i2), some (.inl i3), some (.inl i4), some (.inl v_8)]) (st' := [.inl 1, .inl i2, .inl 5, .inr a0]) (M' := M_7) rfl
              · skip
                refine (ev_ns c_163 1 (ip' := 44) (ls' := [some (.inr a0), some (.inl i1), some (.inl i2), some (.inl i3), some (.inl i4), some (.inl v_8)]) (st' := [.inl i4]) (M' := M_7) rfl).trans ?_
                refine (ev_i (i4 = 0) (i1 := 63) (l1 := [some (.inr a0), some (.inl i1), some (.inl i2), some (.inl i3), some (.inl i4), some (.inl v_8)]) (s1 := []) (M1 := M_7) (i2 := 45) (l2 := [some (.inr a0), some (.inl i1), some (.inl i2), some (.inl i3), some (.inl i4), some (.inl v_8)]) (s2 := []) (M2 := M_7) c_163 rfl).trans (t_i ?_ ?_)
                · skip
                  refine (ev_ns c_163 1 (ip' := 64) (ls' := [some (.inr a0), some (.inl i1), some (.inl i2), some (.inl i3), some (.inl i4), some (.inl v_8)]) (st' := [.inr a0]) (M' := M_7) rfl).trans ?_
                  refine (ev_g (h_k M_7 a0 = 8) (ip' := 65) (ls' := [some (.inr a0), some (.inl i1), some (.inl i2), some (.inl i3), some (.inl i4), some (.inl v_8)]) (st' := [.inr (h_r M_7 a0 19)]) (M' := M_7) c_163 rfl).trans (t_i ?_ rfl)
                  refine (ev_ns c_163 2 (ip' := 67) (ls' := [some (.inr a0), some (.inl i1), some (.inl i2), some (.inl i3), some (.inl i4), some (.inl v_8)]) (st' := [.inr a0, .inl 8, .inr (h_r M_7 a0 19)]) (M' := M_7) rfl).trans ?_
                  refine (ev_g (h_k M_7 a0 = 8) (ip' := 68) (ls' := [some (.inr a0), some (.inl i1), some (.inl i2), some (.inl i3), some (.inl i4), some (.inl v_8)]) (st' := [.inl (h_i M_7 a0 2), .inl 8, .inr (h_r M_7 a0 19)]) (M' := M_7) c_163 rfl).trans (t_i ?_ rfl)
                  refine (ev_ns c_163 4 (ip' := 72) (ls' := [some (.inr a0), some (.inl i1), some (.inl i2), some (.inl i3), some (.inl i4), some (.inl v_8)]) (st' := [.inr a0, .inl ((8 * (h_i M_7 a0 2)) + i1), .inr (h_r M_7 a0 19)]) (M' := M_7) rfl).trans ?_
                  refine (ev_g (h_k M_7 a0 = 8) (ip' := 73) (ls' := [some (.inr a0), some (.inl i1), some (.inl i2), some (.inl i3), some (.inl i4), some (.inl v_8)]) (st' := [.inr (h_r M_7 a0 6), .inl ((8 * (h_i M_7 a0 2)) + i1), .inr (h_r M_7 a0 19)]) (M' := M_7) c_163 rfl).trans (t_i ?_ rfl)
                  refine (ev_ns c_163 5 (ip' := 78) (ls' := [some (.inr a0), some (.inl i1), some (.inl i2), some (.inl i3), some (.inl i4), some (.inl v_8)]) (st' := [.inl ((32 * v_8) + i3), .inr (h_r M_7 a0 6), .inl ((8 * (h_i M_7 a0 2)) + i1), .inr (h_r M_7 a0 19)]) (M' := M_7) rfl).trans ?_
                  refine (ev_g ((h_k M_7 (h_r M_7 a0 6) = 9 ∨ h_k M_7 (h_r M_7 a0 6) = 14) ∧ h_in ((32 * v_8) + i3) (h_l M_7 (h_r M_7 a0 6))) (ip' := 79) (ls' := [some (.inr a0), some (.inl i1), some (.inl i2), some (.inl i3), some (.inl i4), some (.inl v_8)]) (st' := [.inl (h_i M_7 (h_r M_7 a0 6) (((32 * v_8) + i3)).toNatClampNeg), .inl ((8 * (h_i M_7 a0 2)) + i1), .inr (h_r M_7 a0 19)]) (M' := M_7) c_163 rfl).trans (t_i ?_ rfl)
                  refine (ev_g (h_k M_7 (h_r M_7 a0 19) = 9 ∧ h_in ((8 * (h_i M_7 a0 2)) + i1) (h_l M_7 (h_r M_7 a0 19))) (ip' := 80) (ls' := [some (.inr a0), some (.inl i1), some (.inl i2), some (.inl i3), some (.inl i4), some (.inl v_8)]) (st' := []) (M' := h_si M_7 (h_r M_7 a0 19) (((8 * (h_i M_7 a0 2)) + i1)).toNatClampNeg (h_i M_7 (h_r M_7 a0 6) (((32 * v_8) + i3)).toNatClampNeg)) c_163 rfl).trans (t_i ?_ rfl)
                  exact rfl
                · skip
                  refine (ev_ns c_163 1 (ip' := 46) (ls' := [some (.inr a0), some (.inl i1), some (.inl i2), some (.inl i3), some (.inl i4), some (.inl v_8)]) (st' := [.inr a0]) (M' := M_7) rfl).trans ?_
                  refine (ev_g (h_k M_7 a0 = 8) (ip' := 47) (ls' := [some (.inr a0), some (.inl i1), some (.inl i2), some (.inl i3), some (.inl i4), some (.inl v_8)]) (st' := [.inr (h_r M_7 a0 6)]) (M' := M_7) c_163 rfl).trans (t_i ?_ rfl)
                  refine (ev_ns c_163 6 (ip' := 53) (ls' := [some (.inr a0), some (.inl i1), some (.inl i2), some (.inl i3), some (.inl i4), some (.inl v_8)]) (st' := [.inr a0, .inl ((32 * v_8) + i3), .inr (h_r M_7 a0 6)]) (M' := M_7) rfl).trans ?_
                  refine (ev_g (h_k M_7 a0 = 8) (ip' := 54) (ls' := [some (.inr a0), some (.inl i1), some (.inl i2), some (.inl i3), some (.inl i4), some (.inl v_8)]) (st' := [.inr (h_r M_7 a0 19), .inl ((32 * v_8) + i3), .inr (h_r M_7 a0 6)]) (M' := M_7) c_163 rfl).trans (t_i ?_ rfl)
                  refine (ev_ns c_163 2 (ip' := 56) (ls' := [some (.inr a0), some (.inl i1), some (.inl i2), some (.inl i3), some (.inl i4), some (.inl v_8)]) (st' := [.inr a0, .inl 8, .inr (h_r M_7 a0 19), .inl ((32 * v_8) + i3), .inr (h_r M_7 a0 6)]) (M' := M_7) rfl).trans ?_
                  refine (ev_g (h_k M_7 a0 = 8) (ip' := 57) (ls' := [some (.inr a0), some (.inl i1), some (.inl i2), some (.inl i3), some (.inl i4), some (.inl v_8)]) (st' := [.inl (h_i M_7 a0 2), .inl 8, .inr (h_r M_7 a0 19), .inl ((32 * v_8) + i3), .inr (h_r M_7 a0 6)]) (M' := M_7) c_163 rfl).trans (t_i ?_ rfl)
                  refine (ev_ns c_163 3 (ip' := 60) (ls' := [some (.inr a0), some (.inl i1), some (.inl i2), some (.inl i3), some (.inl i4), some (.inl v_8)]) (st' := [.inl ((8 * (h_i M_7 a0 2)) + i1), .inr (h_r M_7 a0 19), .inl ((32 * v_8) + i3), .inr (h_r M_7 a0 6)]) (M' := M_7) rfl).trans ?_
                  refine (ev_g ((h_k M_7 (h_r M_7 a0 19) = 9 ∨ h_k M_7 (h_r M_7 a0 19) = 14) ∧ h_in ((8 * (h_i M_7 a0 2)) + i1) (h_l M_7 (h_r M_7 a0 19))) (ip' := 61) (ls' := [some (.inr a0), some (.inl i1), some (.inl i2), some (.inl i3), some (.inl i4), some (.inl v_8)]) (st' := [.inl (h_i M_7 (h_r M_7 a0 19) (((8 * (h_i M_7 a0 2)) + i1)).toNatClampNeg), .inl ((32 * v_8) + i3), .inr (h_r M_7 a0 6)]) (M' := M_7) c_163 rfl).trans (t_i ?_ rfl)
                  refine (ev_g (h_k M_7 (h_r M_7 a0 6) = 9 ∧ h_in ((32 * v_8) + i3) (h_l M_7 (h_r M_7 a0 6))) (ip' := 62) (ls' := [some (.inr a0), some (.inl i1), some (.inl i2), some (.inl i3), some (.inl i4), some (.inl v_8)]) (st' := []) (M' := h_si M_7 (h_r M_7 a0 6) (((32 * v_8) + i3)).toNatClampNeg (h_i M_7 (h_r M_7 a0 19) (((8 * (h_i M_7 a0 2)) + i1)).toNatClampNeg)) c_163 rfl).trans (t_i ?_ rfl)
                  exact ev_ns c_163 1 (ip' := 80) (ls' := [some (.inr a0), some (.inl i1), some (.inl i2), some (.inl i3), some (.inl i4), some (.inl v_8)]) (st' := []) (M' := h_si M_7 (h_r M_7 a0 6) (((32 * v_8) + i3)).toNatClampNeg (h_i M_7 (h_r M_7 a0 19) (((8 * (h_i M_7 a0 2)) + i1)).toNatClampNeg)) rfl
          · skip
            exact rfl
  · skip
    refine (ev_ns c_163 1 (ip' := 4) (ls' := [some (.inr a0), some (.inl i1), some (.inl i2), some (.inl i3), some (.inl i4), none]) (st' := [.inl (-1)]) (M' := M_1) rfl).trans ?_
    exact ev_d c_163 rfl
set_option maxRecDepth 20000 in
theorem e_163_16 (a0 : Nat) (i1 : Int32) (i2 : Int32) (i3 : Int32) (i4 : Int32) (M : mM) : ev 163 16 [some (.inr a0), some (.inl i1), some (.inl i2), some (.inl i3), some (.inl i4), none] [] M = if (a_rec M 8 [.inr a0] = true ∧ ([] : List mV).length ≤ 8) then (c_I (ev 158 0 [some (.inr a0)] [] M) fun v_2 M_1 => some (some (.inl v_2), M_1)) else none := by
  refine (ev_ns c_163 1 (ip' := 17) (ls' := [some (.inr a0), some (.inl i1), some (.inl i2), some (.inl i3), some (.inl i4), none]) (st' := [.inr a0]) (M' := M) rfl).trans ?_
  refine (ev_gI (a_rec M 8 [.inr a0] = true ∧ ([] : List mV).length ≤ 8) (as := [.inr a0]) (rr := []) c_163 c_158 rfl).trans (t_i (t_cI ?_) rfl)
  intro v_2 M_1
  exact ev_d c_163 rfl
set_option maxRecDepth 20000 in
theorem e_163_40 (a0 : Nat) (i1 : Int32) (i2 : Int32) (i3 : Int32) (i4 : Int32) (i5 : Int32) (t0 : Nat) (s1 : Int32) (s2 : Int32) (s3 : Int32) (M : mM) : ev 163 40 [some (.inr a0), some (.inl i1), some (.inl i2), some (.inl i3), some (.inl i4), some (.inl i5)] [.inl s3, .inl s2, .inl s1, .inr t0] M = if (a_rec M 8 [.inr t0, .inl s1, .inl s2, .inl s3, .inl 0] = true ∧ ([] : List mV).length ≤ 8) then (c_I (ev 159 0 [some (.inr t0), some (.inl s1), some (.inl s2), some (.inl s3), some (.inl 0), none, none] [] M) fun v_2 M_1 => some (some (.inl v_2), M_1)) else none := by
  refine (ev_ns c_163 1 (ip' := 41) (ls' := [some (.inr a0), some (.inl i1), some (.inl i2), some (.inl i3), some (.inl i4), some (.inl i5)]) (st' := [.inl 0, .inl s3, .inl s2, .inl s1, .inr t0]) (M' := M) rfl).trans ?_
  refine (ev_gI (a_rec M 8 [.inr t0, .inl s1, .inl s2, .inl s3, .inl 0] = true ∧ ([] : List mV).length ≤ 8) (as := [.inr t0, .inl s1, .inl s2, .inl s3, .inl 0]) (rr := []) c_163 c_159 rfl).trans (t_i (t_cI ?_) rfl)
  intro v_2 M_1
  exact ev_d c_163 rfl
set_option maxRecDepth 20000 in
theorem e_163_80 (a0 : Nat) (i1 : Int32) (i2 : Int32) (i3 : Int32) (i4 : Int32) (i5 : Int32) (M : mM) : ev 163 80 [some (.inr a0), some (.inl i1), some (.inl i2), some (.inl i3), some (.inl i4), some (.inl i5)] [] M = some (some (.inl 0), M) := by
  refine (ev_ns c_163 1 (ip' := 81) (ls' := [some (.inr a0), some (.inl i1), some (.inl i2), some (.inl i3), some (.inl i4), some (.inl i5)]) (st' := [.inl 0]) (M' := M) rfl).trans ?_
  exact ev_d c_163 rfl
/- 164: GranuleHallModel.fetch(III)I -/
set_option maxRecDepth 20000 in
theorem e_164_0 (a0 : Nat) (i1 : Int32) (i2 : Int32) (i3 : Int32) (M : mM) : ev 164 0 [some (.inr a0), some (.inl i1), some (.inl i2), some (.inl i3)] [] M = if (a_rec M 8 [.inr a0, .inl i1, .inl i2, .inl i3, .inl 0] = true ∧ ([] : List mV).length ≤ 8) then (c_I (ev 163 0 [some (.inr a0), some (.inl i1), some (.inl i2), some (.inl i3), some (.inl 0), none] [] M) fun v_2 M_1 => some (some (.inl v_2), M_1)) else none := by
  refine (ev_ns c_164 5 (ip' := 5) (ls' := [some (.inr a0), some (.inl i1), some (.inl i2), some (.inl i3)]) (st' := [.inl 0, .inl i3, .inl i2, .inl i1, .inr a0]) (M' := M) rfl).trans ?_
  refine (ev_gI (a_rec M 8 [.inr a0, .inl i1, .inl i2, .inl i3, .inl 0] = true ∧ ([] : List mV).length ≤ 8) (as := [.inr a0, .inl i1, .inl i2, .inl i3, .inl 0]) (rr := []) c_164 c_163 rfl).trans (t_i (t_cI ?_) rfl)
  intro v_2 M_1
  exact ev_d c_164 rfl
/- 165: GranuleHallModel.put(III)I -/
set_option maxRecDepth 20000 in
theorem e_165_0 (a0 : Nat) (i1 : Int32) (i2 : Int32) (i3 : Int32) (M : mM) : ev 165 0 [some (.inr a0), some (.inl i1), some (.inl i2), some (.inl i3)] [] M = if (a_rec M 8 [.inr a0, .inl i1, .inl i2, .inl i3, .inl 1] = true ∧ ([] : List mV).length ≤ 8) then (c_I (ev 163 0 [some (.inr a0), some (.inl i1), some (.inl i2), some (.inl i3), some (.inl 1), none] [] M) fun v_2 M_1 => some (some (.inl v_2), M_1)) else none := by
  refine (ev_ns c_165 5 (ip' := 5) (ls' := [some (.inr a0), some (.inl i1), some (.inl i2), some (.inl i3)]) (st' := [.inl 1, .inl i3, .inl i2, .inl i1, .inr a0]) (M' := M) rfl).trans ?_
  refine (ev_gI (a_rec M 8 [.inr a0, .inl i1, .inl i2, .inl i3, .inl 1] = true ∧ ([] : List mV).length ≤ 8) (as := [.inr a0, .inl i1, .inl i2, .inl i3, .inl 1]) (rr := []) c_165 c_163 rfl).trans (t_i (t_cI ?_) rfl)
  intro v_2 M_1
  exact ev_d c_165 rfl
/- 166: GranuleHallModel.yield1()I -/
set_option maxRecDepth 20000 in
theorem e_166_0 (a0 : Nat) (M : mM) : ev 166 0 [some (.inr a0)] [] M = if (a_rec M 8 [.inr a0] = true ∧ ([] : List mV).length ≤ 8) then (c_I (ev 157 0 [some (.inr a0)] [] M) fun v_2 M_1 => if v_2 = 0 then (if (a_rec M_1 8 [.inr a0, .inl 1, .inl 0, .inl 0, .inl 0] = true ∧ ([] : List mV).length ≤ 8) then (c_I (ev 159 0 [some (.inr a0), some (.inl 1), some (.inl 0), some (.inl 0), some (.inl 0), none, none] [] M_1) fun v_4 M_3 => ev 166 11 [some (.inr a0)] [.inl v_4] M_3) else none) else (ev 166 11 [some (.inr a0)] [.inl (-1)] M_1)) else none := by
  refine (ev_ns c_166 1 (ip' := 1) (ls' := [some (.inr a0)]) (st' := [.inr a0]) (M' := M) rfl).trans ?_
  refine (ev_gI (a_rec M 8 [.inr a0] = true ∧ ([] : List mV).length ≤ 8) (as := [.inr a0]) (rr := []) c_166 c_157 rfl).trans (t_i (t_cI ?_) rfl)
  intro v_2 M_1
  refine (ev_i (v_2 = 0) (i1 := 5) (l1 := [some (.inr a0)]) (s1 := []) (M1 := M_1) (i2 := 3) (l2 := [some (.inr a0)]) (s2 := []) (M2 := M_1) c_166 rfl).trans (t_i ?_ ?_)
  · skip
    refine (ev_ns c_166 5 (ip' := 10) (ls' := [some (.inr a0)]) (st' := [.inl 0, .inl 0, .inl 0, .inl 1, .inr a0]) (M' := M_1) rfl).trans ?_
    refine (ev_gI (a_rec M_1 8 [.inr a0, .inl 1, .inl 0, .inl 0, .inl 0] = true ∧ ([] : List mV).length ≤ 8) (as := [.inr a0, .inl 1, .inl 0, .inl 0, .inl 0]) (rr := []) c_166 c_159 rfl).trans (t_i (t_cI ?_) rfl)
    intro v_4 M_3
    exact rfl
  · skip
    exact ev_ns c_166 2 (ip' := 11) (ls' := [some (.inr a0)]) (st' := [.inl (-1)]) (M' := M_1) rfl
set_option maxRecDepth 20000 in
theorem e_166_11 (a0 : Nat) (s0 : Int32) (M : mM) : ev 166 11 [some (.inr a0)] [.inl s0] M = some (some (.inl s0), M) := by
  exact ev_d c_166 rfl
/- 167: GranuleHallModel.off()I -/
set_option maxRecDepth 20000 in
theorem e_167_0 (a0 : Nat) (M : mM) : ev 167 0 [some (.inr a0)] [] M = if (a_rec M 8 [.inr a0] = true ∧ ([] : List mV).length ≤ 8) then (c_I (ev 157 0 [some (.inr a0)] [] M) fun v_2 M_1 => if v_2 = 0 then (if h_k M_1 a0 = 8 then (if h_k M_1 a0 = 8 then (if h_k M_1 a0 = 8 then (if (h_k M_1 (h_r M_1 a0 7) = 9 ∨ h_k M_1 (h_r M_1 a0 7) = 14) ∧ h_in (h_i M_1 a0 2) (h_l M_1 (h_r M_1 a0 7)) then (if h_k M_1 (h_r M_1 a0 8) = 9 ∧ h_in (h_i M_1 (h_r M_1 a0 7) ((h_i M_1 a0 2)).toNatClampNeg) (h_l M_1 (h_r M_1 a0 8)) then (if (a_rec (h_si M_1 (h_r M_1 a0 8) ((h_i M_1 (h_r M_1 a0 7) ((h_i M_1 a0 2)).toNatClampNeg)).toNatClampNeg 2) 8 [.inr a0, .inl 4, .inl 0, .inl 0, .inl 0] = true ∧ ([] : List mV).length ≤ 8) then (c_I (ev 159 0 [some (.inr a0), some (.inl 4), some (.inl 0), some (.inl 0), some (.inl 0), none, none] [] (h_si M_1 (h_r M_1 a0 8) ((h_i M_1 (h_r M_1 a0 7) ((h_i M_1 a0 2)).toNatClampNeg)).toNatClampNeg 2)) fun v_4 M_3 => some (some (.inl v_4), M_3)) else none) else none) else none) else none) else none) else none) else (some (some (.inl (-1)), M_1))) else none := by
  refine (ev_ns c_167 1 (ip' := 1) (ls' := [some (.inr a0)]) (st' := [.inr a0]) (M' := M) rfl).trans ?_
  refine (ev_gI (a_rec M 8 [.inr a0] = true ∧ ([] : List mV).length ≤ 8) (as := [.inr a0]) (rr := []) c_167 c_157 rfl).trans (t_i (t_cI ?_) rfl)
  intro v_2 M_1
  refine (ev_i (v_2 = 0) (i1 := 5) (l1 := [some (.inr a0)]) (s1 := []) (M1 := M_1) (i2 := 3) (l2 := [some (.inr a0)]) (s2 := []) (M2 := M_1) c_167 rfl).trans (t_i ?_ ?_)
  · skip
    refine (ev_ns c_167 1 (ip' := 6) (ls' := [some (.inr a0)]) (st' := [.inr a0]) (M' := M_1) rfl).trans ?_
    refine (ev_g (h_k M_1 a0 = 8) (ip' := 7) (ls' := [some (.inr a0)]) (st' := [.inr (h_r M_1 a0 8)]) (M' := M_1) c_167 rfl).trans (t_i ?_ rfl)
    refine (ev_ns c_167 1 (ip' := 8) (ls' := [some (.inr a0)]) (st' := [.inr a0, .inr (h_r M_1 a0 8)]) (M' := M_1) rfl).trans ?_
    refine (ev_g (h_k M_1 a0 = 8) (ip' := 9) (ls' := [some (.inr a0)]) (st' := [.inr (h_r M_1 a0 7), .inr (h_r M_1 a0 8)]) (M' := M_1) c_167 rfl).trans (t_i ?_ rfl)
    refine (ev_ns c_167 1 (ip' := 10) (ls' := [some (.inr a0)]) (st' := [.inr a0, .inr (h_r M_1 a0 7), .inr (h_r M_1 a0 8)]) (M' := M_1) rfl).trans ?_
    refine (ev_g (h_k M_1 a0 = 8) (ip' := 11) (ls' := [some (.inr a0)]) (st' := [.inl (h_i M_1 a0 2), .inr (h_r M_1 a0 7), .inr (h_r M_1 a0 8)]) (M' := M_1) c_167 rfl).trans (t_i ?_ rfl)
    refine (ev_g ((h_k M_1 (h_r M_1 a0 7) = 9 ∨ h_k M_1 (h_r M_1 a0 7) = 14) ∧ h_in (h_i M_1 a0 2) (h_l M_1 (h_r M_1 a0 7))) (ip' := 12) (ls' := [some (.inr a0)]) (st' := [.inl (h_i M_1 (h_r M_1 a0 7) ((h_i M_1 a0 2)).toNatClampNeg), .inr (h_r M_1 a0 8)]) (M' := M_1) c_167 rfl).trans (t_i ?_ rfl)
    refine (ev_ns c_167 1 (ip' := 13) (ls' := [some (.inr a0)]) (st' := [.inl 2, .inl (h_i M_1 (h_r M_1 a0 7) ((h_i M_1 a0 2)).toNatClampNeg), .inr (h_r M_1 a0 8)]) (M' := M_1) rfl).trans ?_
    refine (ev_g (h_k M_1 (h_r M_1 a0 8) = 9 ∧ h_in (h_i M_1 (h_r M_1 a0 7) ((h_i M_1 a0 2)).toNatClampNeg) (h_l M_1 (h_r M_1 a0 8))) (ip' := 14) (ls' := [some (.inr a0)]) (st' := []) (M' := h_si M_1 (h_r M_1 a0 8) ((h_i M_1 (h_r M_1 a0 7) ((h_i M_1 a0 2)).toNatClampNeg)).toNatClampNeg 2) c_167 rfl).trans (t_i ?_ rfl)
    refine (ev_ns c_167 5 (ip' := 19) (ls' := [some (.inr a0)]) (st' := [.inl 0, .inl 0, .inl 0, .inl 4, .inr a0]) (M' := h_si M_1 (h_r M_1 a0 8) ((h_i M_1 (h_r M_1 a0 7) ((h_i M_1 a0 2)).toNatClampNeg)).toNatClampNeg 2) rfl).trans ?_
    refine (ev_gI (a_rec (h_si M_1 (h_r M_1 a0 8) ((h_i M_1 (h_r M_1 a0 7) ((h_i M_1 a0 2)).toNatClampNeg)).toNatClampNeg 2) 8 [.inr a0, .inl 4, .inl 0, .inl 0, .inl 0] = true ∧ ([] : List mV).length ≤ 8) (as := [.inr a0, .inl 4, .inl 0, .inl 0, .inl 0]) (rr := []) c_167 c_159 rfl).trans (t_i (t_cI ?_) rfl)
    intro v_4 M_3
    exact ev_d c_167 rfl
  · skip
    refine (ev_ns c_167 1 (ip' := 4) (ls' := [some (.inr a0)]) (st' := [.inl (-1)]) (M' := M_1) rfl).trans ?_
    exact ev_d c_167 rfl
/- 168: GranuleHallModel.state(I)I -/
set_option maxRecDepth 20000 in
theorem e_168_0 (a0 : Nat) (i1 : Int32) (M : mM) : ev 168 0 [some (.inr a0), some (.inl i1)] [] M = if (a_rec M 8 [.inr a0] = true ∧ ([] : List mV).length ≤ 8) then (c_I (ev 157 0 [some (.inr a0)] [] M) fun v_2 M_1 => if v_2 = 0 then (if (a_rec M_1 0 [.inl i1] = true ∧ ([] : List mV).length ≤ 8) then (c_I (ev 123 0 [some (.inl i1)] [] M_1) fun v_4 M_3 => if v_4 = 0 then (if (a_rec M_3 8 [.inr a0] = true ∧ ([] : List mV).length ≤ 8) then (c_I (ev 158 0 [some (.inr a0)] [] M_3) fun v_6 M_5 => some (some (.inl v_6), M_5)) else none) else (if h_k M_3 a0 = 8 then (if h_k M_3 a0 = 8 then (if h_k M_3 a0 = 8 then (if h_k M_3 a0 = 8 then (if h_k M_3 a0 = 8 then (if (h_k M_3 (h_r M_3 a0 7) = 9 ∨ h_k M_3 (h_r M_3 a0 7) = 14) ∧ h_in (h_i M_3 a0 2) (h_l M_3 (h_r M_3 a0 7)) then (if (a_rec M_3 8 [.inr a0, .inl (h_i M_3 (h_r M_3 a0 7) ((h_i M_3 a0 2)).toNatClampNeg), .inl i1] = true ∧ ([.inr (h_r M_3 a0 16), .inl (8 * (h_i M_3 a0 2)), .inr (h_r M_3 a0 19)] : List mV).length ≤ 8) then (c_I (ev 119 0 [some (.inr a0), some (.inl (h_i M_3 (h_r M_3 a0 7) ((h_i M_3 a0 2)).toNatClampNeg)), some (.inl i1)] [] M_3) fun v_8 M_7 => if (h_k M_7 (h_r M_3 a0 16) = 9 ∨ h_k M_7 (h_r M_3 a0 16) = 14) ∧ h_in v_8 (h_l M_7 (h_r M_3 a0 16)) then (if h_k M_7 (h_r M_3 a0 19) = 9 ∧ h_in (8 * (h_i M_3 a0 2)) (h_l M_7 (h_r M_3 a0 19)) then (some (some (.inl 0), h_si M_7 (h_r M_3 a0 19) ((8 * (h_i M_3 a0 2))).toNatClampNeg (h_i M_7 (h_r M_3 a0 16) (v_8).toNatClampNeg))) else none) else none) else none) else none) else none) else none) else none) else none) else none)) else none) else (some (some (.inl (-1)), M_1))) else none := by
  refine (ev_ns c_168 1 (ip' := 1) (ls' := [some (.inr a0), some (.inl i1)]) (st' := [.inr a0]) (M' := M) rfl).trans ?_
  refine (ev_gI (a_rec M 8 [.inr a0] = true ∧ ([] : List mV).length ≤ 8) (as := [.inr a0]) (rr := []) c_168 c_157 rfl).trans (t_i (t_cI ?_) rfl)
  intro v_2 M_1
  refine (ev_i (v_2 = 0) (i1 := 5) (l1 := [some (.inr a0), some (.inl i1)]) (s1 := []) (M1 := M_1) (i2 := 3) (l2 := [some (.inr a0), some (.inl i1)]) (s2 := []) (M2 := M_1) c_168 rfl).trans (t_i ?_ ?_)
  · skip
    refine (ev_ns c_168 1 (ip' := 6) (ls' := [some (.inr a0), some (.inl i1)]) (st' := [.inl i1]) (M' := M_1) rfl).trans ?_
    refine (ev_gI (a_rec M_1 0 [.inl i1] = true ∧ ([] : List mV).length ≤ 8) (as := [.inl i1]) (rr := []) c_168 c_123 rfl).trans (t_i (t_cI ?_) rfl)
    intro v_4 M_3
    refine (ev_i (v_4 = 0) (i1 := 8) (l1 := [some (.inr a0), some (.inl i1)]) (s1 := []) (M1 := M_3) (i2 := 11) (l2 := [some (.inr a0), some (.inl i1)]) (s2 := []) (M2 := M_3) c_168 rfl).trans (t_i ?_ ?_)
    · skip
      refine (ev_ns c_168 1 (ip' := 9) (ls' := [some (.inr a0), some (.inl i1)]) (st' := [.inr a0]) (M' := M_3) rfl).trans ?_
      refine (ev_gI (a_rec M_3 8 [.inr a0] = true ∧ ([] : List mV).length ≤ 8) (as := [.inr a0]) (rr := []) c_168 c_158 rfl).trans (t_i (t_cI ?_) rfl)
      intro v_6 M_5
      exact ev_d c_168 rfl
    · skip
      refine (ev_ns c_168 1 (ip' := 12) (ls' := [some (.inr a0), some (.inl i1)]) (st' := [.inr a0]) (M' := M_3) rfl).trans ?_
      refine (ev_g (h_k M_3 a0 = 8) (ip' := 13) (ls' := [some (.inr a0), some (.inl i1)]) (st' := [.inr (h_r M_3 a0 19)]) (M' := M_3) c_168 rfl).trans (t_i ?_ rfl)
      refine (ev_ns c_168 2 (ip' := 15) (ls' := [some (.inr a0), some (.inl i1)]) (st' := [.inr a0, .inl 8, .inr (h_r M_3 a0 19)]) (M' := M_3) rfl).trans ?_
      refine (ev_g (h_k M_3 a0 = 8) (ip' := 16) (ls' := [some (.inr a0), some (.inl i1)]) (st' := [.inl (h_i M_3 a0 2), .inl 8, .inr (h_r M_3 a0 19)]) (M' := M_3) c_168 rfl).trans (t_i ?_ rfl)
      refine (ev_ns c_168 2 (ip' := 18) (ls' := [some (.inr a0), some (.inl i1)]) (st' := [.inr a0, .inl (8 * (h_i M_3 a0 2)), .inr (h_r M_3 a0 19)]) (M' := M_3) rfl).trans ?_
      refine (ev_g (h_k M_3 a0 = 8) (ip' := 19) (ls' := [some (.inr a0), some (.inl i1)]) (st' := [.inr (h_r M_3 a0 16), .inl (8 * (h_i M_3 a0 2)), .inr (h_r M_3 a0 19)]) (M' := M_3) c_168 rfl).trans (t_i ?_ rfl)
      refine (ev_ns c_168 2 (ip' := 21) (ls' := [some (.inr a0), some (.inl i1)]) (st' := [.inr a0, .inr a0, .inr (h_r M_3 a0 16), .inl (8 * (h_i M_3 a0 2)), .inr (h_r M_3 a0 19)]) (M' := M_3) rfl).trans ?_
      refine (ev_g (h_k M_3 a0 = 8) (ip' := 22) (ls' := [some (.inr a0), some (.inl i1)]) (st' := [.inr (h_r M_3 a0 7), .inr a0, .inr (h_r M_3 a0 16), .inl (8 * (h_i M_3 a0 2)), .inr (h_r M_3 a0 19)]) (M' := M_3) c_168 rfl).trans (t_i ?_ rfl)
      refine (ev_ns c_168 1 (ip' := 23) (ls' := [some (.inr a0), some (.inl i1)]) (st' := [.inr a0, .inr (h_r M_3 a0 7), .inr a0, .inr (h_r M_3 a0 16), .inl (8 * (h_i M_3 a0 2)), .inr (h_r M_3 a0 19)]) (M' := M_3) rfl).trans ?_
      refine (ev_g (h_k M_3 a0 = 8) (ip' := 24) (ls' := [some (.inr a0), some (.inl i1)]) (st' := [.inl (h_i M_3 a0 2), .inr (h_r M_3 a0 7), .inr a0, .inr (h_r M_3 a0 16), .inl (8 * (h_i M_3 a0 2)), .inr (h_r M_3 a0 19)]) (M' := M_3) c_168 rfl).trans (t_i ?_ rfl)
      refine (ev_g ((h_k M_3 (h_r M_3 a0 7) = 9 ∨ h_k M_3 (h_r M_3 a0 7) = 14) ∧ h_in (h_i M_3 a0 2) (h_l M_3 (h_r M_3 a0 7))) (ip' := 25) (ls' := [some (.inr a0), some (.inl i1)]) (st' := [.inl (h_i M_3 (h_r M_3 a0 7) ((h_i M_3 a0 2)).toNatClampNeg), .inr a0, .inr (h_r M_3 a0 16), .inl (8 * (h_i M_3 a0 2)), .inr (h_r M_3 a0 19)]) (M' := M_3) c_168 rfl).trans (t_i ?_ rfl)
      refine (ev_ns c_168 1 (ip' := 26) (ls' := [some (.inr a0), some (.inl i1)]) (st' := [.inl i1, .inl (h_i M_3 (h_r M_3 a0 7) ((h_i M_3 a0 2)).toNatClampNeg), .inr a0, .inr (h_r M_3 a0 16), .inl (8 * (h_i M_3 a0 2)), .inr (h_r M_3 a0 19)]) (M' := M_3) rfl).trans ?_
      refine (ev_gI (a_rec M_3 8 [.inr a0, .inl (h_i M_3 (h_r M_3 a0 7) ((h_i M_3 a0 2)).toNatClampNeg), .inl i1] = true ∧ ([.inr (h_r M_3 a0 16), .inl (8 * (h_i M_3 a0 2)), .inr (h_r M_3 a0 19)] : List mV).length ≤ 8) (as := [.inr a0, .inl (h_i M_3 (h_r M_3 a0 7) ((h_i M_3 a0 2)).toNatClampNeg), .inl i1]) (rr := [.inr (h_r M_3 a0 16), .inl (8 * (h_i M_3 a0 2)), .inr (h_r M_3 a0 19)]) c_168 c_119 rfl).trans (t_i (t_cI ?_) rfl)
      intro v_8 M_7
      refine (ev_g ((h_k M_7 (h_r M_3 a0 16) = 9 ∨ h_k M_7 (h_r M_3 a0 16) = 14) ∧ h_in v_8 (h_l M_7 (h_r M_3 a0 16))) (ip' := 28) (ls' := [some (.inr a0), some (.inl i1)]) (st' := [.inl (h_i M_7 (h_r M_3 a0 16) (v_8).toNatClampNeg), .inl (8 * (h_i M_3 a0 2)), .inr (h_r M_3 a0 19)]) (M' := M_7) c_168 rfl).trans (t_i ?_ rfl)
      refine (ev_g (h_k M_7 (h_r M_3 a0 19) = 9 ∧ h_in (8 * (h_i M_3 a0 2)) (h_l M_7 (h_r M_3 a0 19))) (ip' := 29) (ls' := [some (.inr a0), some (.inl i1)]) (st' := []) (M' := h_si M_7 (h_r M_3 a0 19) ((8 * (h_i M_3 a0 2))).toNatClampNeg (h_i M_7 (h_r M_3 a0 16) (v_8).toNatClampNeg)) c_168 rfl).trans (t_i ?_ rfl)
      refine (ev_ns c_168 1 (ip' := 30) (ls' := [some (.inr a0), some (.inl i1)]) (st' := [.inl 0]) (M' := h_si M_7 (h_r M_3 a0 19) ((8 * (h_i M_3 a0 2))).toNatClampNeg (h_i M_7 (h_r M_3 a0 16) (v_8).toNatClampNeg)) rfl).trans ?_
      exact ev_d c_168 rfl
  · skip
    refine (ev_ns c_168 1 (ip' := 4) (ls' := [some (.inr a0), some (.inl i1)]) (st' := [.inl (-1)]) (M' := M_1) rfl).trans ?_
    exact ev_d c_168 rfl
/- 169: GranuleHallModel.ask(III)I -/
set_option maxRecDepth 20000 in
theorem e_169_0 (a0 : Nat) (i1 : Int32) (i2 : Int32) (i3 : Int32) (M : mM) : ev 169 0 [some (.inr a0), some (.inl i1), some (.inl i2), some (.inl i3), none] [] M = if (a_rec M 8 [.inr a0] = true ∧ ([] : List mV).length ≤ 8) then (c_I (ev 157 0 [some (.inr a0)] [] M) fun v_2 M_1 => if v_2 = 0 then (if i1 < 0 then (ev 169 18 [some (.inr a0), some (.inl i1), some (.inl i2), some (.inl i3), none] [] M_1) else (if i2 ≤ i1 then (ev 169 18 [some (.inr a0), some (.inl i1), some (.inl i2), some (.inl i3), none] [] M_1) else (if (2048 : Int32) < i2 then (ev 169 18 [some (.inr a0), some (.inl i1), some (.inl i2), some (.inl i3), none] [] M_1) else (if i3 < 0 then (ev 169 18 [some (.inr a0), some (.inl i1), some (.inl i2), some (.inl i3), none] [] M_1) else (if i3 ≤ 1 then (if h_k M_1 a0 = 8 then (if h_k M_1 a0 = 8 then (if h_k M_1 (h_r M_1 a0 20) = 9 ∧ h_in (h_i M_1 a0 2) (h_l M_1 (h_r M_1 a0 20)) then (if h_k (h_si M_1 (h_r M_1 a0 20) ((h_i M_1 a0 2)).toNatClampNeg 2) a0 = 8 then (if h_k (h_si M_1 (h_r M_1 a0 20) ((h_i M_1 a0 2)).toNatClampNeg 2) (h_r (h_si M_1 (h_r M_1 a0 20) ((h_i M_1 a0 2)).toNatClampNeg 2) a0 21) = 9 ∧ h_in (h_i M_1 a0 2) (h_l (h_si M_1 (h_r M_1 a0 20) ((h_i M_1 a0 2)).toNatClampNeg 2) (h_r (h_si M_1 (h_r M_1 a0 20) ((h_i M_1 a0 2)).toNatClampNeg 2) a0 21)) then (if h_k (h_si (h_si M_1 (h_r M_1 a0 20) ((h_i M_1 a0 2)).toNatClampNeg 2) (h_r (h_si M_1 (h_r M_1 a0 20) ((h_i M_1 a0 2)).toNatClampNeg 2) a0 21) ((h_i M_1 a0 2)).toNatClampNeg i1) a0 = 8 then (if h_k (h_si (h_si M_1 (h_r M_1 a0 20) ((h_i M_1 a0 2)).toNatClampNeg 2) (h_r (h_si M_1 (h_r M_1 a0 20) ((h_i M_1 a0 2)).toNatClampNeg 2) a0 21) ((h_i M_1 a0 2)).toNatClampNeg i1) (h_r (h_si (h_si M_1 (h_r M_1 a0 20) ((h_i M_1 a0 2)).toNatClampNeg 2) (h_r (h_si M_1 (h_r M_1 a0 20) ((h_i M_1 a0 2)).toNatClampNeg 2) a0 21) ((h_i M_1 a0 2)).toNatClampNeg i1) a0 22) = 9 ∧ h_in (h_i M_1 a0 2) (h_l (h_si (h_si M_1 (h_r M_1 a0 20) ((h_i M_1 a0 2)).toNatClampNeg 2) (h_r (h_si M_1 (h_r M_1 a0 20) ((h_i M_1 a0 2)).toNatClampNeg 2) a0 21) ((h_i M_1 a0 2)).toNatClampNeg i1) (h_r (h_si (h_si M_1 (h_r M_1 a0 20) ((h_i M_1 a0 2)).toNatClampNeg 2) (h_r (h_si M_1 (h_r M_1 a0 20) ((h_i M_1 a0 2)).toNatClampNeg 2) a0 21) ((h_i M_1 a0 2)).toNatClampNeg i1) a0 22)) then (if h_k (h_si (h_si (h_si M_1 (h_r M_1 a0 20) ((h_i M_1 a0 2)).toNatClampNeg 2) (h_r (h_si M_1 (h_r M_1 a0 20) ((h_i M_1 a0 2)).toNatClampNeg 2) a0 21) ((h_i M_1 a0 2)).toNatClampNeg i1) (h_r (h_si (h_si M_1 (h_r M_1 a0 20) ((h_i M_1 a0 2)).toNatClampNeg 2) (h_r (h_si M_1 (h_r M_1 a0 20) ((h_i M_1 a0 2)).toNatClampNeg 2) a0 21) ((h_i M_1 a0 2)).toNatClampNeg i1) a0 22) ((h_i M_1 a0 2)).toNatClampNeg i2) a0 = 8 then (if h_k (h_si (h_si (h_si M_1 (h_r M_1 a0 20) ((h_i M_1 a0 2)).toNatClampNeg 2) (h_r (h_si M_1 (h_r M_1 a0 20) ((h_i M_1 a0 2)).toNatClampNeg 2) a0 21) ((h_i M_1 a0 2)).toNatClampNeg i1) (h_r (h_si (h_si M_1 (h_r M_1 a0 20) ((h_i M_1 a0 2)).toNatClampNeg 2) (h_r (h_si M_1 (h_r M_1 a0 20) ((h_i M_1 a0 2)).toNatClampNeg 2) a0 21) ((h_i M_1 a0 2)).toNatClampNeg i1) a0 22) ((h_i M_1 a0 2)).toNatClampNeg i2) (h_r (h_si (h_si (h_si M_1 (h_r M_1 a0 20) ((h_i M_1 a0 2)).toNatClampNeg 2) (h_r (h_si M_1 (h_r M_1 a0 20) ((h_i M_1 a0 2)).toNatClampNeg 2) a0 21) ((h_i M_1 a0 2)).toNatClampNeg i1) (h_r (h_si (h_si M_1 (h_r M_1 a0 20) ((h_i M_1 a0 2)).toNatClampNeg 2) (h_r (h_si M_1 (h_r M_1 a0 20) ((h_i M_1 a0 2)).toNatClampNeg 2) a0 21) ((h_i M_1 a0 2)).toNatClampNeg i1) a0 22) ((h_i M_1 a0 2)).toNatClampNeg i2) a0 23) = 9 ∧ h_in (h_i M_1 a0 2) (h_l (h_si (h_si (h_si M_1 (h_r M_1 a0 20) ((h_i M_1 a0 2)).toNatClampNeg 2) (h_r (h_si M_1 (h_r M_1 a0 20) ((h_i M_1 a0 2)).toNatClampNeg 2) a0 21) ((h_i M_1 a0 2)).toNatClampNeg i1) (h_r (h_si (h_si M_1 (h_r M_1 a0 20) ((h_i M_1 a0 2)).toNatClampNeg 2) (h_r (h_si M_1 (h_r M_1 a0 20) ((h_i M_1 a0 2)).toNatClampNeg 2) a0 21) ((h_i M_1 a0 2)).toNatClampNeg i1) a0 22) ((h_i M_1 a0 2)).toNatClampNeg i2) (h_r (h_si (h_si (h_si M_1 (h_r M_1 a0 20) ((h_i M_1 a0 2)).toNatClampNeg 2) (h_r (h_si M_1 (h_r M_1 a0 20) ((h_i M_1 a0 2)).toNatClampNeg 2) a0 21) ((h_i M_1 a0 2)).toNatClampNeg i1) (h_r (h_si (h_si M_1 (h_r M_1 a0 20) ((h_i M_1 a0 2)).toNatClampNeg 2) (h_r (h_si M_1 (h_r M_1 a0 20) ((h_i M_1 a0 2)).toNatClampNeg 2) a0 21) ((h_i M_1 a0 2)).toNatClampNeg i1) a0 22) ((h_i M_1 a0 2)).toNatClampNeg i2) a0 23)) then (ev 169 44 [some (.inr a0), some (.inl i1), some (.inl i2), some (.inl i3), some (.inl (h_i M_1 a0 2))] [] (h_si (h_si (h_si (h_si M_1 (h_r M_1 a0 20) ((h_i M_1 a0 2)).toNatClampNeg 2) (h_r (h_si M_1 (h_r M_1 a0 20) ((h_i M_1 a0 2)).toNatClampNeg 2) a0 21) ((h_i M_1 a0 2)).toNatClampNeg i1) (h_r (h_si (h_si M_1 (h_r M_1 a0 20) ((h_i M_1 a0 2)).toNatClampNeg 2) (h_r (h_si M_1 (h_r M_1 a0 20) ((h_i M_1 a0 2)).toNatClampNeg 2) a0 21) ((h_i M_1 a0 2)).toNatClampNeg i1) a0 22) ((h_i M_1 a0 2)).toNatClampNeg i2) (h_r (h_si (h_si (h_si M_1 (h_r M_1 a0 20) ((h_i M_1 a0 2)).toNatClampNeg 2) (h_r (h_si M_1 (h_r M_1 a0 20) ((h_i M_1 a0 2)).toNatClampNeg 2) a0 21) ((h_i M_1 a0 2)).toNatClampNeg i1) (h_r (h_si (h_si M_1 (h_r M_1 a0 20) ((h_i M_1 a0 2)).toNatClampNeg 2) (h_r (h_si M_1 (h_r M_1 a0 20) ((h_i M_1 a0 2)).toNatClampNeg 2) a0 21) ((h_i M_1 a0 2)).toNatClampNeg i1) a0 22) ((h_i M_1 a0 2)).toNatClampNeg i2) a0 23) ((h_i M_1 a0 2)).toNatClampNeg i3)) else none) else none) else none) else none) else none) else none) else none) else none) else none) else (ev 169 18 [some (.inr a0), some (.inl i1), some (.inl i2), some (.inl i3), none] [] M_1)))))) else (some (some (.inl (-1)), M_1))) else none := by
  refine (ev_ns c_169 1 (ip' := 1) (ls' := [some (.inr a0), some (.inl i1), some (.inl i2), some (.inl i3), none]) (st' := [.inr a0]) (M' := M) rfl).trans ?_
  refine (ev_gI (a_rec M 8 [.inr a0] = true ∧ ([] : List mV).length ≤ 8) (as := [.inr a0]) (rr := []) c_169 c_157 rfl).trans (t_i (t_cI ?_) rfl)
  intro v_2 M_1
  refine (ev_i (v_2 = 0) (i1 := 5) (l1 := [some (.inr a0), some (.inl i1), some (.inl i2), some (.inl i3), none]) (s1 := []) (M1 := M_1) (i2 := 3) (l2 := [some (.inr a0), some (.inl i1), some (.inl i2), some (.inl i3), none]) (s2 := []) (M2 := M_1) c_169 rfl).trans (t_i ?_ ?_)
  · skip
    refine (ev_ns c_169 1 (ip' := 6) (ls' := [some (.inr a0), some (.inl i1), some (.inl i2), some (.inl i3), none]) (st' := [.inl i1]) (M' := M_1) rfl).trans ?_
    refine (ev_i (i1 < 0) (i1 := 18) (l1 := [some (.inr a0), some (.inl i1), some (.inl i2), some (.inl i3), none]) (s1 := []) (M1 := M_1) (i2 := 7) (l2 := [some (.inr a0), some (.inl i1), some (.inl i2), some (.inl i3), none]) (s2 := []) (M2 := M_1) c_169 rfl).trans (t_i ?_ ?_)
    · skip
      exact rfl
    · skip
      refine (ev_ns c_169 2 (ip' := 9) (ls' := [some (.inr a0), some (.inl i1), some (.inl i2), some (.inl i3), none]) (st' := [.inl i2, .inl i1]) (M' := M_1) rfl).trans ?_
      refine (ev_i (i2 ≤ i1) (i1 := 18) (l1 := [some (.inr a0), some (.inl i1), some (.inl i2), some (.inl i3), none]) (s1 := []) (M1 := M_1) (i2 := 10) (l2 := [some (.inr a0), some (.inl i1), some (.inl i2), some (.inl i3), none]) (s2 := []) (M2 := M_1) c_169 rfl).trans (t_i ?_ ?_)
      · skip
        exact rfl
      · skip
        refine (ev_ns c_169 2 (ip' := 12) (ls' := [some (.inr a0), some (.inl i1), some (.inl i2), some (.inl i3), none]) (st' := [.inl 2048, .inl i2]) (M' := M_1) rfl).trans ?_
        refine (ev_i ((2048 : Int32) < i2) (i1 := 18) (l1 := [some (.inr a0), some (.inl i1), some (.inl i2), some (.inl i3), none]) (s1 := []) (M1 := M_1) (i2 := 13) (l2 := [some (.inr a0), some (.inl i1), some (.inl i2), some (.inl i3), none]) (s2 := []) (M2 := M_1) c_169 rfl).trans (t_i ?_ ?_)
        · skip
          exact rfl
        · skip
          refine (ev_ns c_169 1 (ip' := 14) (ls' := [some (.inr a0), some (.inl i1), some (.inl i2), some (.inl i3), none]) (st' := [.inl i3]) (M' := M_1) rfl).trans ?_
          refine (ev_i (i3 < 0) (i1 := 18) (l1 := [some (.inr a0), some (.inl i1), some (.inl i2), some (.inl i3), none]) (s1 := []) (M1 := M_1) (i2 := 15) (l2 := [some (.inr a0), some (.inl i1), some (.inl i2), some (.inl i3), none]) (s2 := []) (M2 := M_1) c_169 rfl).trans (t_i ?_ ?_)
          · skip
            exact rfl
          · skip
            refine (ev_ns c_169 2 (ip' := 17) (ls' := [some (.inr a0), some (.inl i1), some (.inl i2), some (.inl i3), none]) (st' := [.inl 1, .inl i3]) (M' := M_1) rfl).trans ?_
            refine (ev_i (i3 ≤ 1) (i1 := 21) (l1 := [some (.inr a0), some (.inl i1), some (.inl i2), some (.inl i3), none]) (s1 := []) (M1 := M_1) (i2 := 18) (l2 := [some (.inr a0), some (.inl i1), some (.inl i2), some (.inl i3), none]) (s2 := []) (M2 := M_1) c_169 rfl).trans (t_i ?_ ?_)
            · skip
              refine (ev_ns c_169 1 (ip' := 22) (ls' := [some (.inr a0), some (.inl i1), some (.inl i2), some (.inl i3), none]) (st' := [.inr a0]) (M' := M_1) rfl).trans ?_
              refine (ev_g (h_k M_1 a0 = 8) (ip' := 23) (ls' := [some (.inr a0), some (.inl i1), some (.inl i2), some (.inl i3), none]) (st' := [.inl (h_i M_1 a0 2)]) (M' := M_1) c_169 rfl).trans (t_i ?_ rfl)
              refine (ev_ns c_169 2 (ip' := 25) (ls' := [some (.inr a0), some (.inl i1), some (.inl i2), some (.inl i3), some (.inl (h_i M_1 a0 2))]) (st' := [.inr a0]) (M' := M_1) rfl).trans ?_
              refine (ev_g (h_k M_1 a0 = 8) (ip' := 26) (ls' := [some (.inr a0), some (.inl i1), some (.inl i2), some (.inl i3), some (.inl (h_i M_1 a0 2))]) (st' := [.inr (h_r M_1 a0 20)]) (M' := M_1) c_169 rfl).trans (t_i ?_ rfl)
              refine (ev_ns c_169 2 (ip' := 28) (ls' := [some (.inr a0), some (.inl i1), some (.inl i2), some (.inl i3), some (.inl (h_i M_1 a0 2))]) (st' := [.inl 2, .inl (h_i M_1 a0 2), .inr (h_r M_1 a0 20)]) (M' := M_1) rfl).trans ?_
              refine (ev_g (h_k M_1 (h_r M_1 a0 20) = 9 ∧ h_in (h_i M_1 a0 2) (h_l M_1 (h_r M_1 a0 20))) (ip' := 29) (ls' := [some (.inr a0), some (.inl i1), some (.inl i2), some (.inl i3), some (.inl (h_i M_1 a0 2))]) (st' := []) (M' := h_si M_1 (h_r M_1 a0 20) ((h_i M_1 a0 2)).toNatClampNeg 2) c_169 rfl).trans (t_i ?_ rfl)
              refine (ev_ns c_169 1 (ip' := 30) (ls' := [some (.inr a0), some (.inl i1), some (.inl i2), some (.inl i3), some (.inl (h_i M_1 a0 2))]) (st' := [.inr a0]) (M' := h_si M_1 (h_r M_1 a0 20) ((h_i M_1 a0 2)).toNatClampNeg 2) rfl).trans ?_
              refine (ev_g (h_k (h_si M_1 (h_r M_1 a0 20) ((h_i M_1 a0 2)).toNatClampNeg 2) a0 = 8) (ip' := 31) (ls' := [some (.inr a0), some (.inl i1), some (.inl i2), some (.inl i3), some (.inl (h_i M_1 a0 2))]) (st' := [.inr (h_r (h_si M_1 (h_r M_1 a0 20) ((h_i M_1 a0 2)).toNatClampNeg 2) a0 21)]) (M' := h_si M_1 (h_r M_1 a0 20) ((h_i M_1 a0 2)).toNatClampNeg 2) c_169 rfl).trans (t_i ?_ rfl)
              refine (ev_ns c_169 2 (ip' := 33) (ls' := [some (.inr a0), some (.inl i1), some (.inl i2), some (.inl i3), some (.inl (h_i M_1 a0 2))]) (st' := [.inl i1, .inl (h_i M_1 a0 2), .inr (h_r (h_si M_1 (h_r M_1 a0 20) ((h_i M_1 a0 2)).toNatClampNeg 2) a0 21)]) (M' := h_si M_1 (h_r M_1 a0 20) ((h_i M_1 a0 2)).toNatClampNeg 2) rfl).trans ?_
              refine (ev_g (h_k (h_si M_1 (h_r M_1 a0 20) ((h_i M_1 a0 2)).toNatClampNeg 2) (h_r (h_si M_1 (h_r M_1 a0 20) ((h_i M_1 a0 2)).toNatClampNeg 2) a0 21) = 9 ∧ h_in (h_i M_1 a0 2) (h_l (h_si M_1 (h_r M_1 a0 20) ((h_i M_1 a0 2)).toNatClampNeg 2) (h_r (h_si M_1 (h_r M_1 a0 20) ((h_i M_1 a0 2)).toNatClampNeg 2) a0 21))) (ip' := 34) (ls' := [some (.inr a0), some (.inl i1), some (.inl i2), some (.inl i3), some (.inl (h_i M_1 a0 2))]) (st' := []) (M' := h_si (h_si M_1 (h_r M_1 a0 20) ((h_i M_1 a0 2)).toNatClampNeg 2) (h_r (h_si M_1 (h_r M_1 a0 20) ((h_i M_1 a0 2)).toNatClampNeg 2) a0 21) ((h_i M_1 a0 2)).toNatClampNeg i1) c_169 rfl).trans (t_i ?_ rfl)
              refine (ev_ns c_169 1 (ip' := 35) (ls' := [some (.inr a0), some (.inl i1), some (.inl i2), some (.inl i3), some (.inl (h_i M_1 a0 2))]) (st' := [.inr a0]) (M' := h_si (h_si M_1 (h_r M_1 a0 20) ((h_i M_1 a0 2)).toNatClampNeg 2) (h_r (h_si M_1 (h_r M_1 a0 20) ((h_i M_1 a0 2)).toNatClampNeg 2) a0 21) ((h_i M_1 a0 2)).toNatClampNeg i1) rfl).trans ?_
              refine (ev_g (h_k (h_si (h_si M_1 (h_r M_1 a0 20) ((h_i M_1 a0 2)).toNatClampNeg 2) (h_r (h_si M_1 (h_r M_1 a0 20) ((h_i M_1 a0 2)).toNatClampNeg 2) a0 21) ((h_i M_1 a0 2)).toNatClampNeg i1) a0 = 8) (ip' := 36) (ls' := [some (.inr a0), some (.inl i1), some (.inl i2), some (.inl i3), some (.inl (h_i M_1 a0 2))]) (st' := [.inr (h_r (h_si (h_si M_1 (h_r M_1 a0 20) ((h_i M_1 a0 2)).toNatClampNeg 2) (h_r (h_si M_1 (h_r M_1 a0 20) ((h_i M_1 a0 2)).toNatClampNeg 2) a0 21) ((h_i M_1 a0 2)).toNatClampNeg i1) a0 22)]) (M' := h_si (h_si M_1 (h_r M_1 a0 20) ((h_i M_1 a0 2)).toNatClampNeg 2) (h_r (h_si M_1 (h_r M_1 a0 20) ((h_i M_1 a0 2)).toNatClampNeg 2) a0 21) ((h_i M_1 a0 2)).toNatClampNeg i1) c_169 rfl).trans (t_i ?_ rfl)
              refine (ev_ns c_169 2 (ip' := 38) (ls' := [some (.inr a0), some (.inl i1), some (.inl i2), some (.inl i3), some (.inl (h_i M_1 a0 2))]) (st' := [.inl i2, .inl (h_i M_1 a0 2), .inr (h_r (h_si (h_si M_1 (h_r M_1 a0 20) ((h_i M_1 a0 2)).toNatClampNeg 2) (h_r (h_si M_1 (h_r M_1 a0 20) ((h_i M_1 a0 2)).toNatClampNeg 2) a0 21) ((h_i M_1 a0 2)).toNatClampNeg i1) a0 22)]) (M' := h_si (h_si M_1 (h_r M_1 a0 20) ((h_i M_1 a0 2)).toNatClampNeg 2) (h_r (h_si M_1 (h_r M_1 a0 20) ((h_i M_1 a0 2)).toNatClampNeg 2) a0 21) ((h_i M_1 a0 2)).toNatClampNeg i1) rfl).trans ?_
              refine (ev_g (h_k (h_si (h_si M_1 (h_r M_1 a0 20) ((h_i M_1 a0 2)).toNatClampNeg 2) (h_r (h_si M_1 (h_r M_1 a0 20) ((h_i M_1 a0 2)).toNatClampNeg 2) a0 21) ((h_i M_1 a0 2)).toNatClampNeg i1) (h_r (h_si (h_si M_1 (h_r M_1 a0 20) ((h_i M_1 a0 2)).toNatClampNeg 2) (h_r (h_si M_1 (h_r M_1 a0 20) ((h_i M_1 a0 2)).toNatClampNeg 2) a0 21) ((h_i M_1 a0 2)).toNatClampNeg i1) a0 22) = 9 ∧ h_in (h_i M_1 a0 2) (h_l (h_si (h_si M_1 (h_r M_1 a0 20) ((h_i M_1 a0 2)).toNatClampNeg 2) (h_r (h_si M_1 (h_r M_1 a0 20) ((h_i M_1 a0 2)).toNatClampNeg 2) a0 21) ((h_i M_1 a0 2)).toNatClampNeg i1) (h_r (h_si (h_si M_1 (h_r M_1 a0 20) ((h_i M_1 a0 2)).toNatClampNeg 2) (h_r (h_si M_1 (h_r M_1 a0 20) ((h_i M_1 a0 2)).toNatClampNeg 2) a0 21) ((h_i M_1 a0 2)).toNatClampNeg i1) a0 22))) (ip' := 39) (ls' := [some (.inr a0), some (.inl i1), some (.inl i2), some (.inl i3), some (.inl (h_i M_1 a0 2))]) (st' := []) (M' := h_si (h_si (h_si M_1 (h_r M_1 a0 20) ((h_i M_1 a0 2)).toNatClampNeg 2) (h_r (h_si M_1 (h_r M_1 a0 20) ((h_i M_1 a0 2)).toNatClampNeg 2) a0 21) ((h_i M_1 a0 2)).toNatClampNeg i1) (h_r (h_si (h_si M_1 (h_r M_1 a0 20) ((h_i M_1 a0 2)).toNatClampNeg 2) (h_r (h_si M_1 (h_r M_1 a0 20) ((h_i M_1 a0 2)).toNatClampNeg 2) a0 21) ((h_i M_1 a0 2)).toNatClampNeg i1) a0 22) ((h_i M_1 a0 2)).toNatClampNeg i2) c_169 rfl).trans (t_i ?_ rfl)
              refine (ev_ns c_169 1 (ip' := 40) (ls' := [some (.inr a0), some (.inl i1), some (.inl i2), some (.inl i3), some (.inl (h_i M_1 a0 2))]) (st' := [.inr a0]) (M' := h_si (h_si (h_si M_1 (h_r M_1 a0 20) ((h_i M_1 a0 2)).toNatClampNeg 2) (h_r (h_si M_1 (h_r M_1 a0 20) ((h_i M_1 a0 2)).toNatClampNeg 2) a0 21) ((h_i M_1 a0 2)).toNatClampNeg i1) (h_r (h_si (h_si M_1 (h_r M_1 a0 20) ((h_i M_1 a0 2)).toNatClampNeg 2) (h_r (h_si M_1 (h_r M_1 a0 20) ((h_i M_1 a0 2)).toNatClampNeg 2) a0 21) ((h_i M_1 a0 2)).toNatClampNeg i1) a0 22) ((h_i M_1 a0 2)).toNatClampNeg i2) rfl).trans ?_
              refine (ev_g (h_k (h_si (h_si (h_si M_1 (h_r M_1 a0 20) ((h_i M_1 a0 2)).toNatClampNeg 2) (h_r (h_si M_1 (h_r M_1 a0 20) ((h_i M_1 a0 2)).toNatClampNeg 2) a0 21) ((h_i M_1 a0 2)).toNatClampNeg i1) (h_r (h_si (h_si M_1 (h_r M_1 a0 20) ((h_i M_1 a0 2)).toNatClampNeg 2) (h_r (h_si M_1 (h_r M_1 a0 20) ((h_i M_1 a0 2)).toNatClampNeg 2) a0 21) ((h_i M_1 a0 2)).toNatClampNeg i1) a0 22) ((h_i M_1 a0 2)).toNatClampNeg i2) a0 = 8) (ip' := 41) (ls' := [some (.inr a0), some (.inl i1), some (.inl i2), some (.inl i3), some (.inl (h_i M_1 a0 2))]) (st' := [.inr (h_r (h_si (h_si (h_si M_1 (h_r M_1 a0 20) ((h_i M_1 a0 2)).toNatClampNeg 2) (h_r (h_si M_1 (h_r M_1 a0 20) ((h_i M_1 a0 2)).toNatClampNeg 2) a0 21) ((h_i M_1 a0 2)).toNatClampNeg i1) (h_r (h_si (h_si M_1 (h_r M_1 a0 20) ((h_i M_1 a0 2)).toNatClampNeg 2) (h_r (h_si M_1 (h_r M_1 a0 20) ((h_i M_1 a0 2)).toNatClampNeg 2) a0 21) ((h_i M_1 a0 2)).toNatClampNeg i1) a0 22) ((h_i M_1 a0 2)).toNatClampNeg i2) a0 23)]) (M' := h_si (h_si (h_si M_1 (h_r M_1 a0 20) ((h_i M_1 a0 2)).toNatClampNeg 2) (h_r (h_si M_1 (h_r M_1 a0 20) ((h_i M_1 a0 2)).toNatClampNeg 2) a0 21) ((h_i M_1 a0 2)).toNatClampNeg i1) (h_r (h_si (h_si M_1 (h_r M_1 a0 20) ((h_i M_1 a0 2)).toNatClampNeg 2) (h_r (h_si M_1 (h_r M_1 a0 20) ((h_i M_1 a0 2)).toNatClampNeg 2) a0 21) ((h_i M_1 a0 2)).toNatClampNeg i1) a0 22) ((h_i M_1 a0 2)).toNatClampNeg i2) c_169 rfl).trans (t_i ?_ rfl)
              refine (ev_ns c_169 2 (ip' := 43) (ls' := [some (.inr a0), some (.inl i1), some (.inl i2), some (.inl i3), some (.inl (h_i M_1 a0 2))]) (st' := [.inl i3, .inl (h_i M_1 a0 2), .inr (h_r (h_si (h_si (h_si M_1 (h_r M_1 a0 20) ((h_i M_1 a0 2)).toNatClampNeg 2) (h_r (h_si M_1 (h_r M_1 a0 20) ((h_i M_1 a0 2)).toNatClampNeg 2) a0 21) ((h_i M_1 a0 2)).toNatClampNeg i1) (h_r (h_si (h_si M_1 (h_r M_1 a0 20) ((h_i M_1 a0 2)).toNatClampNeg 2) (h_r (h_si M_1 (h_r M_1 a0 20) ((h_i M_1 a0 2)).toNatClampNeg 2) a0 21) ((h_i M_1 a0 2)).toNatClampNeg i1) a0 22) ((h_i M_1 a0 2)).toNatClampNeg i2) a0 23)]) (M' := h_si (h_si (h_si M_1 (h_r M_1 a0 20) ((h_i M_1 a0 2)).toNatClampNeg 2) (h_r (h_si M_1 (h_r M_1 a0 20) ((h_i M_1 a0 2)).toNatClampNeg 2) a0 21) ((h_i M_1 a0 2)).toNatClampNeg i1) (h_r (h_si (h_si M_1 (h_r M_1 a0 20) ((h_i M_1 a0 2)).toNatClampNeg 2) (h_r (h_si M_1 (h_r M_1 a0 20) ((h_i M_1 a0 2)).toNatClampNeg 2) a0 21) ((h_i M_1 a0 2)).toNatClampNeg i1) a0 22) ((h_i M_1 a0 2)).toNatClampNeg i2) rfl).trans ?_
              refine (ev_g (h_k (h_si (h_si (h_si M_1 (h_r M_1 a0 20) ((h_i M_1 a0 2)).toNatClampNeg 2) (h_r (h_si M_1 (h_r M_1 a0 20) ((h_i M_1 a0 2)).toNatClampNeg 2) a0 21) ((h_i M_1 a0 2)).toNatClampNeg i1) (h_r (h_si (h_si M_1 (h_r M_1 a0 20) ((h_i M_1 a0 2)).toNatClampNeg 2) (h_r (h_si M_1 (h_r M_1 a0 20) ((h_i M_1 a0 2)).toNatClampNeg 2) a0 21) ((h_i M_1 a0 2)).toNatClampNeg i1) a0 22) ((h_i M_1 a0 2)).toNatClampNeg i2) (h_r (h_si (h_si (h_si M_1 (h_r M_1 a0 20) ((h_i M_1 a0 2)).toNatClampNeg 2) (h_r (h_si M_1 (h_r M_1 a0 20) ((h_i M_1 a0 2)).toNatClampNeg 2) a0 21) ((h_i M_1 a0 2)).toNatClampNeg i1) (h_r (h_si (h_si M_1 (h_r M_1 a0 20) ((h_i M_1 a0 2)).toNatClampNeg 2) (h_r (h_si M_1 (h_r M_1 a0 20) ((h_i M_1 a0 2)).toNatClampNeg 2) a0 21) ((h_i M_1 a0 2)).toNatClampNeg i1) a0 22) ((h_i M_1 a0 2)).toNatClampNeg i2) a0 23) = 9 ∧ h_in (h_i M_1 a0 2) (h_l (h_si (h_si (h_si M_1 (h_r M_1 a0 20) ((h_i M_1 a0 2)).toNatClampNeg 2) (h_r (h_si M_1 (h_r M_1 a0 20) ((h_i M_1 a0 2)).toNatClampNeg 2) a0 21) ((h_i M_1 a0 2)).toNatClampNeg i1) (h_r (h_si (h_si M_1 (h_r M_1 a0 20) ((h_i M_1 a0 2)).toNatClampNeg 2) (h_r (h_si M_1 (h_r M_1 a0 20) ((h_i M_1 a0 2)).toNatClampNeg 2) a0 21) ((h_i M_1 a0 2)).toNatClampNeg i1) a0 22) ((h_i M_1 a0 2)).toNatClampNeg i2) (h_r (h_si (h_si (h_si M_1 (h_r M_1 a0 20) ((h_i M_1 a0 2)).toNatClampNeg 2) (h_r (h_si M_1 (h_r M_1 a0 20) ((h_i M_1 a0 2)).toNatClampNeg 2) a0 21) ((h_i M_1 a0 2)).toNatClampNeg i1) (h_r (h_si (h_si M_1 (h_r M_1 a0 20) ((h_i M_1 a0 2)).toNatClampNeg 2) (h_r (h_si M_1 (h_r M_1 a0 20) ((h_i M_1 a0 2)).toNatClampNeg 2) a0 21) ((h_i M_1 a0 2)).toNatClampNeg i1) a0 22) ((h_i M_1 a0 2)).toNatClampNeg i2) a0 23))) (ip' := 44) (ls' := [some (.inr a0), some (.inl i1), some (.inl i2), some (.inl i3), some (.inl (h_i M_1 a0 2))]) (st' := []) (M' := h_si (h_si (h_si (h_si M_1 (h_r M_1 a0 20) ((h_i M_1 a0 2)).toNatClampNeg 2) (h_r (h_si M_1 (h_r M_1 a0 20) ((h_i M_1 a0 2)).toNatClampNeg 2) a0 21) ((h_i M_1 a0 2)).toNatClampNeg i1) (h_r (h_si (h_si M_1 (h_r M_1 a0 20) ((h_i M_1 a0 2)).toNatClampNeg 2) (h_r (h_si M_1 (h_r M_1 a0 20) ((h_i M_1 a0 2)).toNatClampNeg 2) a0 21) ((h_i M_1 a0 2)).toNatClampNeg i1) a0 22) ((h_i M_1 a0 2)).toNatClampNeg i2) (h_r (h_si (h_si (h_si M_1 (h_r M_1 a0 20) ((h_i M_1 a0 2)).toNatClampNeg 2) (h_r (h_si M_1 (h_r M_1 a0 20) ((h_i M_1 a0 2)).toNatClampNeg 2) a0 21) ((h_i M_1 a0 2)).toNatClampNeg i1) (h_r (h_si (h_si M_1 (h_r M_1 a0 20) ((h_i M_1 a0 2)).toNatClampNeg 2) (h_r (h_si M_1 (h_r M_1 a0 20) ((h_i M_1 a0 2)).toNatClampNeg 2) a0 21) ((h_i M_1 a0 2)).toNatClampNeg i1) a0 22) ((h_i M_1 a0 2)).toNatClampNeg i2) a0 23) ((h_i M_1 a0 2)).toNatClampNeg i3) c_169 rfl).trans (t_i ?_ rfl)
              exact rfl
            · skip
              exact rfl
  · skip
    refine (ev_ns c_169 1 (ip' := 4) (ls' := [some (.inr a0), some (.inl i1), some (.inl i2), some (.inl i3), none]) (st' := [.inl (-1)]) (M' := M_1) rfl).trans ?_
    exact ev_d c_169 rfl
set_option maxRecDepth 20000 in
theorem e_169_18 (a0 : Nat) (i1 : Int32) (i2 : Int32) (i3 : Int32) (M : mM) : ev 169 18 [some (.inr a0), some (.inl i1), some (.inl i2), some (.inl i3), none] [] M = if (a_rec M 8 [.inr a0] = true ∧ ([] : List mV).length ≤ 8) then (c_I (ev 158 0 [some (.inr a0)] [] M) fun v_2 M_1 => some (some (.inl v_2), M_1)) else none := by
  refine (ev_ns c_169 1 (ip' := 19) (ls' := [some (.inr a0), some (.inl i1), some (.inl i2), some (.inl i3), none]) (st' := [.inr a0]) (M' := M) rfl).trans ?_
  refine (ev_gI (a_rec M 8 [.inr a0] = true ∧ ([] : List mV).length ≤ 8) (as := [.inr a0]) (rr := []) c_169 c_158 rfl).trans (t_i (t_cI ?_) rfl)
  intro v_2 M_1
  exact ev_d c_169 rfl
set_option maxRecDepth 20000 in
theorem e_169_44 (a0 : Nat) (i1 : Int32) (i2 : Int32) (i3 : Int32) (i4 : Int32) (M : mM) : ev 169 44 [some (.inr a0), some (.inl i1), some (.inl i2), some (.inl i3), some (.inl i4)] [] M = if h_k M a0 = 8 then (if h_k M (h_r M a0 24) = 9 ∧ h_in i4 (h_l M (h_r M a0 24)) then (if (a_rec (h_si M (h_r M a0 24) (i4).toNatClampNeg i1) 8 [.inr a0, .inl 3, .inl i1, .inl i2, .inl i3] = true ∧ ([] : List mV).length ≤ 8) then (c_I (ev 159 0 [some (.inr a0), some (.inl 3), some (.inl i1), some (.inl i2), some (.inl i3), none, none] [] (h_si M (h_r M a0 24) (i4).toNatClampNeg i1)) fun v_2 M_1 => some (some (.inl v_2), M_1)) else none) else none) else none := by
  refine (ev_ns c_169 1 (ip' := 45) (ls' := [some (.inr a0), some (.inl i1), some (.inl i2), some (.inl i3), some (.inl i4)]) (st' := [.inr a0]) (M' := M) rfl).trans ?_
  refine (ev_g (h_k M a0 = 8) (ip' := 46) (ls' := [some (.inr a0), some (.inl i1), some (.inl i2), some (.inl i3), some (.inl i4)]) (st' := [.inr (h_r M a0 24)]) (M' := M) c_169 rfl).trans (t_i ?_ rfl)
  refine (ev_ns c_169 2 (ip' := 48) (ls' := [some (.inr a0), some (.inl i1), some (.inl i2), some (.inl i3), some (.inl i4)]) (st' := [.inl i1, .inl i4, .inr (h_r M a0 24)]) (M' := M) rfl).trans ?_
  refine (ev_g (h_k M (h_r M a0 24) = 9 ∧ h_in i4 (h_l M (h_r M a0 24))) (ip' := 49) (ls' := [some (.inr a0), some (.inl i1), some (.inl i2), some (.inl i3), some (.inl i4)]) (st' := []) (M' := h_si M (h_r M a0 24) (i4).toNatClampNeg i1) c_169 rfl).trans (t_i ?_ rfl)
  refine (ev_ns c_169 5 (ip' := 54) (ls' := [some (.inr a0), some (.inl i1), some (.inl i2), some (.inl i3), some (.inl i4)]) (st' := [.inl i3, .inl i2, .inl i1, .inl 3, .inr a0]) (M' := h_si M (h_r M a0 24) (i4).toNatClampNeg i1) rfl).trans ?_
  refine (ev_gI (a_rec (h_si M (h_r M a0 24) (i4).toNatClampNeg i1) 8 [.inr a0, .inl 3, .inl i1, .inl i2, .inl i3] = true ∧ ([] : List mV).length ≤ 8) (as := [.inr a0, .inl 3, .inl i1, .inl i2, .inl i3]) (rr := []) c_169 c_159 rfl).trans (t_i (t_cI ?_) rfl)
  intro v_2 M_1
  exact ev_d c_169 rfl
/- 170: GranuleHallModel.call(I)I -/
set_option maxRecDepth 20000 in
theorem e_170_0 (a0 : Nat) (i1 : Int32) (M : mM) : ev 170 0 [some (.inr a0), some (.inl i1), none, none, none, none] [] M = if (a_rec M 8 [.inr a0] = true ∧ ([] : List mV).length ≤ 8) then (c_I (ev 157 0 [some (.inr a0)] [] M) fun v_2 M_1 => if v_2 = 0 then (if (a_rec M_1 0 [.inl i1] = true ∧ ([] : List mV).length ≤ 8) then (c_I (ev 123 0 [some (.inl i1)] [] M_1) fun v_4 M_3 => if v_4 = 0 then (ev 170 13 [some (.inr a0), some (.inl i1), none, none, none, none] [.inl (-1)] M_3) else (if (a_rec M_3 8 [.inr a0, .inl i1] = true ∧ ([] : List mV).length ≤ 8) then (c_I (ev 160 0 [some (.inr a0), some (.inl i1), none] [] M_3) fun v_6 M_5 => ev 170 13 [some (.inr a0), some (.inl i1), none, none, none, none] [.inl v_6] M_5) else none)) else none) else (some (some (.inl (-1)), M_1))) else none := by
  refine (ev_ns c_170 1 (ip' := 1) (ls' := [some (.inr a0), some (.inl i1), none, none, none, none]) (st' := [.inr a0]) (M' := M) rfl).trans ?_
  refine (ev_gI (a_rec M 8 [.inr a0] = true ∧ ([] : List mV).length ≤ 8) (as := [.inr a0]) (rr := []) c_170 c_157 rfl).trans (t_i (t_cI ?_) rfl)
  intro v_2 M_1
  refine (ev_i (v_2 = 0) (i1 := 5) (l1 := [some (.inr a0), some (.inl i1), none, none, none, none]) (s1 := []) (M1 := M_1) (i2 := 3) (l2 := [some (.inr a0), some (.inl i1), none, none, none, none]) (s2 := []) (M2 := M_1) c_170 rfl).trans (t_i ?_ ?_)
  · skip
    refine (ev_ns c_170 1 (ip' := 6) (ls' := [some (.inr a0), some (.inl i1), none, none, none, none]) (st' := [.inl i1]) (M' := M_1) rfl).trans ?_
    refine (ev_gI (a_rec M_1 0 [.inl i1] = true ∧ ([] : List mV).length ≤ 8) (as := [.inl i1]) (rr := []) c_170 c_123 rfl).trans (t_i (t_cI ?_) rfl)
    intro v_4 M_3
    refine (ev_i (v_4 = 0) (i1 := 12) (l1 := [some (.inr a0), some (.inl i1), none, none, none, none]) (s1 := []) (M1 := M_3) (i2 := 8) (l2 := [some (.inr a0), some (.inl i1), none, none, none, none]) (s2 := []) (M2 := M_3) c_170 rfl).trans (t_i ?_ ?_)
    · skip
      exact ev_ns c_170 1 (ip' := 13) (ls' := [some (.inr a0), some (.inl i1), none, none, none, none]) (st' := [.inl (-1)]) (M' := M_3) rfl
    · skip
      refine (ev_ns c_170 2 (ip' := 10) (ls' := [some (.inr a0), some (.inl i1), none, none, none, none]) (st' := [.inl i1, .inr a0]) (M' := M_3) rfl).trans ?_
      refine (ev_gI (a_rec M_3 8 [.inr a0, .inl i1] = true ∧ ([] : List mV).length ≤ 8) (as := [.inr a0, .inl i1]) (rr := []) c_170 c_160 rfl).trans (t_i (t_cI ?_) rfl)
      intro v_6 M_5
      exact ev_ns c_170 1 (ip' := 13) (ls' := [some (.inr a0), some (.inl i1), none, none, none, none]) (st' := [.inl v_6]) (M' := M_5) rfl
  · skip
    refine (ev_ns c_170 1 (ip' := 4) (ls' := [some (.inr a0), some (.inl i1), none, none, none, none]) (st' := [.inl (-1)]) (M' := M_1) rfl).trans ?_
    exact ev_d c_170 rfl
set_option maxRecDepth 20000 in
theorem e_170_13 (a0 : Nat) (i1 : Int32) (s0 : Int32) (M : mM) : ev 170 13 [some (.inr a0), some (.inl i1), none, none, none, none] [.inl s0] M = if s0 = (-1) then (if (a_rec M 8 [.inr a0] = true ∧ ([] : List mV).length ≤ 8) then (c_I (ev 158 0 [some (.inr a0)] [] M) fun v_2 M_1 => some (some (.inl v_2), M_1)) else none) else (if s0 = (-2) then (if (a_rec M 8 [.inr a0, .inl 5, .inl i1, .inl 0, .inl 0] = true ∧ ([] : List mV).length ≤ 8) then (c_I (ev 159 0 [some (.inr a0), some (.inl 5), some (.inl i1), some (.inl 0), some (.inl 0), none, none] [] M) fun v_4 M_3 => some (some (.inl v_4), M_3)) else none) else (if h_k M a0 = 8 then (if h_k M a0 = 8 then (if h_k M (h_r M a0 20) = 9 ∧ h_in (h_i M a0 2) (h_l M (h_r M a0 20)) then (if h_k (h_si M (h_r M a0 20) ((h_i M a0 2)).toNatClampNeg 1) a0 = 8 then (if h_k (h_si M (h_r M a0 20) ((h_i M a0 2)).toNatClampNeg 1) (h_r (h_si M (h_r M a0 20) ((h_i M a0 2)).toNatClampNeg 1) a0 21) = 9 ∧ h_in (h_i M a0 2) (h_l (h_si M (h_r M a0 20) ((h_i M a0 2)).toNatClampNeg 1) (h_r (h_si M (h_r M a0 20) ((h_i M a0 2)).toNatClampNeg 1) a0 21)) then (if (a_rec (h_si (h_si M (h_r M a0 20) ((h_i M a0 2)).toNatClampNeg 1) (h_r (h_si M (h_r M a0 20) ((h_i M a0 2)).toNatClampNeg 1) a0 21) ((h_i M a0 2)).toNatClampNeg i1) 8 [.inr a0, .inl 2, .inl 0, .inl 0, .inl 0] = true ∧ ([] : List mV).length ≤ 8) then (c_I (ev 159 0 [some (.inr a0), some (.inl 2), some (.inl 0), some (.inl 0), some (.inl 0), none, none] [] (h_si (h_si M (h_r M a0 20) ((h_i M a0 2)).toNatClampNeg 1) (h_r (h_si M (h_r M a0 20) ((h_i M a0 2)).toNatClampNeg 1) a0 21) ((h_i M a0 2)).toNatClampNeg i1)) fun v_6 M_5 => ev 170 52 [some (.inr a0), some (.inl i1), some (.inl s0), some (.inl (h_i M a0 2)), some (.inl v_6), some (.inl 1)] [] M_5) else none) else none) else none) else none) else none) else none)) := by
  refine (ev_ns c_170 3 (ip' := 16) (ls' := [some (.inr a0), some (.inl i1), some (.inl s0), none, none, none]) (st' := [.inl (-1), .inl s0]) (M' := M) rfl).trans ?_
  refine (ev_i (s0 = (-1)) (i1 := 17) (l1 := [some (.inr a0), some (.inl i1), some (.inl s0), none, none, none]) (s1 := []) (M1 := M) (i2 := 20) (l2 := [some (.inr a0), some (.inl i1), some (.inl s0), none, none, none]) (s2 := []) (M2 := M) c_170 rfl).trans (t_i ?_ ?_)
  · skip
    refine (ev_ns c_170 1 (ip' := 18) (ls' := [some (.inr a0), some (.inl i1), some (.inl s0), none, none, none]) (st' := [.inr a0]) (M' := M) rfl).trans ?_
    refine (ev_gI (a_rec M 8 [.inr a0] = true ∧ ([] : List mV).length ≤ 8) (as := [.inr a0]) (rr := []) c_170 c_158 rfl).trans (t_i (t_cI ?_) rfl)
    intro v_2 M_1
    exact ev_d c_170 rfl
  · skip
    refine (ev_ns c_170 2 (ip' := 22) (ls' := [some (.inr a0), some (.inl i1), some (.inl s0), none, none, none]) (st' := [.inl (-2), .inl s0]) (M' := M) rfl).trans ?_
    refine (ev_i (s0 = (-2)) (i1 := 23) (l1 := [some (.inr a0), some (.inl i1), some (.inl s0), none, none, none]) (s1 := []) (M1 := M) (i2 := 30) (l2 := [some (.inr a0), some (.inl i1), some (.inl s0), none, none, none]) (s2 := []) (M2 := M) c_170 rfl).trans (t_i ?_ ?_)
    · skip
      refine (ev_ns c_170 5 (ip' := 28) (ls' := [some (.inr a0), some (.inl i1), some (.inl s0), none, none, none]) (st' := [.inl 0, .inl 0, .inl i1, .inl 5, .inr a0]) (M' := M) rfl).trans ?_
      refine (ev_gI (a_rec M 8 [.inr a0, .inl 5, .inl i1, .inl 0, .inl 0] = true ∧ ([] : List mV).length ≤ 8) (as := [.inr a0, .inl 5, .inl i1, .inl 0, .inl 0]) (rr := []) c_170 c_159 rfl).trans (t_i (t_cI ?_) rfl)
      intro v_4 M_3
      exact ev_d c_170 rfl
    · skip
      refine (ev_ns c_170 1 (ip' := 31) (ls' := [some (.inr a0), some (.inl i1), some (.inl s0), none, none, none]) (st' := [.inr a0]) (M' := M) rfl).trans ?_
      refine (ev_g (h_k M a0 = 8) (ip' := 32) (ls' := [some (.inr a0), some (.inl i1), some (.inl s0), none, none, none]) (st' := [.inl (h_i M a0 2)]) (M' := M) c_170 rfl).trans (t_i ?_ rfl)
      refine (ev_ns c_170 2 (ip' := 34) (ls' := [some (.inr a0), some (.inl i1), some (.inl s0), some (.inl (h_i M a0 2)), none, none]) (st' := [.inr a0]) (M' := M) rfl).trans ?_
      refine (ev_g (h_k M a0 = 8) (ip' := 35) (ls' := [some (.inr a0), some (.inl i1), some (.inl s0), some (.inl (h_i M a0 2)), none, none]) (st' := [.inr (h_r M a0 20)]) (M' := M) c_170 rfl).trans (t_i ?_ rfl)
      refine (ev_ns c_170 2 (ip' := 37) (ls' := [some (.inr a0), some (.inl i1), some (.inl s0), some (.inl (h_i M a0 2)), none, none]) (st' := [.inl 1, .inl (h_i M a0 2), .inr (h_r M a0 20)]) (M' := M) rfl).trans ?_
      refine (ev_g (h_k M (h_r M a0 20) = 9 ∧ h_in (h_i M a0 2) (h_l M (h_r M a0 20))) (ip' := 38) (ls' := [some (.inr a0), some (.inl i1), some (.inl s0), some (.inl (h_i M a0 2)), none, none]) (st' := []) (M' := h_si M (h_r M a0 20) ((h_i M a0 2)).toNatClampNeg 1) c_170 rfl).trans (t_i ?_ rfl)
      refine (ev_ns c_170 1 (ip' := 39) (ls' := [some (.inr a0), some (.inl i1), some (.inl s0), some (.inl (h_i M a0 2)), none, none]) (st' := [.inr a0]) (M' := h_si M (h_r M a0 20) ((h_i M a0 2)).toNatClampNeg 1) rfl).trans ?_
      refine (ev_g (h_k (h_si M (h_r M a0 20) ((h_i M a0 2)).toNatClampNeg 1) a0 = 8) (ip' := 40) (ls' := [some (.inr a0), some (.inl i1), some (.inl s0), some (.inl (h_i M a0 2)), none, none]) (st' := [.inr (h_r (h_si M (h_r M a0 20) ((h_i M a0 2)).toNatClampNeg 1) a0 21)]) (M' := h_si M (h_r M a0 20) ((h_i M a0 2)).toNatClampNeg 1) c_170 rfl).trans (t_i ?_ rfl)
      refine (ev_ns c_170 2 (ip' := 42) (ls' := [some (.inr a0), some (.inl i1), some (.inl s0), some (.inl (h_i M a0 2)), none, none]) (st' := [.inl i1, .inl (h_i M a0 2), .inr (h_r (h_si M (h_r M a0 20) ((h_i M a0 2)).toNatClampNeg 1) a0 21)]) (M' := h_si M (h_r M a0 20) ((h_i M a0 2)).toNatClampNeg 1) rfl).trans ?_
      refine (ev_g (h_k (h_si M (h_r M a0 20) ((h_i M a0 2)).toNatClampNeg 1) (h_r (h_si M (h_r M a0 20) ((h_i M a0 2)).toNatClampNeg 1) a0 21) = 9 ∧ h_in (h_i M a0 2) (h_l (h_si M (h_r M a0 20) ((h_i M a0 2)).toNatClampNeg 1) (h_r (h_si M (h_r M a0 20) ((h_i M a0 2)).toNatClampNeg 1) a0 21))) (ip' := 43) (ls' := [some (.inr a0), some (.inl i1), some (.inl s0), some (.inl (h_i M a0 2)), none, none]) (st' := []) (M' := h_si (h_si M (h_r M a0 20) ((h_i M a0 2)).toNatClampNeg 1) (h_r (h_si M (h_r M a0 20) ((h_i M a0 2)).toNatClampNeg 1) a0 21) ((h_i M a0 2)).toNatClampNeg i1) c_170 rfl).trans (t_i ?_ rfl)
      refine (ev_ns c_170 5 (ip' := 48) (ls' := [some (.inr a0), some (.inl i1), some (.inl s0), some (.inl (h_i M a0 2)), none, none]) (st' := [.inl 0, .inl 0, .inl 0, .inl 2, .inr a0]) (M' := h_si (h_si M (h_r M a0 20) ((h_i M a0 2)).toNatClampNeg 1) (h_r (h_si M (h_r M a0 20) ((h_i M a0 2)).toNatClampNeg 1) a0 21) ((h_i M a0 2)).toNatClampNeg i1) rfl).trans ?_
      refine (ev_gI (a_rec (h_si (h_si M (h_r M a0 20) ((h_i M a0 2)).toNatClampNeg 1) (h_r (h_si M (h_r M a0 20) ((h_i M a0 2)).toNatClampNeg 1) a0 21) ((h_i M a0 2)).toNatClampNeg i1) 8 [.inr a0, .inl 2, .inl 0, .inl 0, .inl 0] = true ∧ ([] : List mV).length ≤ 8) (as := [.inr a0, .inl 2, .inl 0, .inl 0, .inl 0]) (rr := []) c_170 c_159 rfl).trans (t_i (t_cI ?_) rfl)
      intro v_6 M_5
      exact ev_ns c_170 3 (ip' := 52) (ls' := [some (.inr a0), some (.inl i1), some (.inl s0), some (.inl (h_i M a0 2)), some (.inl v_6), some (.inl 1)]) (st' := []) (M' := M_5) rfl
set_option maxRecDepth 20000 in
theorem e_170_52 (a0 : Nat) (i1 : Int32) (i2 : Int32) (i3 : Int32) (i4 : Int32) (i5 : Int32) (M : mM) : ev 170 52 [some (.inr a0), some (.inl i1), some (.inl i2), some (.inl i3), some (.inl i4), some (.inl i5)] [] M = if (8 : Int32) < i5 then (ev 170 84 [some (.inr a0), some (.inl i1), some (.inl i2), some (.inl i3), some (.inl i4), some (.inl i5)] [] M) else (if h_k M a0 = 8 then (if (h_k M (h_r M a0 26) = 9 ∨ h_k M (h_r M a0 26) = 14) ∧ h_in i3 (h_l M (h_r M a0 26)) then (if (a_rec M 8 [.inr a0, .inl (h_i M (h_r M a0 26) (i3).toNatClampNeg), .inl 0] = true ∧ ([] : List mV).length ≤ 8) then (c_I (ev 108 0 [some (.inr a0), some (.inl (h_i M (h_r M a0 26) (i3).toNatClampNeg)), some (.inl 0)] [] M) fun v_2 M_1 => if v_2 = 0 then (ev 170 84 [some (.inr a0), some (.inl i1), some (.inl i2), some (.inl i3), some (.inl i4), some (.inl i5)] [] M_1) else (if h_k M_1 a0 = 8 then (if h_k M_1 a0 = 8 then (if (h_k M_1 (h_r M_1 a0 26) = 9 ∨ h_k M_1 (h_r M_1 a0 26) = 14) ∧ h_in i3 (h_l M_1 (h_r M_1 a0 26)) then (if h_k M_1 a0 = 8 then (if (h_k M_1 (h_r M_1 a0 6) = 9 ∨ h_k M_1 (h_r M_1 a0 6) = 14) ∧ h_in ((32 * i2) + i5) (h_l M_1 (h_r M_1 a0 6)) then (if h_k M_1 (h_r M_1 a0 6) = 9 ∧ h_in ((32 * (h_i M_1 (h_r M_1 a0 26) (i3).toNatClampNeg)) + i5) (h_l M_1 (h_r M_1 a0 6)) then (ev 170 52 [some (.inr a0), some (.inl i1), some (.inl i2), some (.inl i3), some (.inl i4), some (.inl (i5 + 1))] [] (h_si M_1 (h_r M_1 a0 6) (((32 * (h_i M_1 (h_r M_1 a0 26) (i3).toNatClampNeg)) + i5)).toNatClampNeg (h_i M_1 (h_r M_1 a0 6) (((32 * i2) + i5)).toNatClampNeg))) else none) else none) else none) else none) else none) else none)) else none) else none) else none) := by
  refine (ev_ns c_170 2 (ip' := 54) (ls' := [some (.inr a0), some (.inl i1), some (.inl i2), some (.inl i3), some (.inl i4), some (.inl i5)]) (st' := [.inl 8, .inl i5]) (M' := M) rfl).trans ?_
  refine (ev_i ((8 : Int32) < i5) (i1 := 84) (l1 := [some (.inr a0), some (.inl i1), some (.inl i2), some (.inl i3), some (.inl i4), some (.inl i5)]) (s1 := []) (M1 := M) (i2 := 55) (l2 := [some (.inr a0), some (.inl i1), some (.inl i2), some (.inl i3), some (.inl i4), some (.inl i5)]) (s2 := []) (M2 := M) c_170 rfl).trans (t_i ?_ ?_)
  · skip
    exact rfl
  · skip
    refine (ev_ns c_170 2 (ip' := 57) (ls' := [some (.inr a0), some (.inl i1), some (.inl i2), some (.inl i3), some (.inl i4), some (.inl i5)]) (st' := [.inr a0, .inr a0]) (M' := M) rfl).trans ?_
    refine (ev_g (h_k M a0 = 8) (ip' := 58) (ls' := [some (.inr a0), some (.inl i1), some (.inl i2), some (.inl i3), some (.inl i4), some (.inl i5)]) (st' := [.inr (h_r M a0 26), .inr a0]) (M' := M) c_170 rfl).trans (t_i ?_ rfl)
    refine (ev_ns c_170 1 (ip' := 59) (ls' := [some (.inr a0), some (.inl i1), some (.inl i2), some (.inl i3), some (.inl i4), some (.inl i5)]) (st' := [.inl i3, .inr (h_r M a0 26), .inr a0]) (M' := M) rfl).trans ?_
    refine (ev_g ((h_k M (h_r M a0 26) = 9 ∨ h_k M (h_r M a0 26) = 14) ∧ h_in i3 (h_l M (h_r M a0 26))) (ip' := 60) (ls' := [some (.inr a0), some (.inl i1), some (.inl i2), some (.inl i3), some (.inl i4), some (.inl i5)]) (st' := [.inl (h_i M (h_r M a0 26) (i3).toNatClampNeg), .inr a0]) (M' := M) c_170 rfl).trans (t_i ?_ rfl)
    refine (ev_ns c_170 1 (ip' := 61) (ls' := [some (.inr a0), some (.inl i1), some (.inl i2), some (.inl i3), some (.inl i4), some (.inl i5)]) (st' := [.inl 0, .inl (h_i M (h_r M a0 26) (i3).toNatClampNeg), .inr a0]) (M' := M) rfl).trans ?_
    refine (ev_gI (a_rec M 8 [.inr a0, .inl (h_i M (h_r M a0 26) (i3).toNatClampNeg), .inl 0] = true ∧ ([] : List mV).length ≤ 8) (as := [.inr a0, .inl (h_i M (h_r M a0 26) (i3).toNatClampNeg), .inl 0]) (rr := []) c_170 c_108 rfl).trans (t_i (t_cI ?_) rfl)
    intro v_2 M_1
    refine (ev_i (v_2 = 0) (i1 := 84) (l1 := [some (.inr a0), some (.inl i1), some (.inl i2), some (.inl i3), some (.inl i4), some (.inl i5)]) (s1 := []) (M1 := M_1) (i2 := 63) (l2 := [some (.inr a0), some (.inl i1), some (.inl i2), some (.inl i3), some (.inl i4), some (.inl i5)]) (s2 := []) (M2 := M_1) c_170 rfl).trans (t_i ?_ ?_)
    · skip
      exact rfl
    · skip
      refine (ev_ns c_170 1 (ip' := 64) (ls' := [some (.inr a0), some (.inl i1), some (.inl i2), some (.inl i3), some (.inl i4), some (.inl i5)]) (st' := [.inr a0]) (M' := M_1) rfl).trans ?_
      refine (ev_g (h_k M_1 a0 = 8) (ip' := 65) (ls' := [some (.inr a0), some (.inl i1), some (.inl i2), some (.inl i3), some (.inl i4), some (.inl i5)]) (st' := [.inr (h_r M_1 a0 6)]) (M' := M_1) c_170 rfl).trans (t_i ?_ rfl)
      refine (ev_ns c_170 2 (ip' := 67) (ls' := [some (.inr a0), some (.inl i1), some (.inl i2), some (.inl i3), some (.inl i4), some (.inl i5)]) (st' := [.inr a0, .inl 32, .inr (h_r M_1 a0 6)]) (M' := M_1) rfl).trans ?_
      refine (ev_g (h_k M_1 a0 = 8) (ip' := 68) (ls' := [some (.inr a0), some (.inl i1), some (.inl i2), some (.inl i3), some (.inl i4), some (.inl i5)]) (st' := [.inr (h_r M_1 a0 26), .inl 32, .inr (h_r M_1 a0 6)]) (M' := M_1) c_170 rfl).trans (t_i ?_ rfl)
      refine (ev_ns c_170 1 (ip' := 69) (ls' := [some (.inr a0), some (.inl i1), some (.inl i2), some (.inl i3), some (.inl i4), some (.inl i5)]) (st' := [.inl i3, .inr (h_r M_1 a0 26), .inl 32, .inr (h_r M_1 a0 6)]) (M' := M_1) rfl).trans ?_
      refine (ev_g ((h_k M_1 (h_r M_1 a0 26) = 9 ∨ h_k M_1 (h_r M_1 a0 26) = 14) ∧ h_in i3 (h_l M_1 (h_r M_1 a0 26))) (ip' := 70) (ls' := [some (.inr a0), some (.inl i1), some (.inl i2), some (.inl i3), some (.inl i4), some (.inl i5)]) (st' := [.inl (h_i M_1 (h_r M_1 a0 26) (i3).toNatClampNeg), .inl 32, .inr (h_r M_1 a0 6)]) (M' := M_1) c_170 rfl).trans (t_i ?_ rfl)
      refine (ev_ns c_170 4 (ip' := 74) (ls' := [some (.inr a0), some (.inl i1), some (.inl i2), some (.inl i3), some (.inl i4), some (.inl i5)]) (st' := [.inr a0, .inl ((32 * (h_i M_1 (h_r M_1 a0 26) (i3).toNatClampNeg)) + i5), .inr (h_r M_1 a0 6)]) (M' := M_1) rfl).trans ?_
      refine (ev_g (h_k M_1 a0 = 8) (ip' := 75) (ls' := [some (.inr a0), some (.inl i1), some (.inl i2), some (.inl i3), some (.inl i4), some (.inl i5)]) (st' := [.inr (h_r M_1 a0 6), .inl ((32 * (h_i M_1 (h_r M_1 a0 26) (i3).toNatClampNeg)) + i5), .inr (h_r M_1 a0 6)]) (M' := M_1) c_170 rfl).trans (t_i ?_ rfl)
      refine (ev_ns c_170 5 (ip' := 80) (ls' := [some (.inr a0), some (.inl i1), some (.inl i2), some (.inl i3), some (.inl i4), some (.inl i5)]) (st' := [.inl ((32 * i2) + i5), .inr (h_r M_1 a0 6), .inl ((32 * (h_i M_1 (h_r M_1 a0 26) (i3).toNatClampNeg)) + i5), .inr (h_r M_1 a0 6)]) (M' := M_1) rfl).trans ?_
      refine (ev_g ((h_k M_1 (h_r M_1 a0 6) = 9 ∨ h_k M_1 (h_r M_1 a0 6) = 14) ∧ h_in ((32 * i2) + i5) (h_l M_1 (h_r M_1 a0 6))) (ip' := 81) (ls' := [some (.inr a0), some (.inl i1), some (.inl i2), some (.inl i3), some (.inl i4), some (.inl i5)]) (st' := [.inl (h_i M_1 (h_r M_1 a0 6) (((32 * i2) + i5)).toNatClampNeg), .inl ((32 * (h_i M_1 (h_r M_1 a0 26) (i3).toNatClampNeg)) + i5), .inr (h_r M_1 a0 6)]) (M' := M_1) c_170 rfl).trans (t_i ?_ rfl)
      refine (ev_g (h_k M_1 (h_r M_1 a0 6) = 9 ∧ h_in ((32 * (h_i M_1 (h_r M_1 a0 26) (i3).toNatClampNeg)) + i5) (h_l M_1 (h_r M_1 a0 6))) (ip' := 82) (ls' := [some (.inr a0), some (.inl i1), some (.inl i2), some (.inl i3), some (.inl i4), some (.inl i5)]) (st' := []) (M' := h_si M_1 (h_r M_1 a0 6) (((32 * (h_i M_1 (h_r M_1 a0 26) (i3).toNatClampNeg)) + i5)).toNatClampNeg (h_i M_1 (h_r M_1 a0 6) (((32 * i2) + i5)).toNatClampNeg)) c_170 rfl).trans (t_i ?_ rfl)
      exact ev_ns c_170 2 (ip' := 52) (ls' := [some (.inr a0), some (.inl i1), some (.inl i2), some (.inl i3), some (.inl i4), some (.inl (i5 + 1))]) (st' := []) (M' := h_si M_1 (h_r M_1 a0 6) (((32 * (h_i M_1 (h_r M_1 a0 26) (i3).toNatClampNeg)) + i5)).toNatClampNeg (h_i M_1 (h_r M_1 a0 6) (((32 * i2) + i5)).toNatClampNeg)) rfl
set_option maxRecDepth 20000 in
theorem e_170_84 (a0 : Nat) (i1 : Int32) (i2 : Int32) (i3 : Int32) (i4 : Int32) (i5 : Int32) (M : mM) : ev 170 84 [some (.inr a0), some (.inl i1), some (.inl i2), some (.inl i3), some (.inl i4), some (.inl i5)] [] M = some (some (.inl i4), M) := by
  refine (ev_ns c_170 1 (ip' := 85) (ls' := [some (.inr a0), some (.inl i1), some (.inl i2), some (.inl i3), some (.inl i4), some (.inl i5)]) (st' := [.inl i4]) (M' := M) rfl).trans ?_
  exact ev_d c_170 rfl
/- 171: GranuleHallModel.measure(I)I -/
set_option maxRecDepth 20000 in
theorem e_171_0 (a0 : Nat) (i1 : Int32) (M : mM) : ev 171 0 [some (.inr a0), some (.inl i1), none] [] M = if (a_rec M 8 [.inr a0] = true ∧ ([] : List mV).length ≤ 8) then (c_I (ev 157 0 [some (.inr a0)] [] M) fun v_2 M_1 => if v_2 = 0 then (if i1 < 0 then (ev 171 10 [some (.inr a0), some (.inl i1), none] [] M_1) else (if i1 ≤ 4 then (ev 171 15 [some (.inr a0), some (.inl i1), some (.inl 0)] [] M_1) else (ev 171 10 [some (.inr a0), some (.inl i1), none] [] M_1))) else (some (some (.inl (-1)), M_1))) else none := by
  refine (ev_ns c_171 1 (ip' := 1) (ls' := [some (.inr a0), some (.inl i1), none]) (st' := [.inr a0]) (M' := M) rfl).trans ?_
  refine (ev_gI (a_rec M 8 [.inr a0] = true ∧ ([] : List mV).length ≤ 8) (as := [.inr a0]) (rr := []) c_171 c_157 rfl).trans (t_i (t_cI ?_) rfl)
  intro v_2 M_1
  refine (ev_i (v_2 = 0) (i1 := 5) (l1 := [some (.inr a0), some (.inl i1), none]) (s1 := []) (M1 := M_1) (i2 := 3) (l2 := [some (.inr a0), some (.inl i1), none]) (s2 := []) (M2 := M_1) c_171 rfl).trans (t_i ?_ ?_)
  · skip
    refine (ev_ns c_171 1 (ip' := 6) (ls' := [some (.inr a0), some (.inl i1), none]) (st' := [.inl i1]) (M' := M_1) rfl).trans ?_
    refine (ev_i (i1 < 0) (i1 := 10) (l1 := [some (.inr a0), some (.inl i1), none]) (s1 := []) (M1 := M_1) (i2 := 7) (l2 := [some (.inr a0), some (.inl i1), none]) (s2 := []) (M2 := M_1) c_171 rfl).trans (t_i ?_ ?_)
    · skip
      exact rfl
    · skip
      refine (ev_ns c_171 2 (ip' := 9) (ls' := [some (.inr a0), some (.inl i1), none]) (st' := [.inl 4, .inl i1]) (M' := M_1) rfl).trans ?_
      refine (ev_i (i1 ≤ 4) (i1 := 13) (l1 := [some (.inr a0), some (.inl i1), none]) (s1 := []) (M1 := M_1) (i2 := 10) (l2 := [some (.inr a0), some (.inl i1), none]) (s2 := []) (M2 := M_1) c_171 rfl).trans (t_i ?_ ?_)
      · skip
        exact ev_ns c_171 2 (ip' := 15) (ls' := [some (.inr a0), some (.inl i1), some (.inl 0)]) (st' := []) (M' := M_1) rfl
      · skip
        exact rfl
  · skip
    refine (ev_ns c_171 1 (ip' := 4) (ls' := [some (.inr a0), some (.inl i1), none]) (st' := [.inl (-1)]) (M' := M_1) rfl).trans ?_
    exact ev_d c_171 rfl
set_option maxRecDepth 20000 in
theorem e_171_10 (a0 : Nat) (i1 : Int32) (M : mM) : ev 171 10 [some (.inr a0), some (.inl i1), none] [] M = if (a_rec M 8 [.inr a0] = true ∧ ([] : List mV).length ≤ 8) then (c_I (ev 158 0 [some (.inr a0)] [] M) fun v_2 M_1 => some (some (.inl v_2), M_1)) else none := by
  refine (ev_ns c_171 1 (ip' := 11) (ls' := [some (.inr a0), some (.inl i1), none]) (st' := [.inr a0]) (M' := M) rfl).trans ?_
  refine (ev_gI (a_rec M 8 [.inr a0] = true ∧ ([] : List mV).length ≤ 8) (as := [.inr a0]) (rr := []) c_171 c_158 rfl).trans (t_i (t_cI ?_) rfl)
  intro v_2 M_1
  exact ev_d c_171 rfl
set_option maxRecDepth 20000 in
theorem e_171_15 (a0 : Nat) (i1 : Int32) (i2 : Int32) (M : mM) : ev 171 15 [some (.inr a0), some (.inl i1), some (.inl i2)] [] M = if (8 : Int32) ≤ i2 then (some (some (.inl 0), M)) else (if h_k M a0 = 8 then (if h_k M a0 = 8 then (if h_k M a0 = 8 then (if h_k M a0 = 8 then (if h_k M a0 = 8 then (if (h_k M (h_r M a0 7) = 9 ∨ h_k M (h_r M a0 7) = 14) ∧ h_in (h_i M a0 2) (h_l M (h_r M a0 7)) then (if (h_k M (h_r M a0 11) = 9 ∨ h_k M (h_r M a0 11) = 14) ∧ h_in (((40 * (h_i M (h_r M a0 7) ((h_i M a0 2)).toNatClampNeg)) + (8 * i1)) + i2) (h_l M (h_r M a0 11)) then (if h_k M (h_r M a0 19) = 9 ∧ h_in ((8 * (h_i M a0 2)) + i2) (h_l M (h_r M a0 19)) then (ev 171 15 [some (.inr a0), some (.inl i1), some (.inl (i2 + 1))] [] (h_si M (h_r M a0 19) (((8 * (h_i M a0 2)) + i2)).toNatClampNeg (h_i M (h_r M a0 11) ((((40 * (h_i M (h_r M a0 7) ((h_i M a0 2)).toNatClampNeg)) + (8 * i1)) + i2)).toNatClampNeg))) else none) else none) else none) else none) else none) else none) else none) else none) := by
  refine (ev_ns c_171 2 (ip' := 17) (ls' := [some (.inr a0), some (.inl i1), some (.inl i2)]) (st' := [.inl 8, .inl i2]) (M' := M) rfl).trans ?_
  refine (ev_i ((8 : Int32) ≤ i2) (i1 := 45) (l1 := [some (.inr a0), some (.inl i1), some (.inl i2)]) (s1 := []) (M1 := M) (i2 := 18) (l2 := [some (.inr a0), some (.inl i1), some (.inl i2)]) (s2 := []) (M2 := M) c_171 rfl).trans (t_i ?_ ?_)
  · skip
    refine (ev_ns c_171 1 (ip' := 46) (ls' := [some (.inr a0), some (.inl i1), some (.inl i2)]) (st' := [.inl 0]) (M' := M) rfl).trans ?_
    exact ev_d c_171 rfl
  · skip
    refine (ev_ns c_171 1 (ip' := 19) (ls' := [some (.inr a0), some (.inl i1), some (.inl i2)]) (st' := [.inr a0]) (M' := M) rfl).trans ?_
    refine (ev_g (h_k M a0 = 8) (ip' := 20) (ls' := [some (.inr a0), some (.inl i1), some (.inl i2)]) (st' := [.inr (h_r M a0 19)]) (M' := M) c_171 rfl).trans (t_i ?_ rfl)
    refine (ev_ns c_171 2 (ip' := 22) (ls' := [some (.inr a0), some (.inl i1), some (.inl i2)]) (st' := [.inr a0, .inl 8, .inr (h_r M a0 19)]) (M' := M) rfl).trans ?_
    refine (ev_g (h_k M a0 = 8) (ip' := 23) (ls' := [some (.inr a0), some (.inl i1), some (.inl i2)]) (st' := [.inl (h_i M a0 2), .inl 8, .inr (h_r M a0 19)]) (M' := M) c_171 rfl).trans (t_i ?_ rfl)
    refine (ev_ns c_171 4 (ip' := 27) (ls' := [some (.inr a0), some (.inl i1), some (.inl i2)]) (st' := [.inr a0, .inl ((8 * (h_i M a0 2)) + i2), .inr (h_r M a0 19)]) (M' := M) rfl).trans ?_
    refine (ev_g (h_k M a0 = 8) (ip' := 28) (ls' := [some (.inr a0), some (.inl i1), some (.inl i2)]) (st' := [.inr (h_r M a0 11), .inl ((8 * (h_i M a0 2)) + i2), .inr (h_r M a0 19)]) (M' := M) c_171 rfl).trans (t_i ?_ rfl)
    refine (ev_ns c_171 2 (ip' := 30) (ls' := [some (.inr a0), some (.inl i1), some (.inl i2)]) (st' := [.inr a0, .inl 40, .inr (h_r M a0 11), .inl ((8 * (h_i M a0 2)) + i2), .inr (h_r M a0 19)]) (M' := M) rfl).trans ?_
    refine (ev_g (h_k M a0 = 8) (ip' := 31) (ls' := [some (.inr a0), some (.inl i1), some (.inl i2)]) (st' := [.inr (h_r M a0 7), .inl 40, .inr (h_r M a0 11), .inl ((8 * (h_i M a0 2)) + i2), .inr (h_r M a0 19)]) (M' := M) c_171 rfl).trans (t_i ?_ rfl)
    refine (ev_ns c_171 1 (ip' := 32) (ls' := [some (.inr a0), some (.inl i1), some (.inl i2)]) (st' := [.inr a0, .inr (h_r M a0 7), .inl 40, .inr (h_r M a0 11), .inl ((8 * (h_i M a0 2)) + i2), .inr (h_r M a0 19)]) (M' := M) rfl).trans ?_
    refine (ev_g (h_k M a0 = 8) (ip' := 33) (ls' := [some (.inr a0), some (.inl i1), some (.inl i2)]) (st' := [.inl (h_i M a0 2), .inr (h_r M a0 7), .inl 40, .inr (h_r M a0 11), .inl ((8 * (h_i M a0 2)) + i2), .inr (h_r M a0 19)]) (M' := M) c_171 rfl).trans (t_i ?_ rfl)
    refine (ev_g ((h_k M (h_r M a0 7) = 9 ∨ h_k M (h_r M a0 7) = 14) ∧ h_in (h_i M a0 2) (h_l M (h_r M a0 7))) (ip' := 34) (ls' := [some (.inr a0), some (.inl i1), some (.inl i2)]) (st' := [.inl (h_i M (h_r M a0 7) ((h_i M a0 2)).toNatClampNeg), .inl 40, .inr (h_r M a0 11), .inl ((8 * (h_i M a0 2)) + i2), .inr (h_r M a0 19)]) (M' := M) c_171 rfl).trans (t_i ?_ rfl)
    refine (ev_ns c_171 7 (ip' := 41) (ls' := [some (.inr a0), some (.inl i1), some (.inl i2)]) (st' := [.inl (((40 * (h_i M (h_r M a0 7) ((h_i M a0 2)).toNatClampNeg)) + (8 * i1)) + i2), .inr (h_r M a0 11), .inl ((8 * (h_i M a0 2)) + i2), .inr (h_r M a0 19)]) (M' := M) rfl).trans ?_
    refine (ev_g ((h_k M (h_r M a0 11) = 9 ∨ h_k M (h_r M a0 11) = 14) ∧ h_in (((40 * (h_i M (h_r M a0 7) ((h_i M a0 2)).toNatClampNeg)) + (8 * i1)) + i2) (h_l M (h_r M a0 11))) (ip' := 42) (ls' := [some (.inr a0), some (.inl i1), some (.inl i2)]) (st' := [.inl (h_i M (h_r M a0 11) ((((40 * (h_i M (h_r M a0 7) ((h_i M a0 2)).toNatClampNeg)) + (8 * i1)) + i2)).toNatClampNeg), .inl ((8 * (h_i M a0 2)) + i2), .inr (h_r M a0 19)]) (M' := M) c_171 rfl).trans (t_i ?_ rfl)
    refine (ev_g (h_k M (h_r M a0 19) = 9 ∧ h_in ((8 * (h_i M a0 2)) + i2) (h_l M (h_r M a0 19))) (ip' := 43) (ls' := [some (.inr a0), some (.inl i1), some (.inl i2)]) (st' := []) (M' := h_si M (h_r M a0 19) (((8 * (h_i M a0 2)) + i2)).toNatClampNeg (h_i M (h_r M a0 11) ((((40 * (h_i M (h_r M a0 7) ((h_i M a0 2)).toNatClampNeg)) + (8 * i1)) + i2)).toNatClampNeg)) c_171 rfl).trans (t_i ?_ rfl)
    exact ev_ns c_171 2 (ip' := 15) (ls' := [some (.inr a0), some (.inl i1), some (.inl (i2 + 1))]) (st' := []) (M' := h_si M (h_r M a0 19) (((8 * (h_i M a0 2)) + i2)).toNatClampNeg (h_i M (h_r M a0 11) ((((40 * (h_i M (h_r M a0 7) ((h_i M a0 2)).toNatClampNeg)) + (8 * i1)) + i2)).toNatClampNeg)) rfl
/- 172: GranuleHallModel.extend(I)I -/
set_option maxRecDepth 20000 in
theorem e_172_0 (a0 : Nat) (i1 : Int32) (M : mM) : ev 172 0 [some (.inr a0), some (.inl i1), none] [] M = if (a_rec M 8 [.inr a0] = true ∧ ([] : List mV).length ≤ 8) then (c_I (ev 157 0 [some (.inr a0)] [] M) fun v_2 M_1 => if v_2 = 0 then (if i1 < 1 then (ev 172 11 [some (.inr a0), some (.inl i1), none] [] M_1) else (if i1 ≤ 4 then (if h_k M_1 a0 = 8 then (if h_k M_1 a0 = 8 then (if (h_k M_1 (h_r M_1 a0 7) = 9 ∨ h_k M_1 (h_r M_1 a0 7) = 14) ∧ h_in (h_i M_1 a0 2) (h_l M_1 (h_r M_1 a0 7)) then (if (a_rec M_1 8 [.inr a0, .inl (h_i M_1 (h_r M_1 a0 7) ((h_i M_1 a0 2)).toNatClampNeg), .inl i1] = true ∧ ([] : List mV).length ≤ 8) then (c_V (ev 112 0 [some (.inr a0), some (.inl (h_i M_1 (h_r M_1 a0 7) ((h_i M_1 a0 2)).toNatClampNeg)), some (.inl i1), none] [] M_1) fun M_3 => ev 172 24 [some (.inr a0), some (.inl i1), some (.inl 0)] [] M_3) else none) else none) else none) else none) else (ev 172 11 [some (.inr a0), some (.inl i1), none] [] M_1))) else (some (some (.inl (-1)), M_1))) else none := by
  refine (ev_ns c_172 1 (ip' := 1) (ls' := [some (.inr a0), some (.inl i1), none]) (st' := [.inr a0]) (M' := M) rfl).trans ?_
  refine (ev_gI (a_rec M 8 [.inr a0] = true ∧ ([] : List mV).length ≤ 8) (as := [.inr a0]) (rr := []) c_172 c_157 rfl).trans (t_i (t_cI ?_) rfl)
  intro v_2 M_1
  refine (ev_i (v_2 = 0) (i1 := 5) (l1 := [some (.inr a0), some (.inl i1), none]) (s1 := []) (M1 := M_1) (i2 := 3) (l2 := [some (.inr a0), some (.inl i1), none]) (s2 := []) (M2 := M_1) c_172 rfl).trans (t_i ?_ ?_)
  · skip
    refine (ev_ns c_172 2 (ip' := 7) (ls' := [some (.inr a0), some (.inl i1), none]) (st' := [.inl 1, .inl i1]) (M' := M_1) rfl).trans ?_
    refine (ev_i (i1 < 1) (i1 := 11) (l1 := [some (.inr a0), some (.inl i1), none]) (s1 := []) (M1 := M_1) (i2 := 8) (l2 := [some (.inr a0), some (.inl i1), none]) (s2 := []) (M2 := M_1) c_172 rfl).trans (t_i ?_ ?_)
    · skip
      exact rfl
    · skip
      refine (ev_ns c_172 2 (ip' := 10) (ls' := [some (.inr a0), some (.inl i1), none]) (st' := [.inl 4, .inl i1]) (M' := M_1) rfl).trans ?_
      refine (ev_i (i1 ≤ 4) (i1 := 14) (l1 := [some (.inr a0), some (.inl i1), none]) (s1 := []) (M1 := M_1) (i2 := 11) (l2 := [some (.inr a0), some (.inl i1), none]) (s2 := []) (M2 := M_1) c_172 rfl).trans (t_i ?_ ?_)
      · skip
        refine (ev_ns c_172 2 (ip' := 16) (ls' := [some (.inr a0), some (.inl i1), none]) (st' := [.inr a0, .inr a0]) (M' := M_1) rfl).trans ?_
        refine (ev_g (h_k M_1 a0 = 8) (ip' := 17) (ls' := [some (.inr a0), some (.inl i1), none]) (st' := [.inr (h_r M_1 a0 7), .inr a0]) (M' := M_1) c_172 rfl).trans (t_i ?_ rfl)
        refine (ev_ns c_172 1 (ip' := 18) (ls' := [some (.inr a0), some (.inl i1), none]) (st' := [.inr a0, .inr (h_r M_1 a0 7), .inr a0]) (M' := M_1) rfl).trans ?_
        refine (ev_g (h_k M_1 a0 = 8) (ip' := 19) (ls' := [some (.inr a0), some (.inl i1), none]) (st' := [.inl (h_i M_1 a0 2), .inr (h_r M_1 a0 7), .inr a0]) (M' := M_1) c_172 rfl).trans (t_i ?_ rfl)
        refine (ev_g ((h_k M_1 (h_r M_1 a0 7) = 9 ∨ h_k M_1 (h_r M_1 a0 7) = 14) ∧ h_in (h_i M_1 a0 2) (h_l M_1 (h_r M_1 a0 7))) (ip' := 20) (ls' := [some (.inr a0), some (.inl i1), none]) (st' := [.inl (h_i M_1 (h_r M_1 a0 7) ((h_i M_1 a0 2)).toNatClampNeg), .inr a0]) (M' := M_1) c_172 rfl).trans (t_i ?_ rfl)
        refine (ev_ns c_172 1 (ip' := 21) (ls' := [some (.inr a0), some (.inl i1), none]) (st' := [.inl i1, .inl (h_i M_1 (h_r M_1 a0 7) ((h_i M_1 a0 2)).toNatClampNeg), .inr a0]) (M' := M_1) rfl).trans ?_
        refine (ev_gV (a_rec M_1 8 [.inr a0, .inl (h_i M_1 (h_r M_1 a0 7) ((h_i M_1 a0 2)).toNatClampNeg), .inl i1] = true ∧ ([] : List mV).length ≤ 8) (as := [.inr a0, .inl (h_i M_1 (h_r M_1 a0 7) ((h_i M_1 a0 2)).toNatClampNeg), .inl i1]) (rr := []) c_172 c_112 rfl).trans (t_i (t_cV ?_) rfl)
        intro M_3
        exact ev_ns c_172 2 (ip' := 24) (ls' := [some (.inr a0), some (.inl i1), some (.inl 0)]) (st' := []) (M' := M_3) rfl
      · skip
        exact rfl
  · skip
    refine (ev_ns c_172 1 (ip' := 4) (ls' := [some (.inr a0), some (.inl i1), none]) (st' := [.inl (-1)]) (M' := M_1) rfl).trans ?_
    exact ev_d c_172 rfl
set_option maxRecDepth 20000 in
theorem e_172_11 (a0 : Nat) (i1 : Int32) (M : mM) : ev 172 11 [some (.inr a0), some (.inl i1), none] [] M = if (a_rec M 8 [.inr a0] = true ∧ ([] : List mV).length ≤ 8) then (c_I (ev 158 0 [some (.inr a0)] [] M) fun v_2 M_1 => some (some (.inl v_2), M_1)) else none := by
  refine (ev_ns c_172 1 (ip' := 12) (ls' := [some (.inr a0), some (.inl i1), none]) (st' := [.inr a0]) (M' := M) rfl).trans ?_
  refine (ev_gI (a_rec M 8 [.inr a0] = true ∧ ([] : List mV).length ≤ 8) (as := [.inr a0]) (rr := []) c_172 c_158 rfl).trans (t_i (t_cI ?_) rfl)
  intro v_2 M_1
  exact ev_d c_172 rfl
set_option maxRecDepth 20000 in
theorem e_172_24 (a0 : Nat) (i1 : Int32) (i2 : Int32) (M : mM) : ev 172 24 [some (.inr a0), some (.inl i1), some (.inl i2)] [] M = if (8 : Int32) ≤ i2 then (if h_k M a0 = 8 then (if h_k M a0 = 8 then (if (h_k M (h_r M a0 7) = 9 ∨ h_k M (h_r M a0 7) = 14) ∧ h_in (h_i M a0 2) (h_l M (h_r M a0 7)) then (if (a_rec M 8 [.inr a0, .inl (h_i M (h_r M a0 7) ((h_i M a0 2)).toNatClampNeg), .inl i1] = true ∧ ([] : List mV).length ≤ 8) then (c_V (ev 115 0 [some (.inr a0), some (.inl (h_i M (h_r M a0 7) ((h_i M a0 2)).toNatClampNeg)), some (.inl i1), none] [] M) fun M_1 => some (some (.inl 0), M_1)) else none) else none) else none) else none) else (if h_k M a0 = 8 then (if h_k M a0 = 8 then (if (h_k M (h_r M a0 19) = 9 ∨ h_k M (h_r M a0 19) = 14) ∧ h_in ((8 * (h_i M a0 2)) + i2) (h_l M (h_r M a0 19)) then (if (a_rec M 8 [.inr a0, .inl (h_i M (h_r M a0 19) (((8 * (h_i M a0 2)) + i2)).toNatClampNeg)] = true ∧ ([] : List mV).length ≤ 8) then (c_V (ev 111 0 [some (.inr a0), some (.inl (h_i M (h_r M a0 19) (((8 * (h_i M a0 2)) + i2)).toNatClampNeg))] [] M) fun M_2 => ev 172 24 [some (.inr a0), some (.inl i1), some (.inl (i2 + 1))] [] M_2) else none) else none) else none) else none) := by
  refine (ev_ns c_172 2 (ip' := 26) (ls' := [some (.inr a0), some (.inl i1), some (.inl i2)]) (st' := [.inl 8, .inl i2]) (M' := M) rfl).trans ?_
  refine (ev_i ((8 : Int32) ≤ i2) (i1 := 40) (l1 := [some (.inr a0), some (.inl i1), some (.inl i2)]) (s1 := []) (M1 := M) (i2 := 27) (l2 := [some (.inr a0), some (.inl i1), some (.inl i2)]) (s2 := []) (M2 := M) c_172 rfl).trans (t_i ?_ ?_)
  · skip
    refine (ev_ns c_172 2 (ip' := 42) (ls' := [some (.inr a0), some (.inl i1), some (.inl i2)]) (st' := [.inr a0, .inr a0]) (M' := M) rfl).trans ?_
    refine (ev_g (h_k M a0 = 8) (ip' := 43) (ls' := [some (.inr a0), some (.inl i1), some (.inl i2)]) (st' := [.inr (h_r M a0 7), .inr a0]) (M' := M) c_172 rfl).trans (t_i ?_ rfl)
    refine (ev_ns c_172 1 (ip' := 44) (ls' := [some (.inr a0), some (.inl i1), some (.inl i2)]) (st' := [.inr a0, .inr (h_r M a0 7), .inr a0]) (M' := M) rfl).trans ?_
    refine (ev_g (h_k M a0 = 8) (ip' := 45) (ls' := [some (.inr a0), some (.inl i1), some (.inl i2)]) (st' := [.inl (h_i M a0 2), .inr (h_r M a0 7), .inr a0]) (M' := M) c_172 rfl).trans (t_i ?_ rfl)
    refine (ev_g ((h_k M (h_r M a0 7) = 9 ∨ h_k M (h_r M a0 7) = 14) ∧ h_in (h_i M a0 2) (h_l M (h_r M a0 7))) (ip' := 46) (ls' := [some (.inr a0), some (.inl i1), some (.inl i2)]) (st' := [.inl (h_i M (h_r M a0 7) ((h_i M a0 2)).toNatClampNeg), .inr a0]) (M' := M) c_172 rfl).trans (t_i ?_ rfl)
    refine (ev_ns c_172 1 (ip' := 47) (ls' := [some (.inr a0), some (.inl i1), some (.inl i2)]) (st' := [.inl i1, .inl (h_i M (h_r M a0 7) ((h_i M a0 2)).toNatClampNeg), .inr a0]) (M' := M) rfl).trans ?_
    refine (ev_gV (a_rec M 8 [.inr a0, .inl (h_i M (h_r M a0 7) ((h_i M a0 2)).toNatClampNeg), .inl i1] = true ∧ ([] : List mV).length ≤ 8) (as := [.inr a0, .inl (h_i M (h_r M a0 7) ((h_i M a0 2)).toNatClampNeg), .inl i1]) (rr := []) c_172 c_115 rfl).trans (t_i (t_cV ?_) rfl)
    intro M_1
    refine (ev_ns c_172 1 (ip' := 49) (ls' := [some (.inr a0), some (.inl i1), some (.inl i2)]) (st' := [.inl 0]) (M' := M_1) rfl).trans ?_
    exact ev_d c_172 rfl
  · skip
    refine (ev_ns c_172 2 (ip' := 29) (ls' := [some (.inr a0), some (.inl i1), some (.inl i2)]) (st' := [.inr a0, .inr a0]) (M' := M) rfl).trans ?_
    refine (ev_g (h_k M a0 = 8) (ip' := 30) (ls' := [some (.inr a0), some (.inl i1), some (.inl i2)]) (st' := [.inr (h_r M a0 19), .inr a0]) (M' := M) c_172 rfl).trans (t_i ?_ rfl)
    refine (ev_ns c_172 2 (ip' := 32) (ls' := [some (.inr a0), some (.inl i1), some (.inl i2)]) (st' := [.inr a0, .inl 8, .inr (h_r M a0 19), .inr a0]) (M' := M) rfl).trans ?_
    refine (ev_g (h_k M a0 = 8) (ip' := 33) (ls' := [some (.inr a0), some (.inl i1), some (.inl i2)]) (st' := [.inl (h_i M a0 2), .inl 8, .inr (h_r M a0 19), .inr a0]) (M' := M) c_172 rfl).trans (t_i ?_ rfl)
    refine (ev_ns c_172 3 (ip' := 36) (ls' := [some (.inr a0), some (.inl i1), some (.inl i2)]) (st' := [.inl ((8 * (h_i M a0 2)) + i2), .inr (h_r M a0 19), .inr a0]) (M' := M) rfl).trans ?_
    refine (ev_g ((h_k M (h_r M a0 19) = 9 ∨ h_k M (h_r M a0 19) = 14) ∧ h_in ((8 * (h_i M a0 2)) + i2) (h_l M (h_r M a0 19))) (ip' := 37) (ls' := [some (.inr a0), some (.inl i1), some (.inl i2)]) (st' := [.inl (h_i M (h_r M a0 19) (((8 * (h_i M a0 2)) + i2)).toNatClampNeg), .inr a0]) (M' := M) c_172 rfl).trans (t_i ?_ rfl)
    refine (ev_gV (a_rec M 8 [.inr a0, .inl (h_i M (h_r M a0 19) (((8 * (h_i M a0 2)) + i2)).toNatClampNeg)] = true ∧ ([] : List mV).length ≤ 8) (as := [.inr a0, .inl (h_i M (h_r M a0 19) (((8 * (h_i M a0 2)) + i2)).toNatClampNeg)]) (rr := []) c_172 c_111 rfl).trans (t_i (t_cV ?_) rfl)
    intro M_2
    exact ev_ns c_172 2 (ip' := 24) (ls' := [some (.inr a0), some (.inl i1), some (.inl (i2 + 1))]) (st' := []) (M' := M_2) rfl
/- 173: GranuleHallModel.attest(I)I -/
set_option maxRecDepth 20000 in
theorem e_173_0 (a0 : Nat) (i1 : Int32) (M : mM) : ev 173 0 [some (.inr a0), some (.inl i1), none, none, none, none] [] M = if (a_rec M 8 [.inr a0] = true ∧ ([] : List mV).length ≤ 8) then (c_I (ev 157 0 [some (.inr a0)] [] M) fun v_2 M_1 => if v_2 = 0 then (if (a_rec M_1 0 [.inl i1] = true ∧ ([] : List mV).length ≤ 8) then (c_I (ev 123 0 [some (.inl i1)] [] M_1) fun v_4 M_3 => if v_4 = 0 then (ev 173 13 [some (.inr a0), some (.inl i1), none, none, none, none] [.inl (-1)] M_3) else (if (a_rec M_3 8 [.inr a0, .inl i1] = true ∧ ([] : List mV).length ≤ 8) then (c_I (ev 160 0 [some (.inr a0), some (.inl i1), none] [] M_3) fun v_6 M_5 => ev 173 13 [some (.inr a0), some (.inl i1), none, none, none, none] [.inl v_6] M_5) else none)) else none) else (some (some (.inl (-1)), M_1))) else none := by
  refine (ev_ns c_173 1 (ip' := 1) (ls' := [some (.inr a0), some (.inl i1), none, none, none, none]) (st' := [.inr a0]) (M' := M) rfl).trans ?_
  refine (ev_gI (a_rec M 8 [.inr a0] = true ∧ ([] : List mV).length ≤ 8) (as := [.inr a0]) (rr := []) c_173 c_157 rfl).trans (t_i (t_cI ?_) rfl)
  intro v_2 M_1
  refine (ev_i (v_2 = 0) (i1 := 5) (l1 := [some (.inr a0), some (.inl i1), none, none, none, none]) (s1 := []) (M1 := M_1) (i2 := 3) (l2 := [some (.inr a0), some (.inl i1), none, none, none, none]) (s2 := []) (M2 := M_1) c_173 rfl).trans (t_i ?_ ?_)
  · skip
    refine (ev_ns c_173 1 (ip' := 6) (ls' := [some (.inr a0), some (.inl i1), none, none, none, none]) (st' := [.inl i1]) (M' := M_1) rfl).trans ?_
    refine (ev_gI (a_rec M_1 0 [.inl i1] = true ∧ ([] : List mV).length ≤ 8) (as := [.inl i1]) (rr := []) c_173 c_123 rfl).trans (t_i (t_cI ?_) rfl)
    intro v_4 M_3
    refine (ev_i (v_4 = 0) (i1 := 12) (l1 := [some (.inr a0), some (.inl i1), none, none, none, none]) (s1 := []) (M1 := M_3) (i2 := 8) (l2 := [some (.inr a0), some (.inl i1), none, none, none, none]) (s2 := []) (M2 := M_3) c_173 rfl).trans (t_i ?_ ?_)
    · skip
      exact ev_ns c_173 1 (ip' := 13) (ls' := [some (.inr a0), some (.inl i1), none, none, none, none]) (st' := [.inl (-1)]) (M' := M_3) rfl
    · skip
      refine (ev_ns c_173 2 (ip' := 10) (ls' := [some (.inr a0), some (.inl i1), none, none, none, none]) (st' := [.inl i1, .inr a0]) (M' := M_3) rfl).trans ?_
      refine (ev_gI (a_rec M_3 8 [.inr a0, .inl i1] = true ∧ ([] : List mV).length ≤ 8) (as := [.inr a0, .inl i1]) (rr := []) c_173 c_160 rfl).trans (t_i (t_cI ?_) rfl)
      intro v_6 M_5
      exact ev_ns c_173 1 (ip' := 13) (ls' := [some (.inr a0), some (.inl i1), none, none, none, none]) (st' := [.inl v_6]) (M' := M_5) rfl
  · skip
    refine (ev_ns c_173 1 (ip' := 4) (ls' := [some (.inr a0), some (.inl i1), none, none, none, none]) (st' := [.inl (-1)]) (M' := M_1) rfl).trans ?_
    exact ev_d c_173 rfl
set_option maxRecDepth 20000 in
theorem e_173_13 (a0 : Nat) (i1 : Int32) (s0 : Int32) (M : mM) : ev 173 13 [some (.inr a0), some (.inl i1), none, none, none, none] [.inl s0] M = if s0 = (-1) then (if (a_rec M 8 [.inr a0] = true ∧ ([] : List mV).length ≤ 8) then (c_I (ev 158 0 [some (.inr a0)] [] M) fun v_2 M_1 => some (some (.inl v_2), M_1)) else none) else (if s0 = (-2) then (if (a_rec M 8 [.inr a0, .inl 5, .inl i1, .inl 1, .inl 0] = true ∧ ([] : List mV).length ≤ 8) then (c_I (ev 159 0 [some (.inr a0), some (.inl 5), some (.inl i1), some (.inl 1), some (.inl 0), none, none] [] M) fun v_4 M_3 => some (some (.inl v_4), M_3)) else none) else (if h_k M a0 = 8 then (if h_k M a0 = 8 then (if (h_k M (h_r M a0 7) = 9 ∨ h_k M (h_r M a0 7) = 14) ∧ h_in (h_i M a0 2) (h_l M (h_r M a0 7)) then (if h_k M a0 = 8 then (if h_k M (h_r M a0 6) = 9 ∧ h_in (32 * s0) (h_l M (h_r M a0 6)) then (ev 173 47 [some (.inr a0), some (.inl i1), some (.inl s0), some (.inl (h_i M (h_r M a0 7) ((h_i M a0 2)).toNatClampNeg)), some (.inl (32 * s0)), some (.inl 0)] [] (h_si M (h_r M a0 6) ((32 * s0)).toNatClampNeg 1414482737)) else none) else none) else none) else none) else none)) := by
  refine (ev_ns c_173 3 (ip' := 16) (ls' := [some (.inr a0), some (.inl i1), some (.inl s0), none, none, none]) (st' := [.inl (-1), .inl s0]) (M' := M) rfl).trans ?_
  refine (ev_i (s0 = (-1)) (i1 := 17) (l1 := [some (.inr a0), some (.inl i1), some (.inl s0), none, none, none]) (s1 := []) (M1 := M) (i2 := 20) (l2 := [some (.inr a0), some (.inl i1), some (.inl s0), none, none, none]) (s2 := []) (M2 := M) c_173 rfl).trans (t_i ?_ ?_)
  · skip
    refine (ev_ns c_173 1 (ip' := 18) (ls' := [some (.inr a0), some (.inl i1), some (.inl s0), none, none, none]) (st' := [.inr a0]) (M' := M) rfl).trans ?_
    refine (ev_gI (a_rec M 8 [.inr a0] = true ∧ ([] : List mV).length ≤ 8) (as := [.inr a0]) (rr := []) c_173 c_158 rfl).trans (t_i (t_cI ?_) rfl)
    intro v_2 M_1
    exact ev_d c_173 rfl
  · skip
    refine (ev_ns c_173 2 (ip' := 22) (ls' := [some (.inr a0), some (.inl i1), some (.inl s0), none, none, none]) (st' := [.inl (-2), .inl s0]) (M' := M) rfl).trans ?_
    refine (ev_i (s0 = (-2)) (i1 := 23) (l1 := [some (.inr a0), some (.inl i1), some (.inl s0), none, none, none]) (s1 := []) (M1 := M) (i2 := 30) (l2 := [some (.inr a0), some (.inl i1), some (.inl s0), none, none, none]) (s2 := []) (M2 := M) c_173 rfl).trans (t_i ?_ ?_)
    · skip
      refine (ev_ns c_173 5 (ip' := 28) (ls' := [some (.inr a0), some (.inl i1), some (.inl s0), none, none, none]) (st' := [.inl 0, .inl 1, .inl i1, .inl 5, .inr a0]) (M' := M) rfl).trans ?_
      refine (ev_gI (a_rec M 8 [.inr a0, .inl 5, .inl i1, .inl 1, .inl 0] = true ∧ ([] : List mV).length ≤ 8) (as := [.inr a0, .inl 5, .inl i1, .inl 1, .inl 0]) (rr := []) c_173 c_159 rfl).trans (t_i (t_cI ?_) rfl)
      intro v_4 M_3
      exact ev_d c_173 rfl
    · skip
      refine (ev_ns c_173 1 (ip' := 31) (ls' := [some (.inr a0), some (.inl i1), some (.inl s0), none, none, none]) (st' := [.inr a0]) (M' := M) rfl).trans ?_
      refine (ev_g (h_k M a0 = 8) (ip' := 32) (ls' := [some (.inr a0), some (.inl i1), some (.inl s0), none, none, none]) (st' := [.inr (h_r M a0 7)]) (M' := M) c_173 rfl).trans (t_i ?_ rfl)
      refine (ev_ns c_173 1 (ip' := 33) (ls' := [some (.inr a0), some (.inl i1), some (.inl s0), none, none, none]) (st' := [.inr a0, .inr (h_r M a0 7)]) (M' := M) rfl).trans ?_
      refine (ev_g (h_k M a0 = 8) (ip' := 34) (ls' := [some (.inr a0), some (.inl i1), some (.inl s0), none, none, none]) (st' := [.inl (h_i M a0 2), .inr (h_r M a0 7)]) (M' := M) c_173 rfl).trans (t_i ?_ rfl)
      refine (ev_g ((h_k M (h_r M a0 7) = 9 ∨ h_k M (h_r M a0 7) = 14) ∧ h_in (h_i M a0 2) (h_l M (h_r M a0 7))) (ip' := 35) (ls' := [some (.inr a0), some (.inl i1), some (.inl s0), none, none, none]) (st' := [.inl (h_i M (h_r M a0 7) ((h_i M a0 2)).toNatClampNeg)]) (M' := M) c_173 rfl).trans (t_i ?_ rfl)
      refine (ev_ns c_173 6 (ip' := 41) (ls' := [some (.inr a0), some (.inl i1), some (.inl s0), some (.inl (h_i M (h_r M a0 7) ((h_i M a0 2)).toNatClampNeg)), some (.inl (32 * s0)), none]) (st' := [.inr a0]) (M' := M) rfl).trans ?_
      refine (ev_g (h_k M a0 = 8) (ip' := 42) (ls' := [some (.inr a0), some (.inl i1), some (.inl s0), some (.inl (h_i M (h_r M a0 7) ((h_i M a0 2)).toNatClampNeg)), some (.inl (32 * s0)), none]) (st' := [.inr (h_r M a0 6)]) (M' := M) c_173 rfl).trans (t_i ?_ rfl)
      refine (ev_ns c_173 2 (ip' := 44) (ls' := [some (.inr a0), some (.inl i1), some (.inl s0), some (.inl (h_i M (h_r M a0 7) ((h_i M a0 2)).toNatClampNeg)), some (.inl (32 * s0)), none]) (st' := [.inl 1414482737, .inl (32 * s0), .inr (h_r M a0 6)]) (M' := M) rfl).trans ?_
      refine (ev_g (h_k M (h_r M a0 6) = 9 ∧ h_in (32 * s0) (h_l M (h_r M a0 6))) (ip' := 45) (ls' := [some (.inr a0), some (.inl i1), some (.inl s0), some (.inl (h_i M (h_r M a0 7) ((h_i M a0 2)).toNatClampNeg)), some (.inl (32 * s0)), none]) (st' := []) (M' := h_si M (h_r M a0 6) ((32 * s0)).toNatClampNeg 1414482737) c_173 rfl).trans (t_i ?_ rfl)
      exact ev_ns c_173 2 (ip' := 47) (ls' := [some (.inr a0), some (.inl i1), some (.inl s0), some (.inl (h_i M (h_r M a0 7) ((h_i M a0 2)).toNatClampNeg)), some (.inl (32 * s0)), some (.inl 0)]) (st' := []) (M' := h_si M (h_r M a0 6) ((32 * s0)).toNatClampNeg 1414482737) rfl
set_option maxRecDepth 20000 in
theorem e_173_47 (a0 : Nat) (i1 : Int32) (i2 : Int32) (i3 : Int32) (i4 : Int32) (i5 : Int32) (M : mM) : ev 173 47 [some (.inr a0), some (.inl i1), some (.inl i2), some (.inl i3), some (.inl i4), some (.inl i5)] [] M = if (8 : Int32) ≤ i5 then (ev 173 87 [some (.inr a0), some (.inl i1), some (.inl i2), some (.inl i3), some (.inl i4), some (.inl 1)] [] M) else (if h_k M a0 = 8 then (if h_k M a0 = 8 then (if h_k M a0 = 8 then (if (h_k M (h_r M a0 19) = 9 ∨ h_k M (h_r M a0 19) = 14) ∧ h_in ((8 * (h_i M a0 2)) + i5) (h_l M (h_r M a0 19)) then (if h_k M (h_r M a0 6) = 9 ∧ h_in ((i4 + 1) + i5) (h_l M (h_r M a0 6)) then (if h_k (h_si M (h_r M a0 6) (((i4 + 1) + i5)).toNatClampNeg (h_i M (h_r M a0 19) (((8 * (h_i M a0 2)) + i5)).toNatClampNeg)) a0 = 8 then (if h_k (h_si M (h_r M a0 6) (((i4 + 1) + i5)).toNatClampNeg (h_i M (h_r M a0 19) (((8 * (h_i M a0 2)) + i5)).toNatClampNeg)) a0 = 8 then (if (h_k (h_si M (h_r M a0 6) (((i4 + 1) + i5)).toNatClampNeg (h_i M (h_r M a0 19) (((8 * (h_i M a0 2)) + i5)).toNatClampNeg)) (h_r (h_si M (h_r M a0 6) (((i4 + 1) + i5)).toNatClampNeg (h_i M (h_r M a0 19) (((8 * (h_i M a0 2)) + i5)).toNatClampNeg)) a0 11) = 9 ∨ h_k (h_si M (h_r M a0 6) (((i4 + 1) + i5)).toNatClampNeg (h_i M (h_r M a0 19) (((8 * (h_i M a0 2)) + i5)).toNatClampNeg)) (h_r (h_si M (h_r M a0 6) (((i4 + 1) + i5)).toNatClampNeg (h_i M (h_r M a0 19) (((8 * (h_i M a0 2)) + i5)).toNatClampNeg)) a0 11) = 14) ∧ h_in ((40 * i3) + i5) (h_l (h_si M (h_r M a0 6) (((i4 + 1) + i5)).toNatClampNeg (h_i M (h_r M a0 19) (((8 * (h_i M a0 2)) + i5)).toNatClampNeg)) (h_r (h_si M (h_r M a0 6) (((i4 + 1) + i5)).toNatClampNeg (h_i M (h_r M a0 19) (((8 * (h_i M a0 2)) + i5)).toNatClampNeg)) a0 11)) then (if h_k (h_si M (h_r M a0 6) (((i4 + 1) + i5)).toNatClampNeg (h_i M (h_r M a0 19) (((8 * (h_i M a0 2)) + i5)).toNatClampNeg)) (h_r (h_si M (h_r M a0 6) (((i4 + 1) + i5)).toNatClampNeg (h_i M (h_r M a0 19) (((8 * (h_i M a0 2)) + i5)).toNatClampNeg)) a0 6) = 9 ∧ h_in ((i4 + 9) + i5) (h_l (h_si M (h_r M a0 6) (((i4 + 1) + i5)).toNatClampNeg (h_i M (h_r M a0 19) (((8 * (h_i M a0 2)) + i5)).toNatClampNeg)) (h_r (h_si M (h_r M a0 6) (((i4 + 1) + i5)).toNatClampNeg (h_i M (h_r M a0 19) (((8 * (h_i M a0 2)) + i5)).toNatClampNeg)) a0 6)) then (ev 173 47 [some (.inr a0), some (.inl i1), some (.inl i2), some (.inl i3), some (.inl i4), some (.inl (i5 + 1))] [] (h_si (h_si M (h_r M a0 6) (((i4 + 1) + i5)).toNatClampNeg (h_i M (h_r M a0 19) (((8 * (h_i M a0 2)) + i5)).toNatClampNeg)) (h_r (h_si M (h_r M a0 6) (((i4 + 1) + i5)).toNatClampNeg (h_i M (h_r M a0 19) (((8 * (h_i M a0 2)) + i5)).toNatClampNeg)) a0 6) (((i4 + 9) + i5)).toNatClampNeg (h_i (h_si M (h_r M a0 6) (((i4 + 1) + i5)).toNatClampNeg (h_i M (h_r M a0 19) (((8 * (h_i M a0 2)) + i5)).toNatClampNeg)) (h_r (h_si M (h_r M a0 6) (((i4 + 1) + i5)).toNatClampNeg (h_i M (h_r M a0 19) (((8 * (h_i M a0 2)) + i5)).toNatClampNeg)) a0 11) (((40 * i3) + i5)).toNatClampNeg))) else none) else none) else none) else none) else none) else none) else none) else none) else none) := by
  refine (ev_ns c_173 2 (ip' := 49) (ls' := [some (.inr a0), some (.inl i1), some (.inl i2), some (.inl i3), some (.inl i4), some (.inl i5)]) (st' := [.inl 8, .inl i5]) (M' := M) rfl).trans ?_
  refine (ev_i ((8 : Int32) ≤ i5) (i1 := 85) (l1 := [some (.inr a0), some (.inl i1), some (.inl i2), some (.inl i3), some (.inl i4), some (.inl i5)]) (s1 := []) (M1 := M) (i2 := 50) (l2 := [some (.inr a0), some (.inl i1), some (.inl i2), some (.inl i3), some (.inl i4), some (.inl i5)]) (s2 := []) (M2 := M) c_173 rfl).trans (t_i ?_ ?_)
  · skip
    exact ev_ns c_173 2 (ip' := 87) (ls' := [some (.inr a0), some (.inl i1), some (.inl i2), some (.inl i3), some (.inl i4), some (.inl 1)]) (st' := []) (M' := M) rfl
  · skip
    refine (ev_ns c_173 1 (ip' := 51) (ls' := [some (.inr a0), some (.inl i1), some (.inl i2), some (.inl i3), some (.inl i4), some (.inl i5)]) (st' := [.inr a0]) (M' := M) rfl).trans ?_
    refine (ev_g (h_k M a0 = 8) (ip' := 52) (ls' := [some (.inr a0), some (.inl i1), some (.inl i2), some (.inl i3), some (.inl i4), some (.inl i5)]) (st' := [.inr (h_r M a0 6)]) (M' := M) c_173 rfl).trans (t_i ?_ rfl)
    refine (ev_ns c_173 6 (ip' := 58) (ls' := [some (.inr a0), some (.inl i1), some (.inl i2), some (.inl i3), some (.inl i4), some (.inl i5)]) (st' := [.inr a0, .inl ((i4 + 1) + i5), .inr (h_r M a0 6)]) (M' := M) rfl).trans ?_
    refine (ev_g (h_k M a0 = 8) (ip' := 59) (ls' := [some (.inr a0), some (.inl i1), some (.inl i2), some (.inl i3), some (.inl i4), some (.inl i5)]) (st' := [.inr (h_r M a0 19), .inl ((i4 + 1) + i5), .inr (h_r M a0 6)]) (M' := M) c_173 rfl).trans (t_i ?_ rfl)
    refine (ev_ns c_173 2 (ip' := 61) (ls' := [some (.inr a0), some (.inl i1), some (.inl i2), some (.inl i3), some (.inl i4), some (.inl i5)]) (st' := [.inr a0, .inl 8, .inr (h_r M a0 19), .inl ((i4 + 1) + i5), .inr (h_r M a0 6)]) (M' := M) rfl).trans ?_
    refine (ev_g (h_k M a0 = 8) (ip' := 62) (ls' := [some (.inr a0), some (.inl i1), some (.inl i2), some (.inl i3), some (.inl i4), some (.inl i5)]) (st' := [.inl (h_i M a0 2), .inl 8, .inr (h_r M a0 19), .inl ((i4 + 1) + i5), .inr (h_r M a0 6)]) (M' := M) c_173 rfl).trans (t_i ?_ rfl)
    refine (ev_ns c_173 3 (ip' := 65) (ls' := [some (.inr a0), some (.inl i1), some (.inl i2), some (.inl i3), some (.inl i4), some (.inl i5)]) (st' := [.inl ((8 * (h_i M a0 2)) + i5), .inr (h_r M a0 19), .inl ((i4 + 1) + i5), .inr (h_r M a0 6)]) (M' := M) rfl).trans ?_
    refine (ev_g ((h_k M (h_r M a0 19) = 9 ∨ h_k M (h_r M a0 19) = 14) ∧ h_in ((8 * (h_i M a0 2)) + i5) (h_l M (h_r M a0 19))) (ip' := 66) (ls' := [some (.inr a0), some (.inl i1), some (.inl i2), some (.inl i3), some (.inl i4), some (.inl i5)]) (st' := [.inl (h_i M (h_r M a0 19) (((8 * (h_i M a0 2)) + i5)).toNatClampNeg), .inl ((i4 + 1) + i5), .inr (h_r M a0 6)]) (M' := M) c_173 rfl).trans (t_i ?_ rfl)
    refine (ev_g (h_k M (h_r M a0 6) = 9 ∧ h_in ((i4 + 1) + i5) (h_l M (h_r M a0 6))) (ip' := 67) (ls' := [some (.inr a0), some (.inl i1), some (.inl i2), some (.inl i3), some (.inl i4), some (.inl i5)]) (st' := []) (M' := h_si M (h_r M a0 6) (((i4 + 1) + i5)).toNatClampNeg (h_i M (h_r M a0 19) (((8 * (h_i M a0 2)) + i5)).toNatClampNeg)) c_173 rfl).trans (t_i ?_ rfl)
    refine (ev_ns c_173 1 (ip' := 68) (ls' := [some (.inr a0), some (.inl i1), some (.inl i2), some (.inl i3), some (.inl i4), some (.inl i5)]) (st' := [.inr a0]) (M' := h_si M (h_r M a0 6) (((i4 + 1) + i5)).toNatClampNeg (h_i M (h_r M a0 19) (((8 * (h_i M a0 2)) + i5)).toNatClampNeg)) rfl).trans ?_
    refine (ev_g (h_k (h_si M (h_r M a0 6) (((i4 + 1) + i5)).toNatClampNeg (h_i M (h_r M a0 19) (((8 * (h_i M a0 2)) + i5)).toNatClampNeg)) a0 = 8) (ip' := 69) (ls' := [some (.inr a0), some (.inl i1), some (.inl i2), some (.inl i3), some (.inl i4), some (.inl i5)]) (st' := [.inr (h_r (h_si M (h_r M a0 6) (((i4 + 1) + i5)).toNatClampNeg (h_i M (h_r M a0 19) (((8 * (h_i M a0 2)) + i5)).toNatClampNeg)) a0 6)]) (M' := h_si M (h_r M a0 6) (((i4 + 1) + i5)).toNatClampNeg (h_i M (h_r M a0 19) (((8 * (h_i M a0 2)) + i5)).toNatClampNeg)) c_173 rfl).trans (t_i ?_ rfl)
    refine (ev_ns c_173 6 (ip' := 75) (ls' := [some (.inr a0), some (.inl i1), some (.inl i2), some (.inl i3), some (.inl i4), some (.inl i5)]) (st' := [.inr a0, .inl ((i4 + 9) + i5), .inr (h_r (h_si M (h_r M a0 6) (((i4 + 1) + i5)).toNatClampNeg (h_i M (h_r M a0 19) (((8 * (h_i M a0 2)) + i5)).toNatClampNeg)) a0 6)]) (M' := h_si M (h_r M a0 6) (((i4 + 1) + i5)).toNatClampNeg (h_i M (h_r M a0 19) (((8 * (h_i M a0 2)) + i5)).toNatClampNeg)) rfl).trans ?_
    refine (ev_g (h_k (h_si M (h_r M a0 6) (((i4 + 1) + i5)).toNatClampNeg (h_i M (h_r M a0 19) (((8 * (h_i M a0 2)) + i5)).toNatClampNeg)) a0 = 8) (ip' := 76) (ls' := [some (.inr a0), some (.inl i1), some (.inl i2), some (.inl i3), some (.inl i4), some (.inl i5)]) (st' := [.inr (h_r (h_si M (h_r M a0 6) (((i4 + 1) + i5)).toNatClampNeg (h_i M (h_r M a0 19) (((8 * (h_i M a0 2)) + i5)).toNatClampNeg)) a0 11), .inl ((i4 + 9) + i5), .inr (h_r (h_si M (h_r M a0 6) (((i4 + 1) + i5)).toNatClampNeg (h_i M (h_r M a0 19) (((8 * (h_i M a0 2)) + i5)).toNatClampNeg)) a0 6)]) (M' := h_si M (h_r M a0 6) (((i4 + 1) + i5)).toNatClampNeg (h_i M (h_r M a0 19) (((8 * (h_i M a0 2)) + i5)).toNatClampNeg)) c_173 rfl).trans (t_i ?_ rfl)
    refine (ev_ns c_173 5 (ip' := 81) (ls' := [some (.inr a0), some (.inl i1), some (.inl i2), some (.inl i3), some (.inl i4), some (.inl i5)]) (st' := [.inl ((40 * i3) + i5), .inr (h_r (h_si M (h_r M a0 6) (((i4 + 1) + i5)).toNatClampNeg (h_i M (h_r M a0 19) (((8 * (h_i M a0 2)) + i5)).toNatClampNeg)) a0 11), .inl ((i4 + 9) + i5), .inr (h_r (h_si M (h_r M a0 6) (((i4 + 1) + i5)).toNatClampNeg (h_i M (h_r M a0 19) (((8 * (h_i M a0 2)) + i5)).toNatClampNeg)) a0 6)]) (M' := h_si M (h_r M a0 6) (((i4 + 1) + i5)).toNatClampNeg (h_i M (h_r M a0 19) (((8 * (h_i M a0 2)) + i5)).toNatClampNeg)) rfl).trans ?_
    refine (ev_g ((h_k (h_si M (h_r M a0 6) (((i4 + 1) + i5)).toNatClampNeg (h_i M (h_r M a0 19) (((8 * (h_i M a0 2)) + i5)).toNatClampNeg)) (h_r (h_si M (h_r M a0 6) (((i4 + 1) + i5)).toNatClampNeg (h_i M (h_r M a0 19) (((8 * (h_i M a0 2)) + i5)).toNatClampNeg)) a0 11) = 9 ∨ h_k (h_si M (h_r M a0 6) (((i4 + 1) + i5)).toNatClampNeg (h_i M (h_r M a0 19) (((8 * (h_i M a0 2)) + i5)).toNatClampNeg)) (h_r (h_si M (h_r M a0 6) (((i4 + 1) + i5)).toNatClampNeg (h_i M (h_r M a0 19) (((8 * (h_i M a0 2)) + i5)).toNatClampNeg)) a0 11) = 14) ∧ h_in ((40 * i3) + i5) (h_l (h_si M (h_r M a0 6) (((i4 + 1) + i5)).toNatClampNeg (h_i M (h_r M a0 19) (((8 * (h_i M a0 2)) + i5)).toNatClampNeg)) (h_r (h_si M (h_r M a0 6) (((i4 + 1) + i5)).toNatClampNeg (h_i M (h_r M a0 19) (((8 * (h_i M a0 2)) + i5)).toNatClampNeg)) a0 11))) (ip' := 82) (ls' := [some (.inr a0), some (.inl i1), some (.inl i2), some (.inl i3), some (.inl i4), some (.inl i5)]) (st' := [.inl (h_i (h_si M (h_r M a0 6) (((i4 + 1) + i5)).toNatClampNeg (h_i M (h_r M a0 19) (((8 * (h_i M a0 2)) + i5)).toNatClampNeg)) (h_r (h_si M (h_r M a0 6) (((i4 + 1) + i5)).toNatClampNeg (h_i M (h_r M a0 19) (((8 * (h_i M a0 2)) + i5)).toNatClampNeg)) a0 11) (((40 * i3) + i5)).toNatClampNeg), .inl ((i4 + 9) + i5), .inr (h_r (h_si M (h_r M a0 6) (((i4 + 1) + i5)).toNatClampNeg (h_i M (h_r M a0 19) (((8 * (h_i M a0 2)) + i5)).toNatClampNeg)) a0 6)]) (M' := h_si M (h_r M a0 6) (((i4 + 1) + i5)).toNatClampNeg (h_i M (h_r M a0 19) (((8 * (h_i M a0 2)) + i5)).toNatClampNeg)) c_173 rfl).trans (t_i ?_ rfl)
    refine (ev_g (h_k (h_si M (h_r M a0 6) (((i4 + 1) + i5)).toNatClampNeg (h_i M (h_r M a0 19) (((8 * (h_i M a0 2)) + i5)).toNatClampNeg)) (h_r (h_si M (h_r M a0 6) (((i4 + 1) + i5)).toNatClampNeg (h_i M (h_r M a0 19) (((8 * (h_i M a0 2)) + i5)).toNatClampNeg)) a0 6) = 9 ∧ h_in ((i4 + 9) + i5) (h_l (h_si M (h_r M a0 6) (((i4 + 1) + i5)).toNatClampNeg (h_i M (h_r M a0 19) (((8 * (h_i M a0 2)) + i5)).toNatClampNeg)) (h_r (h_si M (h_r M a0 6) (((i4 + 1) + i5)).toNatClampNeg (h_i M (h_r M a0 19) (((8 * (h_i M a0 2)) + i5)).toNatClampNeg)) a0 6))) (ip' := 83) (ls' := [some (.inr a0), some (.inl i1), some (.inl i2), some (.inl i3), some (.inl i4), some (.inl i5)]) (st' := []) (M' := h_si (h_si M (h_r M a0 6) (((i4 + 1) + i5)).toNatClampNeg (h_i M (h_r M a0 19) (((8 * (h_i M a0 2)) + i5)).toNatClampNeg)) (h_r (h_si M (h_r M a0 6) (((i4 + 1) + i5)).toNatClampNeg (h_i M (h_r M a0 19) (((8 * (h_i M a0 2)) + i5)).toNatClampNeg)) a0 6) (((i4 + 9) + i5)).toNatClampNeg (h_i (h_si M (h_r M a0 6) (((i4 + 1) + i5)).toNatClampNeg (h_i M (h_r M a0 19) (((8 * (h_i M a0 2)) + i5)).toNatClampNeg)) (h_r (h_si M (h_r M a0 6) (((i4 + 1) + i5)).toNatClampNeg (h_i M (h_r M a0 19) (((8 * (h_i M a0 2)) + i5)).toNatClampNeg)) a0 11) (((40 * i3) + i5)).toNatClampNeg)) c_173 rfl).trans (t_i ?_ rfl)
    exact ev_ns c_173 2 (ip' := 47) (ls' := [some (.inr a0), some (.inl i1), some (.inl i2), some (.inl i3), some (.inl i4), some (.inl (i5 + 1))]) (st' := []) (M' := h_si (h_si M (h_r M a0 6) (((i4 + 1) + i5)).toNatClampNeg (h_i M (h_r M a0 19) (((8 * (h_i M a0 2)) + i5)).toNatClampNeg)) (h_r (h_si M (h_r M a0 6) (((i4 + 1) + i5)).toNatClampNeg (h_i M (h_r M a0 19) (((8 * (h_i M a0 2)) + i5)).toNatClampNeg)) a0 6) (((i4 + 9) + i5)).toNatClampNeg (h_i (h_si M (h_r M a0 6) (((i4 + 1) + i5)).toNatClampNeg (h_i M (h_r M a0 19) (((8 * (h_i M a0 2)) + i5)).toNatClampNeg)) (h_r (h_si M (h_r M a0 6) (((i4 + 1) + i5)).toNatClampNeg (h_i M (h_r M a0 19) (((8 * (h_i M a0 2)) + i5)).toNatClampNeg)) a0 11) (((40 * i3) + i5)).toNatClampNeg)) rfl
set_option maxRecDepth 20000 in
theorem e_173_87 (a0 : Nat) (i1 : Int32) (i2 : Int32) (i3 : Int32) (i4 : Int32) (i5 : Int32) (M : mM) : ev 173 87 [some (.inr a0), some (.inl i1), some (.inl i2), some (.inl i3), some (.inl i4), some (.inl i5)] [] M = if (4 : Int32) < i5 then (if (a_rec M 8 [.inr a0] = true ∧ ([] : List mV).length ≤ 8) then (c_V (ev 114 0 [some (.inr a0), none, none, none, none] [] M) fun M_1 => ev 173 100 [some (.inr a0), some (.inl i1), some (.inl i2), some (.inl i3), some (.inl i4), some (.inl 0)] [] M_1) else none) else (if (a_rec M 8 [.inr a0, .inl i3, .inl i5] = true ∧ ([] : List mV).length ≤ 8) then (c_V (ev 112 0 [some (.inr a0), some (.inl i3), some (.inl i5), none] [] M) fun M_2 => ev 173 87 [some (.inr a0), some (.inl i1), some (.inl i2), some (.inl i3), some (.inl i4), some (.inl (i5 + 1))] [] M_2) else none) := by
  refine (ev_ns c_173 2 (ip' := 89) (ls' := [some (.inr a0), some (.inl i1), some (.inl i2), some (.inl i3), some (.inl i4), some (.inl i5)]) (st' := [.inl 4, .inl i5]) (M' := M) rfl).trans ?_
  refine (ev_i ((4 : Int32) < i5) (i1 := 96) (l1 := [some (.inr a0), some (.inl i1), some (.inl i2), some (.inl i3), some (.inl i4), some (.inl i5)]) (s1 := []) (M1 := M) (i2 := 90) (l2 := [some (.inr a0), some (.inl i1), some (.inl i2), some (.inl i3), some (.inl i4), some (.inl i5)]) (s2 := []) (M2 := M) c_173 rfl).trans (t_i ?_ ?_)
  · skip
    refine (ev_ns c_173 1 (ip' := 97) (ls' := [some (.inr a0), some (.inl i1), some (.inl i2), some (.inl i3), some (.inl i4), some (.inl i5)]) (st' := [.inr a0]) (M' := M) rfl).trans ?_
    refine (ev_gV (a_rec M 8 [.inr a0] = true ∧ ([] : List mV).length ≤ 8) (as := [.inr a0]) (rr := []) c_173 c_114 rfl).trans (t_i (t_cV ?_) rfl)
    intro M_1
    exact ev_ns c_173 2 (ip' := 100) (ls' := [some (.inr a0), some (.inl i1), some (.inl i2), some (.inl i3), some (.inl i4), some (.inl 0)]) (st' := []) (M' := M_1) rfl
  · skip
    refine (ev_ns c_173 3 (ip' := 93) (ls' := [some (.inr a0), some (.inl i1), some (.inl i2), some (.inl i3), some (.inl i4), some (.inl i5)]) (st' := [.inl i5, .inl i3, .inr a0]) (M' := M) rfl).trans ?_
    refine (ev_gV (a_rec M 8 [.inr a0, .inl i3, .inl i5] = true ∧ ([] : List mV).length ≤ 8) (as := [.inr a0, .inl i3, .inl i5]) (rr := []) c_173 c_112 rfl).trans (t_i (t_cV ?_) rfl)
    intro M_2
    exact ev_ns c_173 2 (ip' := 87) (ls' := [some (.inr a0), some (.inl i1), some (.inl i2), some (.inl i3), some (.inl i4), some (.inl (i5 + 1))]) (st' := []) (M' := M_2) rfl
set_option maxRecDepth 20000 in
theorem e_173_100 (a0 : Nat) (i1 : Int32) (i2 : Int32) (i3 : Int32) (i4 : Int32) (i5 : Int32) (M : mM) : ev 173 100 [some (.inr a0), some (.inl i1), some (.inl i2), some (.inl i3), some (.inl i4), some (.inl i5)] [] M = if (8 : Int32) ≤ i5 then (ev 173 119 [some (.inr a0), some (.inl i1), some (.inl i2), some (.inl i3), some (.inl i4), some (.inl 0)] [] M) else (if h_k M a0 = 8 then (if h_k M a0 = 8 then (if (h_k M (h_r M a0 28) = 9 ∨ h_k M (h_r M a0 28) = 14) ∧ h_in i5 (h_l M (h_r M a0 28)) then (if h_k M (h_r M a0 6) = 9 ∧ h_in ((i4 + 17) + i5) (h_l M (h_r M a0 6)) then (ev 173 100 [some (.inr a0), some (.inl i1), some (.inl i2), some (.inl i3), some (.inl i4), some (.inl (i5 + 1))] [] (h_si M (h_r M a0 6) (((i4 + 17) + i5)).toNatClampNeg (h_i M (h_r M a0 28) (i5).toNatClampNeg))) else none) else none) else none) else none) := by
  refine (ev_ns c_173 2 (ip' := 102) (ls' := [some (.inr a0), some (.inl i1), some (.inl i2), some (.inl i3), some (.inl i4), some (.inl i5)]) (st' := [.inl 8, .inl i5]) (M' := M) rfl).trans ?_
  refine (ev_i ((8 : Int32) ≤ i5) (i1 := 117) (l1 := [some (.inr a0), some (.inl i1), some (.inl i2), some (.inl i3), some (.inl i4), some (.inl i5)]) (s1 := []) (M1 := M) (i2 := 103) (l2 := [some (.inr a0), some (.inl i1), some (.inl i2), some (.inl i3), some (.inl i4), some (.inl i5)]) (s2 := []) (M2 := M) c_173 rfl).trans (t_i ?_ ?_)
  · skip
    exact ev_ns c_173 2 (ip' := 119) (ls' := [some (.inr a0), some (.inl i1), some (.inl i2), some (.inl i3), some (.inl i4), some (.inl 0)]) (st' := []) (M' := M) rfl
  · skip
    refine (ev_ns c_173 1 (ip' := 104) (ls' := [some (.inr a0), some (.inl i1), some (.inl i2), some (.inl i3), some (.inl i4), some (.inl i5)]) (st' := [.inr a0]) (M' := M) rfl).trans ?_
    refine (ev_g (h_k M a0 = 8) (ip' := 105) (ls' := [some (.inr a0), some (.inl i1), some (.inl i2), some (.inl i3), some (.inl i4), some (.inl i5)]) (st' := [.inr (h_r M a0 6)]) (M' := M) c_173 rfl).trans (t_i ?_ rfl)
    refine (ev_ns c_173 6 (ip' := 111) (ls' := [some (.inr a0), some (.inl i1), some (.inl i2), some (.inl i3), some (.inl i4), some (.inl i5)]) (st' := [.inr a0, .inl ((i4 + 17) + i5), .inr (h_r M a0 6)]) (M' := M) rfl).trans ?_
    refine (ev_g (h_k M a0 = 8) (ip' := 112) (ls' := [some (.inr a0), some (.inl i1), some (.inl i2), some (.inl i3), some (.inl i4), some (.inl i5)]) (st' := [.inr (h_r M a0 28), .inl ((i4 + 17) + i5), .inr (h_r M a0 6)]) (M' := M) c_173 rfl).trans (t_i ?_ rfl)
    refine (ev_ns c_173 1 (ip' := 113) (ls' := [some (.inr a0), some (.inl i1), some (.inl i2), some (.inl i3), some (.inl i4), some (.inl i5)]) (st' := [.inl i5, .inr (h_r M a0 28), .inl ((i4 + 17) + i5), .inr (h_r M a0 6)]) (M' := M) rfl).trans ?_
    refine (ev_g ((h_k M (h_r M a0 28) = 9 ∨ h_k M (h_r M a0 28) = 14) ∧ h_in i5 (h_l M (h_r M a0 28))) (ip' := 114) (ls' := [some (.inr a0), some (.inl i1), some (.inl i2), some (.inl i3), some (.inl i4), some (.inl i5)]) (st' := [.inl (h_i M (h_r M a0 28) (i5).toNatClampNeg), .inl ((i4 + 17) + i5), .inr (h_r M a0 6)]) (M' := M) c_173 rfl).trans (t_i ?_ rfl)
    refine (ev_g (h_k M (h_r M a0 6) = 9 ∧ h_in ((i4 + 17) + i5) (h_l M (h_r M a0 6))) (ip' := 115) (ls' := [some (.inr a0), some (.inl i1), some (.inl i2), some (.inl i3), some (.inl i4), some (.inl i5)]) (st' := []) (M' := h_si M (h_r M a0 6) (((i4 + 17) + i5)).toNatClampNeg (h_i M (h_r M a0 28) (i5).toNatClampNeg)) c_173 rfl).trans (t_i ?_ rfl)
    exact ev_ns c_173 2 (ip' := 100) (ls' := [some (.inr a0), some (.inl i1), some (.inl i2), some (.inl i3), some (.inl i4), some (.inl (i5 + 1))]) (st' := []) (M' := h_si M (h_r M a0 6) (((i4 + 17) + i5)).toNatClampNeg (h_i M (h_r M a0 28) (i5).toNatClampNeg)) rfl
set_option maxRecDepth 20000 in
theorem e_173_119 (a0 : Nat) (i1 : Int32) (i2 : Int32) (i3 : Int32) (i4 : Int32) (i5 : Int32) (M : mM) : ev 173 119 [some (.inr a0), some (.inl i1), some (.inl i2), some (.inl i3), some (.inl i4), some (.inl i5)] [] M = if (25 : Int32) ≤ i5 then (if (a_rec M 8 [.inr a0] = true ∧ ([] : List mV).length ≤ 8) then (c_V (ev 114 0 [some (.inr a0), none, none, none, none] [] M) fun M_1 => ev 173 136 [some (.inr a0), some (.inl i1), some (.inl i2), some (.inl i3), some (.inl i4), some (.inl 0)] [] M_1) else none) else (if h_k M a0 = 8 then (if (h_k M (h_r M a0 6) = 9 ∨ h_k M (h_r M a0 6) = 14) ∧ h_in (i4 + i5) (h_l M (h_r M a0 6)) then (if (a_rec M 8 [.inr a0, .inl (h_i M (h_r M a0 6) ((i4 + i5)).toNatClampNeg)] = true ∧ ([] : List mV).length ≤ 8) then (c_V (ev 111 0 [some (.inr a0), some (.inl (h_i M (h_r M a0 6) ((i4 + i5)).toNatClampNeg))] [] M) fun M_2 => ev 173 119 [some (.inr a0), some (.inl i1), some (.inl i2), some (.inl i3), some (.inl i4), some (.inl (i5 + 1))] [] M_2) else none) else none) else none) := by
  refine (ev_ns c_173 2 (ip' := 121) (ls' := [some (.inr a0), some (.inl i1), some (.inl i2), some (.inl i3), some (.inl i4), some (.inl i5)]) (st' := [.inl 25, .inl i5]) (M' := M) rfl).trans ?_
  refine (ev_i ((25 : Int32) ≤ i5) (i1 := 132) (l1 := [some (.inr a0), some (.inl i1), some (.inl i2), some (.inl i3), some (.inl i4), some (.inl i5)]) (s1 := []) (M1 := M) (i2 := 122) (l2 := [some (.inr a0), some (.inl i1), some (.inl i2), some (.inl i3), some (.inl i4), some (.inl i5)]) (s2 := []) (M2 := M) c_173 rfl).trans (t_i ?_ ?_)
  · skip
    refine (ev_ns c_173 1 (ip' := 133) (ls' := [some (.inr a0), some (.inl i1), some (.inl i2), some (.inl i3), some (.inl i4), some (.inl i5)]) (st' := [.inr a0]) (M' := M) rfl).trans ?_
    refine (ev_gV (a_rec M 8 [.inr a0] = true ∧ ([] : List mV).length ≤ 8) (as := [.inr a0]) (rr := []) c_173 c_114 rfl).trans (t_i (t_cV ?_) rfl)
    intro M_1
    exact ev_ns c_173 2 (ip' := 136) (ls' := [some (.inr a0), some (.inl i1), some (.inl i2), some (.inl i3), some (.inl i4), some (.inl 0)]) (st' := []) (M' := M_1) rfl
  · skip
    refine (ev_ns c_173 2 (ip' := 124) (ls' := [some (.inr a0), some (.inl i1), some (.inl i2), some (.inl i3), some (.inl i4), some (.inl i5)]) (st' := [.inr a0, .inr a0]) (M' := M) rfl).trans ?_
    refine (ev_g (h_k M a0 = 8) (ip' := 125) (ls' := [some (.inr a0), some (.inl i1), some (.inl i2), some (.inl i3), some (.inl i4), some (.inl i5)]) (st' := [.inr (h_r M a0 6), .inr a0]) (M' := M) c_173 rfl).trans (t_i ?_ rfl)
    refine (ev_ns c_173 3 (ip' := 128) (ls' := [some (.inr a0), some (.inl i1), some (.inl i2), some (.inl i3), some (.inl i4), some (.inl i5)]) (st' := [.inl (i4 + i5), .inr (h_r M a0 6), .inr a0]) (M' := M) rfl).trans ?_
    refine (ev_g ((h_k M (h_r M a0 6) = 9 ∨ h_k M (h_r M a0 6) = 14) ∧ h_in (i4 + i5) (h_l M (h_r M a0 6))) (ip' := 129) (ls' := [some (.inr a0), some (.inl i1), some (.inl i2), some (.inl i3), some (.inl i4), some (.inl i5)]) (st' := [.inl (h_i M (h_r M a0 6) ((i4 + i5)).toNatClampNeg), .inr a0]) (M' := M) c_173 rfl).trans (t_i ?_ rfl)
    refine (ev_gV (a_rec M 8 [.inr a0, .inl (h_i M (h_r M a0 6) ((i4 + i5)).toNatClampNeg)] = true ∧ ([] : List mV).length ≤ 8) (as := [.inr a0, .inl (h_i M (h_r M a0 6) ((i4 + i5)).toNatClampNeg)]) (rr := []) c_173 c_111 rfl).trans (t_i (t_cV ?_) rfl)
    intro M_2
    exact ev_ns c_173 2 (ip' := 119) (ls' := [some (.inr a0), some (.inl i1), some (.inl i2), some (.inl i3), some (.inl i4), some (.inl (i5 + 1))]) (st' := []) (M' := M_2) rfl
set_option maxRecDepth 20000 in
theorem e_173_136 (a0 : Nat) (i1 : Int32) (i2 : Int32) (i3 : Int32) (i4 : Int32) (i5 : Int32) (M : mM) : ev 173 136 [some (.inr a0), some (.inl i1), some (.inl i2), some (.inl i3), some (.inl i4), some (.inl i5)] [] M = if (7 : Int32) ≤ i5 then (some (some (.inl 0), M)) else (if h_k M a0 = 8 then (if h_k M a0 = 8 then (if (h_k M (h_r M a0 28) = 9 ∨ h_k M (h_r M a0 28) = 14) ∧ h_in i5 (h_l M (h_r M a0 28)) then (if h_k M (h_r M a0 6) = 9 ∧ h_in ((i4 + 25) + i5) (h_l M (h_r M a0 6)) then (ev 173 136 [some (.inr a0), some (.inl i1), some (.inl i2), some (.inl i3), some (.inl i4), some (.inl (i5 + 1))] [] (h_si M (h_r M a0 6) (((i4 + 25) + i5)).toNatClampNeg (h_i M (h_r M a0 28) (i5).toNatClampNeg))) else none) else none) else none) else none) := by
  refine (ev_ns c_173 2 (ip' := 138) (ls' := [some (.inr a0), some (.inl i1), some (.inl i2), some (.inl i3), some (.inl i4), some (.inl i5)]) (st' := [.inl 7, .inl i5]) (M' := M) rfl).trans ?_
  refine (ev_i ((7 : Int32) ≤ i5) (i1 := 153) (l1 := [some (.inr a0), some (.inl i1), some (.inl i2), some (.inl i3), some (.inl i4), some (.inl i5)]) (s1 := []) (M1 := M) (i2 := 139) (l2 := [some (.inr a0), some (.inl i1), some (.inl i2), some (.inl i3), some (.inl i4), some (.inl i5)]) (s2 := []) (M2 := M) c_173 rfl).trans (t_i ?_ ?_)
  · skip
    refine (ev_ns c_173 1 (ip' := 154) (ls' := [some (.inr a0), some (.inl i1), some (.inl i2), some (.inl i3), some (.inl i4), some (.inl i5)]) (st' := [.inl 0]) (M' := M) rfl).trans ?_
    exact ev_d c_173 rfl
  · skip
    refine (ev_ns c_173 1 (ip' := 140) (ls' := [some (.inr a0), some (.inl i1), some (.inl i2), some (.inl i3), some (.inl i4), some (.inl i5)]) (st' := [.inr a0]) (M' := M) rfl).trans ?_
    refine (ev_g (h_k M a0 = 8) (ip' := 141) (ls' := [some (.inr a0), some (.inl i1), some (.inl i2), some (.inl i3), some (.inl i4), some (.inl i5)]) (st' := [.inr (h_r M a0 6)]) (M' := M) c_173 rfl).trans (t_i ?_ rfl)
    refine (ev_ns c_173 6 (ip' := 147) (ls' := [some (.inr a0), some (.inl i1), some (.inl i2), some (.inl i3), some (.inl i4), some (.inl i5)]) (st' := [.inr a0, .inl ((i4 + 25) + i5), .inr (h_r M a0 6)]) (M' := M) rfl).trans ?_
    refine (ev_g (h_k M a0 = 8) (ip' := 148) (ls' := [some (.inr a0), some (.inl i1), some (.inl i2), some (.inl i3), some (.inl i4), some (.inl i5)]) (st' := [.inr (h_r M a0 28), .inl ((i4 + 25) + i5), .inr (h_r M a0 6)]) (M' := M) c_173 rfl).trans (t_i ?_ rfl)
    refine (ev_ns c_173 1 (ip' := 149) (ls' := [some (.inr a0), some (.inl i1), some (.inl i2), some (.inl i3), some (.inl i4), some (.inl i5)]) (st' := [.inl i5, .inr (h_r M a0 28), .inl ((i4 + 25) + i5), .inr (h_r M a0 6)]) (M' := M) rfl).trans ?_
    refine (ev_g ((h_k M (h_r M a0 28) = 9 ∨ h_k M (h_r M a0 28) = 14) ∧ h_in i5 (h_l M (h_r M a0 28))) (ip' := 150) (ls' := [some (.inr a0), some (.inl i1), some (.inl i2), some (.inl i3), some (.inl i4), some (.inl i5)]) (st' := [.inl (h_i M (h_r M a0 28) (i5).toNatClampNeg), .inl ((i4 + 25) + i5), .inr (h_r M a0 6)]) (M' := M) c_173 rfl).trans (t_i ?_ rfl)
    refine (ev_g (h_k M (h_r M a0 6) = 9 ∧ h_in ((i4 + 25) + i5) (h_l M (h_r M a0 6))) (ip' := 151) (ls' := [some (.inr a0), some (.inl i1), some (.inl i2), some (.inl i3), some (.inl i4), some (.inl i5)]) (st' := []) (M' := h_si M (h_r M a0 6) (((i4 + 25) + i5)).toNatClampNeg (h_i M (h_r M a0 28) (i5).toNatClampNeg)) c_173 rfl).trans (t_i ?_ rfl)
    exact ev_ns c_173 2 (ip' := 136) (ls' := [some (.inr a0), some (.inl i1), some (.inl i2), some (.inl i3), some (.inl i4), some (.inl (i5 + 1))]) (st' := []) (M' := h_si M (h_r M a0 6) (((i4 + 25) + i5)).toNatClampNeg (h_i M (h_r M a0 28) (i5).toNatClampNeg)) rfl
/- 174: GranuleHallModel.granule(II)I -/
set_option maxRecDepth 20000 in
theorem e_174_0 (a0 : Nat) (i1 : Int32) (i2 : Int32) (M : mM) : ev 174 0 [some (.inr a0), some (.inl i1), some (.inl i2), none] [] M = if (a_rec M 8 [.inr a0, .inl i1] = true ∧ ([] : List mV).length ≤ 8) then (c_I (ev 107 0 [some (.inr a0), some (.inl i1)] [] M) fun v_2 M_1 => if v_2 = 0 then (some (some (.inl (-1)), M_1)) else (if h_k M_1 a0 = 8 then (if (h_k M_1 (h_r M_1 a0 5) = 9 ∨ h_k M_1 (h_r M_1 a0 5) = 14) ∧ h_in i1 (h_l M_1 (h_r M_1 a0 5)) then (if (i2 : Int32) = 0 then (some (some (.inl (h_i M_1 (h_r M_1 a0 5) (i1).toNatClampNeg)), M_1)) else (if (i2 : Int32) = 1 then (if (2 : Int32) ≤ (h_i M_1 (h_r M_1 a0 5) (i1).toNatClampNeg) then (if h_k M_1 a0 = 8 then (if (h_k M_1 (h_r M_1 a0 7) = 9 ∨ h_k M_1 (h_r M_1 a0 7) = 14) ∧ h_in i1 (h_l M_1 (h_r M_1 a0 7)) then (ev 174 24 [some (.inr a0), some (.inl i1), some (.inl i2), some (.inl (h_i M_1 (h_r M_1 a0 5) (i1).toNatClampNeg))] [.inl (h_i M_1 (h_r M_1 a0 7) (i1).toNatClampNeg)] M_1) else none) else none) else (ev 174 24 [some (.inr a0), some (.inl i1), some (.inl i2), some (.inl (h_i M_1 (h_r M_1 a0 5) (i1).toNatClampNeg))] [.inl (-1)] M_1)) else (if (i2 : Int32) = 2 then (if (h_i M_1 (h_r M_1 a0 5) (i1).toNatClampNeg) = 4 then (if h_k M_1 a0 = 8 then (if (h_k M_1 (h_r M_1 a0 12) = 9 ∨ h_k M_1 (h_r M_1 a0 12) = 14) ∧ h_in i1 (h_l M_1 (h_r M_1 a0 12)) then (ev 174 50 [some (.inr a0), some (.inl i1), some (.inl i2), some (.inl (h_i M_1 (h_r M_1 a0 5) (i1).toNatClampNeg))] [.inl (h_i M_1 (h_r M_1 a0 12) (i1).toNatClampNeg)] M_1) else none) else none) else (if (h_i M_1 (h_r M_1 a0 5) (i1).toNatClampNeg) = 3 then (if h_k M_1 a0 = 8 then (if (h_k M_1 (h_r M_1 a0 17) = 9 ∨ h_k M_1 (h_r M_1 a0 17) = 14) ∧ h_in i1 (h_l M_1 (h_r M_1 a0 17)) then (ev 174 50 [some (.inr a0), some (.inl i1), some (.inl i2), some (.inl (h_i M_1 (h_r M_1 a0 5) (i1).toNatClampNeg))] [.inl (h_i M_1 (h_r M_1 a0 17) (i1).toNatClampNeg)] M_1) else none) else none) else (if (h_i M_1 (h_r M_1 a0 5) (i1).toNatClampNeg) = 5 then (if h_k M_1 a0 = 8 then (if (h_k M_1 (h_r M_1 a0 27) = 9 ∨ h_k M_1 (h_r M_1 a0 27) = 14) ∧ h_in i1 (h_l M_1 (h_r M_1 a0 27)) then (ev 174 50 [some (.inr a0), some (.inl i1), some (.inl i2), some (.inl (h_i M_1 (h_r M_1 a0 5) (i1).toNatClampNeg))] [.inl (h_i M_1 (h_r M_1 a0 27) (i1).toNatClampNeg)] M_1) else none) else none) else (ev 174 50 [some (.inr a0), some (.inl i1), some (.inl i2), some (.inl (h_i M_1 (h_r M_1 a0 5) (i1).toNatClampNeg))] [.inl (-1)] M_1)))) else (some (some (.inl (-1)), M_1))))) else none) else none)) else none := by
  refine (ev_ns c_174 2 (ip' := 2) (ls' := [some (.inr a0), some (.inl i1), some (.inl i2), none]) (st' := [.inl i1, .inr a0]) (M' := M) rfl).trans ?_
  refine (ev_gI (a_rec M 8 [.inr a0, .inl i1] = true ∧ ([] : List mV).length ≤ 8) (as := [.inr a0, .inl i1]) (rr := []) c_174 c_107 rfl).trans (t_i (t_cI ?_) rfl)
  intro v_2 M_1
  refine (ev_i (v_2 = 0) (i1 := 4) (l1 := [some (.inr a0), some (.inl i1), some (.inl i2), none]) (s1 := []) (M1 := M_1) (i2 := 6) (l2 := [some (.inr a0), some (.inl i1), some (.inl i2), none]) (s2 := []) (M2 := M_1) c_174 rfl).trans (t_i ?_ ?_)
  · skip
    refine (ev_ns c_174 1 (ip' := 5) (ls' := [some (.inr a0), some (.inl i1), some (.inl i2), none]) (st' := [.inl (-1)]) (M' := M_1) rfl).trans ?_
    exact ev_d c_174 rfl
  · skip
    refine (ev_ns c_174 1 (ip' := 7) (ls' := [some (.inr a0), some (.inl i1), some (.inl i2), none]) (st' := [.inr a0]) (M' := M_1) rfl).trans ?_
    refine (ev_g (h_k M_1 a0 = 8) (ip' := 8) (ls' := [some (.inr a0), some (.inl i1), some (.inl i2), none]) (st' := [.inr (h_r M_1 a0 5)]) (M' := M_1) c_174 rfl).trans (t_i ?_ rfl)
    refine (ev_ns c_174 1 (ip' := 9) (ls' := [some (.inr a0), some (.inl i1), some (.inl i2), none]) (st' := [.inl i1, .inr (h_r M_1 a0 5)]) (M' := M_1) rfl).trans ?_
    refine (ev_g ((h_k M_1 (h_r M_1 a0 5) = 9 ∨ h_k M_1 (h_r M_1 a0 5) = 14) ∧ h_in i1 (h_l M_1 (h_r M_1 a0 5))) (ip' := 10) (ls' := [some (.inr a0), some (.inl i1), some (.inl i2), none]) (st' := [.inl (h_i M_1 (h_r M_1 a0 5) (i1).toNatClampNeg)]) (M' := M_1) c_174 rfl).trans (t_i ?_ rfl)
    refine (ev_ns c_174 2 (ip' := 12) (ls' := [some (.inr a0), some (.inl i1), some (.inl i2), some (.inl (h_i M_1 (h_r M_1 a0 5) (i1).toNatClampNeg))]) (st' := [.inl i2]) (M' := M_1) rfl).trans ?_
    refine (ev_sw c_174 (x := i2) (ls := [some (.inr a0), some (.inl i1), some (.inl i2), some (.inl (h_i M_1 (h_r M_1 a0 5) (i1).toNatClampNeg))]) (r := []) (M := M_1) (d := 51) (ts := [13, 15, 25]) rfl).trans ?_
    refine t_i ?_ ?_
    · skip
      refine (ev_ns c_174 1 (ip' := 14) (ls' := [some (.inr a0), some (.inl i1), some (.inl i2), some (.inl (h_i M_1 (h_r M_1 a0 5) (i1).toNatClampNeg))]) (st' := [.inl (h_i M_1 (h_r M_1 a0 5) (i1).toNatClampNeg)]) (M' := M_1) rfl).trans ?_
      exact ev_d c_174 rfl
    refine t_i ?_ ?_
    · skip
      refine (ev_ns c_174 2 (ip' := 17) (ls' := [some (.inr a0), some (.inl i1), some (.inl i2), some (.inl (h_i M_1 (h_r M_1 a0 5) (i1).toNatClampNeg))]) (st' := [.inl 2, .inl (h_i M_1 (h_r M_1 a0 5) (i1).toNatClampNeg)]) (M' := M_1) rfl).trans ?_
      refine (ev_i ((2 : Int32) ≤ (h_i M_1 (h_r M_1 a0 5) (i1).toNatClampNeg)) (i1 := 20) (l1 := [some (.inr a0), some (.inl i1), some (.inl i2), some (.inl (h_i M_1 (h_r M_1 a0 5) (i1).toNatClampNeg))]) (s1 := []) (M1 := M_1) (i2 := 18) (l2 := [some (.inr a0), some (.inl i1), some (.inl i2), some (.inl (h_i M_1 (h_r M_1 a0 5) (i1).toNatClampNeg))]) (s2 := []) (M2 := M_1) c_174 rfl).trans (t_i ?_ ?_)
      · skip
        refine (ev_ns c_174 1 (ip' := 21) (ls' := [some (.inr a0), some (.inl i1), some (.inl i2), some (.inl (h_i M_1 (h_r M_1 a0 5) (i1).toNatClampNeg))]) (st' := [.inr a0]) (M' := M_1) rfl).trans ?_
        refine (ev_g (h_k M_1 a0 = 8) (ip' := 22) (ls' := [some (.inr a0), some (.inl i1), some (.inl i2), some (.inl (h_i M_1 (h_r M_1 a0 5) (i1).toNatClampNeg))]) (st' := [.inr (h_r M_1 a0 7)]) (M' := M_1) c_174 rfl).trans (t_i ?_ rfl)
        refine (ev_ns c_174 1 (ip' := 23) (ls' := [some (.inr a0), some (.inl i1), some (.inl i2), some (.inl (h_i M_1 (h_r M_1 a0 5) (i1).toNatClampNeg))]) (st' := [.inl i1, .inr (h_r M_1 a0 7)]) (M' := M_1) rfl).trans ?_
        refine (ev_g ((h_k M_1 (h_r M_1 a0 7) = 9 ∨ h_k M_1 (h_r M_1 a0 7) = 14) ∧ h_in i1 (h_l M_1 (h_r M_1 a0 7))) (ip' := 24) (ls' := [some (.inr a0), some (.inl i1), some (.inl i2), some (.inl (h_i M_1 (h_r M_1 a0 5) (i1).toNatClampNeg))]) (st' := [.inl (h_i M_1 (h_r M_1 a0 7) (i1).toNatClampNeg)]) (M' := M_1) c_174 rfl).trans (t_i ?_ rfl)
        exact rfl
      · skip
        exact ev_ns c_174 2 (ip' := 24) (ls' := [some (.inr a0), some (.inl i1), some (.inl i2), some (.inl (h_i M_1 (h_r M_1 a0 5) (i1).toNatClampNeg))]) (st' := [.inl (-1)]) (M' := M_1) rfl
    refine t_i ?_ ?_
    · skip
      refine (ev_ns c_174 2 (ip' := 27) (ls' := [some (.inr a0), some (.inl i1), some (.inl i2), some (.inl (h_i M_1 (h_r M_1 a0 5) (i1).toNatClampNeg))]) (st' := [.inl 4, .inl (h_i M_1 (h_r M_1 a0 5) (i1).toNatClampNeg)]) (M' := M_1) rfl).trans ?_
      refine (ev_i ((h_i M_1 (h_r M_1 a0 5) (i1).toNatClampNeg) = 4) (i1 := 28) (l1 := [some (.inr a0), some (.inl i1), some (.inl i2), some (.inl (h_i M_1 (h_r M_1 a0 5) (i1).toNatClampNeg))]) (s1 := []) (M1 := M_1) (i2 := 33) (l2 := [some (.inr a0), some (.inl i1), some (.inl i2), some (.inl (h_i M_1 (h_r M_1 a0 5) (i1).toNatClampNeg))]) (s2 := []) (M2 := M_1) c_174 rfl).trans (t_i ?_ ?_)
      · skip
        refine (ev_ns c_174 1 (ip' := 29) (ls' := [some (.inr a0), some (.inl i1), some (.inl i2), some (.inl (h_i M_1 (h_r M_1 a0 5) (i1).toNatClampNeg))]) (st' := [.inr a0]) (M' := M_1) rfl).trans ?_
        refine (ev_g (h_k M_1 a0 = 8) (ip' := 30) (ls' := [some (.inr a0), some (.inl i1), some (.inl i2), some (.inl (h_i M_1 (h_r M_1 a0 5) (i1).toNatClampNeg))]) (st' := [.inr (h_r M_1 a0 12)]) (M' := M_1) c_174 rfl).trans (t_i ?_ rfl)
        refine (ev_ns c_174 1 (ip' := 31) (ls' := [some (.inr a0), some (.inl i1), some (.inl i2), some (.inl (h_i M_1 (h_r M_1 a0 5) (i1).toNatClampNeg))]) (st' := [.inl i1, .inr (h_r M_1 a0 12)]) (M' := M_1) rfl).trans ?_
        refine (ev_g ((h_k M_1 (h_r M_1 a0 12) = 9 ∨ h_k M_1 (h_r M_1 a0 12) = 14) ∧ h_in i1 (h_l M_1 (h_r M_1 a0 12))) (ip' := 32) (ls' := [some (.inr a0), some (.inl i1), some (.inl i2), some (.inl (h_i M_1 (h_r M_1 a0 5) (i1).toNatClampNeg))]) (st' := [.inl (h_i M_1 (h_r M_1 a0 12) (i1).toNatClampNeg)]) (M' := M_1) c_174 rfl).trans (t_i ?_ rfl)
        exact ev_ns c_174 1 (ip' := 50) (ls' := [some (.inr a0), some (.inl i1), some (.inl i2), some (.inl (h_i M_1 (h_r M_1 a0 5) (i1).toNatClampNeg))]) (st' := [.inl (h_i M_1 (h_r M_1 a0 12) (i1).toNatClampNeg)]) (M' := M_1) rfl
      · skip
        refine (ev_ns c_174 2 (ip' := 35) (ls' := [some (.inr a0), some (.inl i1), some (.inl i2), some (.inl (h_i M_1 (h_r M_1 a0 5) (i1).toNatClampNeg))]) (st' := [.inl 3, .inl (h_i M_1 (h_r M_1 a0 5) (i1).toNatClampNeg)]) (M' := M_1) rfl).trans ?_
        refine (ev_i ((h_i M_1 (h_r M_1 a0 5) (i1).toNatClampNeg) = 3) (i1 := 36) (l1 := [some (.inr a0), some (.inl i1), some (.inl i2), some (.inl (h_i M_1 (h_r M_1 a0 5) (i1).toNatClampNeg))]) (s1 := []) (M1 := M_1) (i2 := 41) (l2 := [some (.inr a0), some (.inl i1), some (.inl i2), some (.inl (h_i M_1 (h_r M_1 a0 5) (i1).toNatClampNeg))]) (s2 := []) (M2 := M_1) c_174 rfl).trans (t_i ?_ ?_)
        · skip
          refine (ev_ns c_174 1 (ip' := 37) (ls' := [some (.inr a0), some (.inl i1), some (.inl i2), some (.inl (h_i M_1 (h_r M_1 a0 5) (i1).toNatClampNeg))]) (st' := [.inr a0]) (M' := M_1) rfl).trans ?_
          refine (ev_g (h_k M_1 a0 = 8) (ip' := 38) (ls' := [some (.inr a0), some (.inl i1), some (.inl i2), some (.inl (h_i M_1 (h_r M_1 a0 5) (i1).toNatClampNeg))]) (st' := [.inr (h_r M_1 a0 17)]) (M' := M_1) c_174 rfl).trans (t_i ?_ rfl)
          refine (ev_ns c_174 1 (ip' := 39) (ls' := [some (.inr a0), some (.inl i1), some (.inl i2), some (.inl (h_i M_1 (h_r M_1 a0 5) (i1).toNatClampNeg))]) (st' := [.inl i1, .inr (h_r M_1 a0 17)]) (M' := M_1) rfl).trans ?_
          refine (ev_g ((h_k M_1 (h_r M_1 a0 17) = 9 ∨ h_k M_1 (h_r M_1 a0 17) = 14) ∧ h_in i1 (h_l M_1 (h_r M_1 a0 17))) (ip' := 40) (ls' := [some (.inr a0), some (.inl i1), some (.inl i2), some (.inl (h_i M_1 (h_r M_1 a0 5) (i1).toNatClampNeg))]) (st' := [.inl (h_i M_1 (h_r M_1 a0 17) (i1).toNatClampNeg)]) (M' := M_1) c_174 rfl).trans (t_i ?_ rfl)
          exact ev_ns c_174 1 (ip' := 50) (ls' := [some (.inr a0), some (.inl i1), some (.inl i2), some (.inl (h_i M_1 (h_r M_1 a0 5) (i1).toNatClampNeg))]) (st' := [.inl (h_i M_1 (h_r M_1 a0 17) (i1).toNatClampNeg)]) (M' := M_1) rfl
        · skip
          refine (ev_ns c_174 2 (ip' := 43) (ls' := [some (.inr a0), some (.inl i1), some (.inl i2), some (.inl (h_i M_1 (h_r M_1 a0 5) (i1).toNatClampNeg))]) (st' := [.inl 5, .inl (h_i M_1 (h_r M_1 a0 5) (i1).toNatClampNeg)]) (M' := M_1) rfl).trans ?_
          refine (ev_i ((h_i M_1 (h_r M_1 a0 5) (i1).toNatClampNeg) = 5) (i1 := 44) (l1 := [some (.inr a0), some (.inl i1), some (.inl i2), some (.inl (h_i M_1 (h_r M_1 a0 5) (i1).toNatClampNeg))]) (s1 := []) (M1 := M_1) (i2 := 49) (l2 := [some (.inr a0), some (.inl i1), some (.inl i2), some (.inl (h_i M_1 (h_r M_1 a0 5) (i1).toNatClampNeg))]) (s2 := []) (M2 := M_1) c_174 rfl).trans (t_i ?_ ?_)
          · skip
            refine (ev_ns c_174 1 (ip' := 45) (ls' := [some (.inr a0), some (.inl i1), some (.inl i2), some (.inl (h_i M_1 (h_r M_1 a0 5) (i1).toNatClampNeg))]) (st' := [.inr a0]) (M' := M_1) rfl).trans ?_
            refine (ev_g (h_k M_1 a0 = 8) (ip' := 46) (ls' := [some (.inr a0), some (.inl i1), some (.inl i2), some (.inl (h_i M_1 (h_r M_1 a0 5) (i1).toNatClampNeg))]) (st' := [.inr (h_r M_1 a0 27)]) (M' := M_1) c_174 rfl).trans (t_i ?_ rfl)
            refine (ev_ns c_174 1 (ip' := 47) (ls' := [some (.inr a0), some (.inl i1), some (.inl i2), some (.inl (h_i M_1 (h_r M_1 a0 5) (i1).toNatClampNeg))]) (st' := [.inl i1, .inr (h_r M_1 a0 27)]) (M' := M_1) rfl).trans ?_
            refine (ev_g ((h_k M_1 (h_r M_1 a0 27) = 9 ∨ h_k M_1 (h_r M_1 a0 27) = 14) ∧ h_in i1 (h_l M_1 (h_r M_1 a0 27))) (ip' := 48) (ls' := [some (.inr a0), some (.inl i1), some (.inl i2), some (.inl (h_i M_1 (h_r M_1 a0 5) (i1).toNatClampNeg))]) (st' := [.inl (h_i M_1 (h_r M_1 a0 27) (i1).toNatClampNeg)]) (M' := M_1) c_174 rfl).trans (t_i ?_ rfl)
            exact ev_ns c_174 1 (ip' := 50) (ls' := [some (.inr a0), some (.inl i1), some (.inl i2), some (.inl (h_i M_1 (h_r M_1 a0 5) (i1).toNatClampNeg))]) (st' := [.inl (h_i M_1 (h_r M_1 a0 27) (i1).toNatClampNeg)]) (M' := M_1) rfl
          · skip
            exact ev_ns c_174 1 (ip' := 50) (ls' := [some (.inr a0), some (.inl i1), some (.inl i2), some (.inl (h_i M_1 (h_r M_1 a0 5) (i1).toNatClampNeg))]) (st' := [.inl (-1)]) (M' := M_1) rfl
    refine (ev_ns c_174 1 (ip' := 52) (ls' := [some (.inr a0), some (.inl i1), some (.inl i2), some (.inl (h_i M_1 (h_r M_1 a0 5) (i1).toNatClampNeg))]) (st' := [.inl (-1)]) (M' := M_1) rfl).trans ?_
    exact ev_d c_174 rfl
set_option maxRecDepth 20000 in
theorem e_174_24 (a0 : Nat) (i1 : Int32) (i2 : Int32) (i3 : Int32) (s0 : Int32) (M : mM) : ev 174 24 [some (.inr a0), some (.inl i1), some (.inl i2), some (.inl i3)] [.inl s0] M = some (some (.inl s0), M) := by
  exact ev_d c_174 rfl
set_option maxRecDepth 20000 in
theorem e_174_50 (a0 : Nat) (i1 : Int32) (i2 : Int32) (i3 : Int32) (s0 : Int32) (M : mM) : ev 174 50 [some (.inr a0), some (.inl i1), some (.inl i2), some (.inl i3)] [.inl s0] M = some (some (.inl s0), M) := by
  exact ev_d c_174 rfl
/- 175: GranuleHallModel.ramOf(I)I -/
set_option maxRecDepth 20000 in
theorem e_175_0 (a0 : Nat) (i1 : Int32) (M : mM) : ev 175 0 [some (.inr a0), some (.inl i1), none, none, none] [] M = ev 175 4 [some (.inr a0), some (.inl i1), some (.inl 0), some (.inl 0), none] [] M := by
  exact ev_ns c_175 4 (ip' := 4) (ls' := [some (.inr a0), some (.inl i1), some (.inl 0), some (.inl 0), none]) (st' := []) (M' := M) rfl
set_option maxRecDepth 20000 in
theorem e_175_4 (a0 : Nat) (i1 : Int32) (i2 : Int32) (i3 : Int32) (o4 : Option mV) (M : mM) : ev 175 4 [some (.inr a0), some (.inl i1), some (.inl i2), some (.inl i3), o4] [] M = if h_k M a0 = 8 then (if (8 * (h_i M a0 0)) ≤ i3 then (some (some (.inl i2), M)) else (if ¬ 8 = 0 then (if h_k M a0 = 8 then (if (h_k M (h_r M a0 5) = 9 ∨ h_k M (h_r M a0 5) = 14) ∧ h_in (i3 / 8) (h_l M (h_r M a0 5)) then (if (h_i M (h_r M a0 5) ((i3 / 8)).toNatClampNeg) = 4 then (if h_k M a0 = 8 then (if (h_k M (h_r M a0 7) = 9 ∨ h_k M (h_r M a0 7) = 14) ∧ h_in (i3 / 8) (h_l M (h_r M a0 7)) then (if (h_i M (h_r M a0 7) ((i3 / 8)).toNatClampNeg) = i1 then (if h_k M a0 = 8 then (if (h_k M (h_r M a0 14) = 9 ∨ h_k M (h_r M a0 14) = 14) ∧ h_in i3 (h_l M (h_r M a0 14)) then (if (h_i M (h_r M a0 14) (i3).toNatClampNeg) = 2 then (ev 175 51 [some (.inr a0), some (.inl i1), some (.inl i2), some (.inl i3), some (.inl (i3 / 8))] [] M) else (if h_k M a0 = 8 then (if (h_k M (h_r M a0 16) = 9 ∨ h_k M (h_r M a0 16) = 14) ∧ h_in i3 (h_l M (h_r M a0 16)) then (if (h_i M (h_r M a0 16) (i3).toNatClampNeg) = 1 then (if (a_rec M 8 [.inr a0, .inl i3] = true ∧ ([] : List mV).length ≤ 8) then (c_I (ev 121 0 [some (.inr a0), some (.inl i3)] [] M) fun v_2 M_1 => if (2048 : Int32) ≤ v_2 then (ev 175 51 [some (.inr a0), some (.inl i1), some (.inl i2), some (.inl i3), some (.inl (i3 / 8))] [] M_1) else (if h_k M_1 a0 = 8 then (if (h_k M_1 (h_r M_1 a0 12) = 9 ∨ h_k M_1 (h_r M_1 a0 12) = 14) ∧ h_in (i3 / 8) (h_l M_1 (h_r M_1 a0 12)) then (if (a_rec M_1 0 [.inl (h_i M_1 (h_r M_1 a0 12) ((i3 / 8)).toNatClampNeg)] = true ∧ ([.inl i2] : List mV).length ≤ 8) then (c_I (ev 116 0 [some (.inl (h_i M_1 (h_r M_1 a0 12) ((i3 / 8)).toNatClampNeg))] [] M_1) fun v_4 M_3 => ev 175 51 [some (.inr a0), some (.inl i1), some (.inl (i2 + v_4)), some (.inl i3), some (.inl (i3 / 8))] [] M_3) else none) else none) else none)) else none) else (ev 175 51 [some (.inr a0), some (.inl i1), some (.inl i2), some (.inl i3), some (.inl (i3 / 8))] [] M)) else none) else none)) else none) else none) else (ev 175 51 [some (.inr a0), some (.inl i1), some (.inl i2), some (.inl i3), some (.inl (i3 / 8))] [] M)) else none) else none) else (ev 175 51 [some (.inr a0), some (.inl i1), some (.inl i2), some (.inl i3), some (.inl (i3 / 8))] [] M)) else none) else none) else none)) else none := by
  refine (ev_ns c_175 3 (ip' := 7) (ls' := [some (.inr a0), some (.inl i1), some (.inl i2), some (.inl i3), o4]) (st' := [.inr a0, .inl 8, .inl i3]) (M' := M) rfl).trans ?_
  refine (ev_g (h_k M a0 = 8) (ip' := 8) (ls' := [some (.inr a0), some (.inl i1), some (.inl i2), some (.inl i3), o4]) (st' := [.inl (h_i M a0 0), .inl 8, .inl i3]) (M' := M) c_175 rfl).trans (t_i ?_ rfl)
  refine (ev_ns c_175 1 (ip' := 9) (ls' := [some (.inr a0), some (.inl i1), some (.inl i2), some (.inl i3), o4]) (st' := [.inl (8 * (h_i M a0 0)), .inl i3]) (M' := M) rfl).trans ?_
  refine (ev_i ((8 * (h_i M a0 0)) ≤ i3) (i1 := 53) (l1 := [some (.inr a0), some (.inl i1), some (.inl i2), some (.inl i3), o4]) (s1 := []) (M1 := M) (i2 := 10) (l2 := [some (.inr a0), some (.inl i1), some (.inl i2), some (.inl i3), o4]) (s2 := []) (M2 := M) c_175 rfl).trans (t_i ?_ ?_)
  · skip
    refine (ev_ns c_175 1 (ip' := 54) (ls' := [some (.inr a0), some (.inl i1), some (.inl i2), some (.inl i3), o4]) (st' := [.inl i2]) (M' := M) rfl).trans ?_
    exact ev_d c_175 rfl
  · skip
    refine (ev_ns c_175 2 (ip' := 12) (ls' := [some (.inr a0), some (.inl i1), some (.inl i2), some (.inl i3), o4]) (st' := [.inl 8, .inl i3]) (M' := M) rfl).trans ?_
    refine (ev_g (¬ 8 = 0) (ip' := 13) (ls' := [some (.inr a0), some (.inl i1), some (.inl i2), some (.inl i3), o4]) (st' := [.inl (i3 / 8)]) (M' := M) c_175 rfl).trans (t_i ?_ rfl)
    refine (ev_ns c_175 2 (ip' := 15) (ls' := [some (.inr a0), some (.inl i1), some (.inl i2), some (.inl i3), some (.inl (i3 / 8))]) (st' := [.inr a0]) (M' := M) rfl).trans ?_
    refine (ev_g (h_k M a0 = 8) (ip' := 16) (ls' := [some (.inr a0), some (.inl i1), some (.inl i2), some (.inl i3), some (.inl (i3 / 8))]) (st' := [.inr (h_r M a0 5)]) (M' := M) c_175 rfl).trans (t_i ?_ rfl)
    refine (ev_ns c_175 1 (ip' := 17) (ls' := [some (.inr a0), some (.inl i1), some (.inl i2), some (.inl i3), some (.inl (i3 / 8))]) (st' := [.inl (i3 / 8), .inr (h_r M a0 5)]) (M' := M) rfl).trans ?_
    refine (ev_g ((h_k M (h_r M a0 5) = 9 ∨ h_k M (h_r M a0 5) = 14) ∧ h_in (i3 / 8) (h_l M (h_r M a0 5))) (ip' := 18) (ls' := [some (.inr a0), some (.inl i1), some (.inl i2), some (.inl i3), some (.inl (i3 / 8))]) (st' := [.inl (h_i M (h_r M a0 5) ((i3 / 8)).toNatClampNeg)]) (M' := M) c_175 rfl).trans (t_i ?_ rfl)
    refine (ev_ns c_175 1 (ip' := 19) (ls' := [some (.inr a0), some (.inl i1), some (.inl i2), some (.inl i3), some (.inl (i3 / 8))]) (st' := [.inl 4, .inl (h_i M (h_r M a0 5) ((i3 / 8)).toNatClampNeg)]) (M' := M) rfl).trans ?_
    refine (ev_i ((h_i M (h_r M a0 5) ((i3 / 8)).toNatClampNeg) = 4) (i1 := 20) (l1 := [some (.inr a0), some (.inl i1), some (.inl i2), some (.inl i3), some (.inl (i3 / 8))]) (s1 := []) (M1 := M) (i2 := 51) (l2 := [some (.inr a0), some (.inl i1), some (.inl i2), some (.inl i3), some (.inl (i3 / 8))]) (s2 := []) (M2 := M) c_175 rfl).trans (t_i ?_ ?_)
    · skip
      refine (ev_ns c_175 1 (ip' := 21) (ls' := [some (.inr a0), some (.inl i1), some (.inl i2), some (.inl i3), some (.inl (i3 / 8))]) (st' := [.inr a0]) (M' := M) rfl).trans ?_
      refine (ev_g (h_k M a0 = 8) (ip' := 22) (ls' := [some (.inr a0), some (.inl i1), some (.inl i2), some (.inl i3), some (.inl (i3 / 8))]) (st' := [.inr (h_r M a0 7)]) (M' := M) c_175 rfl).trans (t_i ?_ rfl)
      refine (ev_ns c_175 1 (ip' := 23) (ls' := [some (.inr a0), some (.inl i1), some (.inl i2), some (.inl i3), some (.inl (i3 / 8))]) (st' := [.inl (i3 / 8), .inr (h_r M a0 7)]) (M' := M) rfl).trans ?_
      refine (ev_g ((h_k M (h_r M a0 7) = 9 ∨ h_k M (h_r M a0 7) = 14) ∧ h_in (i3 / 8) (h_l M (h_r M a0 7))) (ip' := 24) (ls' := [some (.inr a0), some (.inl i1), some (.inl i2), some (.inl i3), some (.inl (i3 / 8))]) (st' := [.inl (h_i M (h_r M a0 7) ((i3 / 8)).toNatClampNeg)]) (M' := M) c_175 rfl).trans (t_i ?_ rfl)
      refine (ev_ns c_175 1 (ip' := 25) (ls' := [some (.inr a0), some (.inl i1), some (.inl i2), some (.inl i3), some (.inl (i3 / 8))]) (st' := [.inl i1, .inl (h_i M (h_r M a0 7) ((i3 / 8)).toNatClampNeg)]) (M' := M) rfl).trans ?_
      refine (ev_i ((h_i M (h_r M a0 7) ((i3 / 8)).toNatClampNeg) = i1) (i1 := 26) (l1 := [some (.inr a0), some (.inl i1), some (.inl i2), some (.inl i3), some (.inl (i3 / 8))]) (s1 := []) (M1 := M) (i2 := 51) (l2 := [some (.inr a0), some (.inl i1), some (.inl i2), some (.inl i3), some (.inl (i3 / 8))]) (s2 := []) (M2 := M) c_175 rfl).trans (t_i ?_ ?_)
      · skip
        refine (ev_ns c_175 1 (ip' := 27) (ls' := [some (.inr a0), some (.inl i1), some (.inl i2), some (.inl i3), some (.inl (i3 / 8))]) (st' := [.inr a0]) (M' := M) rfl).trans ?_
        refine (ev_g (h_k M a0 = 8) (ip' := 28) (ls' := [some (.inr a0), some (.inl i1), some (.inl i2), some (.inl i3), some (.inl (i3 / 8))]) (st' := [.inr (h_r M a0 14)]) (M' := M) c_175 rfl).trans (t_i ?_ rfl)
        refine (ev_ns c_175 1 (ip' := 29) (ls' := [some (.inr a0), some (.inl i1), some (.inl i2), some (.inl i3), some (.inl (i3 / 8))]) (st' := [.inl i3, .inr (h_r M a0 14)]) (M' := M) rfl).trans ?_
        refine (ev_g ((h_k M (h_r M a0 14) = 9 ∨ h_k M (h_r M a0 14) = 14) ∧ h_in i3 (h_l M (h_r M a0 14))) (ip' := 30) (ls' := [some (.inr a0), some (.inl i1), some (.inl i2), some (.inl i3), some (.inl (i3 / 8))]) (st' := [.inl (h_i M (h_r M a0 14) (i3).toNatClampNeg)]) (M' := M) c_175 rfl).trans (t_i ?_ rfl)
        refine (ev_ns c_175 1 (ip' := 31) (ls' := [some (.inr a0), some (.inl i1), some (.inl i2), some (.inl i3), some (.inl (i3 / 8))]) (st' := [.inl 2, .inl (h_i M (h_r M a0 14) (i3).toNatClampNeg)]) (M' := M) rfl).trans ?_
        refine (ev_i ((h_i M (h_r M a0 14) (i3).toNatClampNeg) = 2) (i1 := 51) (l1 := [some (.inr a0), some (.inl i1), some (.inl i2), some (.inl i3), some (.inl (i3 / 8))]) (s1 := []) (M1 := M) (i2 := 32) (l2 := [some (.inr a0), some (.inl i1), some (.inl i2), some (.inl i3), some (.inl (i3 / 8))]) (s2 := []) (M2 := M) c_175 rfl).trans (t_i ?_ ?_)
        · skip
          exact rfl
        · skip
          refine (ev_ns c_175 1 (ip' := 33) (ls' := [some (.inr a0), some (.inl i1), some (.inl i2), some (.inl i3), some (.inl (i3 / 8))]) (st' := [.inr a0]) (M' := M) rfl).trans ?_
          refine (ev_g (h_k M a0 = 8) (ip' := 34) (ls' := [some (.inr a0), some (.inl i1), some (.inl i2), some (.inl i3), some (.inl (i3 / 8))]) (st' := [.inr (h_r M a0 16)]) (M' := M) c_175 rfl).trans (t_i ?_ rfl)
          refine (ev_ns c_175 1 (ip' := 35) (ls' := [some (.inr a0), some (.inl i1), some (.inl i2), some (.inl i3), some (.inl (i3 / 8))]) (st' := [.inl i3, .inr (h_r M a0 16)]) (M' := M) rfl).trans ?_
          refine (ev_g ((h_k M (h_r M a0 16) = 9 ∨ h_k M (h_r M a0 16) = 14) ∧ h_in i3 (h_l M (h_r M a0 16))) (ip' := 36) (ls' := [some (.inr a0), some (.inl i1), some (.inl i2), some (.inl i3), some (.inl (i3 / 8))]) (st' := [.inl (h_i M (h_r M a0 16) (i3).toNatClampNeg)]) (M' := M) c_175 rfl).trans (t_i ?_ rfl)
          refine (ev_ns c_175 1 (ip' := 37) (ls' := [some (.inr a0), some (.inl i1), some (.inl i2), some (.inl i3), some (.inl (i3 / 8))]) (st' := [.inl 1, .inl (h_i M (h_r M a0 16) (i3).toNatClampNeg)]) (M' := M) rfl).trans ?_
          refine (ev_i ((h_i M (h_r M a0 16) (i3).toNatClampNeg) = 1) (i1 := 38) (l1 := [some (.inr a0), some (.inl i1), some (.inl i2), some (.inl i3), some (.inl (i3 / 8))]) (s1 := []) (M1 := M) (i2 := 51) (l2 := [some (.inr a0), some (.inl i1), some (.inl i2), some (.inl i3), some (.inl (i3 / 8))]) (s2 := []) (M2 := M) c_175 rfl).trans (t_i ?_ ?_)
          · skip
            refine (ev_ns c_175 2 (ip' := 40) (ls' := [some (.inr a0), some (.inl i1), some (.inl i2), some (.inl i3), some (.inl (i3 / 8))]) (st' := [.inl i3, .inr a0]) (M' := M) rfl).trans ?_
            refine (ev_gI (a_rec M 8 [.inr a0, .inl i3] = true ∧ ([] : List mV).length ≤ 8) (as := [.inr a0, .inl i3]) (rr := []) c_175 c_121 rfl).trans (t_i (t_cI ?_) rfl)
            intro v_2 M_1
            refine (ev_ns c_175 1 (ip' := 42) (ls' := [some (.inr a0), some (.inl i1), some (.inl i2), some (.inl i3), some (.inl (i3 / 8))]) (st' := [.inl 2048, .inl v_2]) (M' := M_1) rfl).trans ?_
            refine (ev_i ((2048 : Int32) ≤ v_2) (i1 := 51) (l1 := [some (.inr a0), some (.inl i1), some (.inl i2), some (.inl i3), some (.inl (i3 / 8))]) (s1 := []) (M1 := M_1) (i2 := 43) (l2 := [some (.inr a0), some (.inl i1), some (.inl i2), some (.inl i3), some (.inl (i3 / 8))]) (s2 := []) (M2 := M_1) c_175 rfl).trans (t_i ?_ ?_)
            · skip
              exact rfl
            · skip
              refine (ev_ns c_175 2 (ip' := 45) (ls' := [some (.inr a0), some (.inl i1), some (.inl i2), some (.inl i3), some (.inl (i3 / 8))]) (st' := [.inr a0, .inl i2]) (M' := M_1) rfl).trans ?_
              refine (ev_g (h_k M_1 a0 = 8) (ip' := 46) (ls' := [some (.inr a0), some (.inl i1), some (.inl i2), some (.inl i3), some (.inl (i3 / 8))]) (st' := [.inr (h_r M_1 a0 12), .inl i2]) (M' := M_1) c_175 rfl).trans (t_i ?_ rfl)
              refine (ev_ns c_175 1 (ip' := 47) (ls' := [some (.inr a0), some (.inl i1), some (.inl i2), some (.inl i3), some (.inl (i3 / 8))]) (st' := [.inl (i3 / 8), .inr (h_r M_1 a0 12), .inl i2]) (M' := M_1) rfl).trans ?_
              refine (ev_g ((h_k M_1 (h_r M_1 a0 12) = 9 ∨ h_k M_1 (h_r M_1 a0 12) = 14) ∧ h_in (i3 / 8) (h_l M_1 (h_r M_1 a0 12))) (ip' := 48) (ls' := [some (.inr a0), some (.inl i1), some (.inl i2), some (.inl i3), some (.inl (i3 / 8))]) (st' := [.inl (h_i M_1 (h_r M_1 a0 12) ((i3 / 8)).toNatClampNeg), .inl i2]) (M' := M_1) c_175 rfl).trans (t_i ?_ rfl)
              refine (ev_gI (a_rec M_1 0 [.inl (h_i M_1 (h_r M_1 a0 12) ((i3 / 8)).toNatClampNeg)] = true ∧ ([.inl i2] : List mV).length ≤ 8) (as := [.inl (h_i M_1 (h_r M_1 a0 12) ((i3 / 8)).toNatClampNeg)]) (rr := [.inl i2]) c_175 c_116 rfl).trans (t_i (t_cI ?_) rfl)
              intro v_4 M_3
              exact ev_ns c_175 2 (ip' := 51) (ls' := [some (.inr a0), some (.inl i1), some (.inl (i2 + v_4)), some (.inl i3), some (.inl (i3 / 8))]) (st' := []) (M' := M_3) rfl
          · skip
            exact rfl
      · skip
        exact rfl
    · skip
      exact rfl
set_option maxRecDepth 20000 in
theorem e_175_51 (a0 : Nat) (i1 : Int32) (i2 : Int32) (i3 : Int32) (i4 : Int32) (M : mM) : ev 175 51 [some (.inr a0), some (.inl i1), some (.inl i2), some (.inl i3), some (.inl i4)] [] M = ev 175 4 [some (.inr a0), some (.inl i1), some (.inl i2), some (.inl (i3 + 1)), some (.inl i4)] [] M := by
  exact ev_ns c_175 2 (ip' := 4) (ls' := [some (.inr a0), some (.inl i1), some (.inl i2), some (.inl (i3 + 1)), some (.inl i4)]) (st' := []) (M' := M) rfl
/- 176: GranuleHallModel.realm(II)I -/
set_option maxRecDepth 20000 in
theorem e_176_0 (a0 : Nat) (i1 : Int32) (i2 : Int32) (M : mM) : ev 176 0 [some (.inr a0), some (.inl i1), some (.inl i2)] [] M = if (a_rec M 8 [.inr a0, .inl i1] = true ∧ ([] : List mV).length ≤ 8) then (c_I (ev 107 0 [some (.inr a0), some (.inl i1)] [] M) fun v_2 M_1 => if v_2 = 0 then (ev 176 9 [some (.inr a0), some (.inl i1), some (.inl i2)] [] M_1) else (if (a_rec M_1 8 [.inr a0, .inl i1, .inl 2] = true ∧ ([] : List mV).length ≤ 8) then (c_I (ev 108 0 [some (.inr a0), some (.inl i1), some (.inl 2)] [] M_1) fun v_4 M_3 => if v_4 = 0 then (ev 176 9 [some (.inr a0), some (.inl i1), some (.inl i2)] [] M_3) else (if (i2 : Int32) = 0 then (if h_k M_3 a0 = 8 then (if (h_k M_3 (h_r M_3 a0 8) = 9 ∨ h_k M_3 (h_r M_3 a0 8) = 14) ∧ h_in i1 (h_l M_3 (h_r M_3 a0 8)) then (some (some (.inl (h_i M_3 (h_r M_3 a0 8) (i1).toNatClampNeg)), M_3)) else none) else none) else (if (i2 : Int32) = 1 then (if h_k M_3 a0 = 8 then (if (h_k M_3 (h_r M_3 a0 9) = 9 ∨ h_k M_3 (h_r M_3 a0 9) = 14) ∧ h_in i1 (h_l M_3 (h_r M_3 a0 9)) then (some (some (.inl (h_i M_3 (h_r M_3 a0 9) (i1).toNatClampNeg)), M_3)) else none) else none) else (if (i2 : Int32) = 2 then (if (a_rec M_3 8 [.inr a0, .inl i1, .inl 3] = true ∧ ([] : List mV).length ≤ 8) then (c_I (ev 135 0 [some (.inr a0), some (.inl i1), some (.inl 3), none, none] [] M_3) fun v_6 M_5 => some (some (.inl v_6), M_5)) else none) else (if (i2 : Int32) = 3 then (if (a_rec M_3 8 [.inr a0, .inl i1, .inl 4] = true ∧ ([] : List mV).length ≤ 8) then (c_I (ev 135 0 [some (.inr a0), some (.inl i1), some (.inl 4), none, none] [] M_3) fun v_8 M_7 => some (some (.inl v_8), M_7)) else none) else (if (i2 : Int32) = 4 then (if (a_rec M_3 8 [.inr a0, .inl i1, .inl 5] = true ∧ ([] : List mV).length ≤ 8) then (c_I (ev 135 0 [some (.inr a0), some (.inl i1), some (.inl 5), none, none] [] M_3) fun v_10 M_9 => some (some (.inl v_10), M_9)) else none) else (if (i2 : Int32) = 5 then (if (a_rec M_3 8 [.inr a0, .inl i1] = true ∧ ([] : List mV).length ≤ 8) then (c_I (ev 175 0 [some (.inr a0), some (.inl i1), none, none, none] [] M_3) fun v_12 M_11 => some (some (.inl v_12), M_11)) else none) else (if (i2 : Int32) = 6 then (if h_k M_3 a0 = 8 then (if (h_k M_3 (h_r M_3 a0 10) = 9 ∨ h_k M_3 (h_r M_3 a0 10) = 14) ∧ h_in i1 (h_l M_3 (h_r M_3 a0 10)) then (some (some (.inl (h_i M_3 (h_r M_3 a0 10) (i1).toNatClampNeg)), M_3)) else none) else none) else (some (some (.inl (-1)), M_3)))))))))) else none)) else none := by
  refine (ev_ns c_176 2 (ip' := 2) (ls' := [some (.inr a0), some (.inl i1), some (.inl i2)]) (st' := [.inl i1, .inr a0]) (M' := M) rfl).trans ?_
  refine (ev_gI (a_rec M 8 [.inr a0, .inl i1] = true ∧ ([] : List mV).length ≤ 8) (as := [.inr a0, .inl i1]) (rr := []) c_176 c_107 rfl).trans (t_i (t_cI ?_) rfl)
  intro v_2 M_1
  refine (ev_i (v_2 = 0) (i1 := 9) (l1 := [some (.inr a0), some (.inl i1), some (.inl i2)]) (s1 := []) (M1 := M_1) (i2 := 4) (l2 := [some (.inr a0), some (.inl i1), some (.inl i2)]) (s2 := []) (M2 := M_1) c_176 rfl).trans (t_i ?_ ?_)
  · skip
    exact rfl
  · skip
    refine (ev_ns c_176 3 (ip' := 7) (ls' := [some (.inr a0), some (.inl i1), some (.inl i2)]) (st' := [.inl 2, .inl i1, .inr a0]) (M' := M_1) rfl).trans ?_
    refine (ev_gI (a_rec M_1 8 [.inr a0, .inl i1, .inl 2] = true ∧ ([] : List mV).length ≤ 8) (as := [.inr a0, .inl i1, .inl 2]) (rr := []) c_176 c_108 rfl).trans (t_i (t_cI ?_) rfl)
    intro v_4 M_3
    refine (ev_i (v_4 = 0) (i1 := 9) (l1 := [some (.inr a0), some (.inl i1), some (.inl i2)]) (s1 := []) (M1 := M_3) (i2 := 11) (l2 := [some (.inr a0), some (.inl i1), some (.inl i2)]) (s2 := []) (M2 := M_3) c_176 rfl).trans (t_i ?_ ?_)
    · skip
      exact rfl
    · skip
      refine (ev_ns c_176 1 (ip' := 12) (ls' := [some (.inr a0), some (.inl i1), some (.inl i2)]) (st' := [.inl i2]) (M' := M_3) rfl).trans ?_
      refine (ev_sw c_176 (x := i2) (ls := [some (.inr a0), some (.inl i1), some (.inl i2)]) (r := []) (M := M_3) (d := 47) (ts := [13, 18, 23, 28, 33, 38, 42]) rfl).trans ?_
      refine t_i ?_ ?_
      · skip
        refine (ev_ns c_176 1 (ip' := 14) (ls' := [some (.inr a0), some (.inl i1), some (.inl i2)]) (st' := [.inr a0]) (M' := M_3) rfl).trans ?_
        refine (ev_g (h_k M_3 a0 = 8) (ip' := 15) (ls' := [some (.inr a0), some (.inl i1), some (.inl i2)]) (st' := [.inr (h_r M_3 a0 8)]) (M' := M_3) c_176 rfl).trans (t_i ?_ rfl)
        refine (ev_ns c_176 1 (ip' := 16) (ls' := [some (.inr a0), some (.inl i1), some (.inl i2)]) (st' := [.inl i1, .inr (h_r M_3 a0 8)]) (M' := M_3) rfl).trans ?_
        refine (ev_g ((h_k M_3 (h_r M_3 a0 8) = 9 ∨ h_k M_3 (h_r M_3 a0 8) = 14) ∧ h_in i1 (h_l M_3 (h_r M_3 a0 8))) (ip' := 17) (ls' := [some (.inr a0), some (.inl i1), some (.inl i2)]) (st' := [.inl (h_i M_3 (h_r M_3 a0 8) (i1).toNatClampNeg)]) (M' := M_3) c_176 rfl).trans (t_i ?_ rfl)
        exact ev_d c_176 rfl
      refine t_i ?_ ?_
      · skip
        refine (ev_ns c_176 1 (ip' := 19) (ls' := [some (.inr a0), some (.inl i1), some (.inl i2)]) (st' := [.inr a0]) (M' := M_3) rfl).trans ?_
        refine (ev_g (h_k M_3 a0 = 8) (ip' := 20) (ls' := [some (.inr a0), some (.inl i1), some (.inl i2)]) (st' := [.inr (h_r M_3 a0 9)]) (M' := M_3) c_176 rfl).trans (t_i ?_ rfl)
        refine (ev_ns c_176 1 (ip' := 21) (ls' := [some (.inr a0), some (.inl i1), some (.inl i2)]) (st' := [.inl i1, .inr (h_r M_3 a0 9)]) (M' := M_3) rfl).trans ?_
        refine (ev_g ((h_k M_3 (h_r M_3 a0 9) = 9 ∨ h_k M_3 (h_r M_3 a0 9) = 14) ∧ h_in i1 (h_l M_3 (h_r M_3 a0 9))) (ip' := 22) (ls' := [some (.inr a0), some (.inl i1), some (.inl i2)]) (st' := [.inl (h_i M_3 (h_r M_3 a0 9) (i1).toNatClampNeg)]) (M' := M_3) c_176 rfl).trans (t_i ?_ rfl)
        exact ev_d c_176 rfl
      refine t_i ?_ ?_
      · skip
        refine (ev_ns c_176 3 (ip' := 26) (ls' := [some (.inr a0), some (.inl i1), some (.inl i2)]) (st' := [.inl 3, .inl i1, .inr a0]) (M' := M_3) rfl).trans ?_
        refine (ev_gI (a_rec M_3 8 [.inr a0, .inl i1, .inl 3] = true ∧ ([] : List mV).length ≤ 8) (as := [.inr a0, .inl i1, .inl 3]) (rr := []) c_176 c_135 rfl).trans (t_i (t_cI ?_) rfl)
        intro v_6 M_5
        exact ev_d c_176 rfl
      refine t_i ?_ ?_
      · skip
        refine (ev_ns c_176 3 (ip' := 31) (ls' := [some (.inr a0), some (.inl i1), some (.inl i2)]) (st' := [.inl 4, .inl i1, .inr a0]) (M' := M_3) rfl).trans ?_
        refine (ev_gI (a_rec M_3 8 [.inr a0, .inl i1, .inl 4] = true ∧ ([] : List mV).length ≤ 8) (as := [.inr a0, .inl i1, .inl 4]) (rr := []) c_176 c_135 rfl).trans (t_i (t_cI ?_) rfl)
        intro v_8 M_7
        exact ev_d c_176 rfl
      refine t_i ?_ ?_
      · skip
        refine (ev_ns c_176 3 (ip' := 36) (ls' := [some (.inr a0), some (.inl i1), some (.inl i2)]) (st' := [.inl 5, .inl i1, .inr a0]) (M' := M_3) rfl).trans ?_
        refine (ev_gI (a_rec M_3 8 [.inr a0, .inl i1, .inl 5] = true ∧ ([] : List mV).length ≤ 8) (as := [.inr a0, .inl i1, .inl 5]) (rr := []) c_176 c_135 rfl).trans (t_i (t_cI ?_) rfl)
        intro v_10 M_9
        exact ev_d c_176 rfl
      refine t_i ?_ ?_
      · skip
        refine (ev_ns c_176 2 (ip' := 40) (ls' := [some (.inr a0), some (.inl i1), some (.inl i2)]) (st' := [.inl i1, .inr a0]) (M' := M_3) rfl).trans ?_
        refine (ev_gI (a_rec M_3 8 [.inr a0, .inl i1] = true ∧ ([] : List mV).length ≤ 8) (as := [.inr a0, .inl i1]) (rr := []) c_176 c_175 rfl).trans (t_i (t_cI ?_) rfl)
        intro v_12 M_11
        exact ev_d c_176 rfl
      refine t_i ?_ ?_
      · skip
        refine (ev_ns c_176 1 (ip' := 43) (ls' := [some (.inr a0), some (.inl i1), some (.inl i2)]) (st' := [.inr a0]) (M' := M_3) rfl).trans ?_
        refine (ev_g (h_k M_3 a0 = 8) (ip' := 44) (ls' := [some (.inr a0), some (.inl i1), some (.inl i2)]) (st' := [.inr (h_r M_3 a0 10)]) (M' := M_3) c_176 rfl).trans (t_i ?_ rfl)
        refine (ev_ns c_176 1 (ip' := 45) (ls' := [some (.inr a0), some (.inl i1), some (.inl i2)]) (st' := [.inl i1, .inr (h_r M_3 a0 10)]) (M' := M_3) rfl).trans ?_
        refine (ev_g ((h_k M_3 (h_r M_3 a0 10) = 9 ∨ h_k M_3 (h_r M_3 a0 10) = 14) ∧ h_in i1 (h_l M_3 (h_r M_3 a0 10))) (ip' := 46) (ls' := [some (.inr a0), some (.inl i1), some (.inl i2)]) (st' := [.inl (h_i M_3 (h_r M_3 a0 10) (i1).toNatClampNeg)]) (M' := M_3) c_176 rfl).trans (t_i ?_ rfl)
        exact ev_d c_176 rfl
      refine (ev_ns c_176 1 (ip' := 48) (ls' := [some (.inr a0), some (.inl i1), some (.inl i2)]) (st' := [.inl (-1)]) (M' := M_3) rfl).trans ?_
      exact ev_d c_176 rfl
set_option maxRecDepth 20000 in
theorem e_176_9 (a0 : Nat) (i1 : Int32) (i2 : Int32) (M : mM) : ev 176 9 [some (.inr a0), some (.inl i1), some (.inl i2)] [] M = some (some (.inl (-1)), M) := by
  refine (ev_ns c_176 1 (ip' := 10) (ls' := [some (.inr a0), some (.inl i1), some (.inl i2)]) (st' := [.inl (-1)]) (M' := M) rfl).trans ?_
  exact ev_d c_176 rfl
/- 177: GranuleHallModel.walk(IIII)I -/
set_option maxRecDepth 20000 in
theorem e_177_0 (a0 : Nat) (i1 : Int32) (i2 : Int32) (i3 : Int32) (i4 : Int32) (M : mM) : ev 177 0 [some (.inr a0), some (.inl i1), some (.inl i2), some (.inl i3), some (.inl i4), none] [] M = if (a_rec M 8 [.inr a0, .inl i1] = true ∧ ([] : List mV).length ≤ 8) then (c_I (ev 107 0 [some (.inr a0), some (.inl i1)] [] M) fun v_2 M_1 => if v_2 = 0 then (ev 177 17 [some (.inr a0), some (.inl i1), some (.inl i2), some (.inl i3), some (.inl i4), none] [] M_1) else (if (a_rec M_1 8 [.inr a0, .inl i1, .inl 2] = true ∧ ([] : List mV).length ≤ 8) then (c_I (ev 108 0 [some (.inr a0), some (.inl i1), some (.inl 2)] [] M_1) fun v_4 M_3 => if v_4 = 0 then (ev 177 17 [some (.inr a0), some (.inl i1), some (.inl i2), some (.inl i3), some (.inl i4), none] [] M_3) else (if (a_rec M_3 0 [.inl i2] = true ∧ ([] : List mV).length ≤ 8) then (c_I (ev 122 0 [some (.inl i2)] [] M_3) fun v_6 M_5 => if v_6 = 0 then (ev 177 17 [some (.inr a0), some (.inl i1), some (.inl i2), some (.inl i3), some (.inl i4), none] [] M_5) else (if i3 < 0 then (ev 177 17 [some (.inr a0), some (.inl i1), some (.inl i2), some (.inl i3), some (.inl i4), none] [] M_5) else (if i3 ≤ 3 then (if (a_rec M_5 8 [.inr a0, .inl i1, .inl i2, .inl i3] = true ∧ ([] : List mV).length ≤ 8) then (c_I (ev 118 0 [some (.inr a0), some (.inl i1), some (.inl i2), some (.inl i3), none, none] [] M_5) fun v_8 M_7 => if (i4 : Int32) = 0 then (if (a_rec M_7 8 [.inr a0, .inl v_8] = true ∧ ([] : List mV).length ≤ 8) then (c_I (ev 120 0 [some (.inr a0), some (.inl v_8)] [] M_7) fun v_10 M_9 => some (some (.inl v_10), M_9)) else none) else (if (i4 : Int32) = 1 then (if h_k M_7 a0 = 8 then (if (h_k M_7 (h_r M_7 a0 14) = 9 ∨ h_k M_7 (h_r M_7 a0 14) = 14) ∧ h_in v_8 (h_l M_7 (h_r M_7 a0 14)) then (some (some (.inl (h_i M_7 (h_r M_7 a0 14) (v_8).toNatClampNeg)), M_7)) else none) else none) else (if (i4 : Int32) = 2 then (if h_k M_7 a0 = 8 then (if (h_k M_7 (h_r M_7 a0 16) = 9 ∨ h_k M_7 (h_r M_7 a0 16) = 14) ∧ h_in v_8 (h_l M_7 (h_r M_7 a0 16)) then (some (some (.inl (h_i M_7 (h_r M_7 a0 16) (v_8).toNatClampNeg)), M_7)) else none) else none) else (if (i4 : Int32) = 3 then (if h_k M_7 a0 = 8 then (if (h_k M_7 (h_r M_7 a0 15) = 9 ∨ h_k M_7 (h_r M_7 a0 15) = 14) ∧ h_in v_8 (h_l M_7 (h_r M_7 a0 15)) then (some (some (.inl (h_i M_7 (h_r M_7 a0 15) (v_8).toNatClampNeg)), M_7)) else none) else none) else (some (some (.inl (-1)), M_7)))))) else none) else (ev 177 17 [some (.inr a0), some (.inl i1), some (.inl i2), some (.inl i3), some (.inl i4), none] [] M_5)))) else none)) else none)) else none := by
  refine (ev_ns c_177 2 (ip' := 2) (ls' := [some (.inr a0), some (.inl i1), some (.inl i2), some (.inl i3), some (.inl i4), none]) (st' := [.inl i1, .inr a0]) (M' := M) rfl).trans ?_
  refine (ev_gI (a_rec M 8 [.inr a0, .inl i1] = true ∧ ([] : List mV).length ≤ 8) (as := [.inr a0, .inl i1]) (rr := []) c_177 c_107 rfl).trans (t_i (t_cI ?_) rfl)
  intro v_2 M_1
  refine (ev_i (v_2 = 0) (i1 := 17) (l1 := [some (.inr a0), some (.inl i1), some (.inl i2), some (.inl i3), some (.inl i4), none]) (s1 := []) (M1 := M_1) (i2 := 4) (l2 := [some (.inr a0), some (.inl i1), some (.inl i2), some (.inl i3), some (.inl i4), none]) (s2 := []) (M2 := M_1) c_177 rfl).trans (t_i ?_ ?_)
  · skip
    exact rfl
  · skip
    refine (ev_ns c_177 3 (ip' := 7) (ls' := [some (.inr a0), some (.inl i1), some (.inl i2), some (.inl i3), some (.inl i4), none]) (st' := [.inl 2, .inl i1, .inr a0]) (M' := M_1) rfl).trans ?_
    refine (ev_gI (a_rec M_1 8 [.inr a0, .inl i1, .inl 2] = true ∧ ([] : List mV).length ≤ 8) (as := [.inr a0, .inl i1, .inl 2]) (rr := []) c_177 c_108 rfl).trans (t_i (t_cI ?_) rfl)
    intro v_4 M_3
    refine (ev_i (v_4 = 0) (i1 := 17) (l1 := [some (.inr a0), some (.inl i1), some (.inl i2), some (.inl i3), some (.inl i4), none]) (s1 := []) (M1 := M_3) (i2 := 9) (l2 := [some (.inr a0), some (.inl i1), some (.inl i2), some (.inl i3), some (.inl i4), none]) (s2 := []) (M2 := M_3) c_177 rfl).trans (t_i ?_ ?_)
    · skip
      exact rfl
    · skip
      refine (ev_ns c_177 1 (ip' := 10) (ls' := [some (.inr a0), some (.inl i1), some (.inl i2), some (.inl i3), some (.inl i4), none]) (st' := [.inl i2]) (M' := M_3) rfl).trans ?_
      refine (ev_gI (a_rec M_3 0 [.inl i2] = true ∧ ([] : List mV).length ≤ 8) (as := [.inl i2]) (rr := []) c_177 c_122 rfl).trans (t_i (t_cI ?_) rfl)
      intro v_6 M_5
      refine (ev_i (v_6 = 0) (i1 := 17) (l1 := [some (.inr a0), some (.inl i1), some (.inl i2), some (.inl i3), some (.inl i4), none]) (s1 := []) (M1 := M_5) (i2 := 12) (l2 := [some (.inr a0), some (.inl i1), some (.inl i2), some (.inl i3), some (.inl i4), none]) (s2 := []) (M2 := M_5) c_177 rfl).trans (t_i ?_ ?_)
      · skip
        exact rfl
      · skip
        refine (ev_ns c_177 1 (ip' := 13) (ls' := [some (.inr a0), some (.inl i1), some (.inl i2), some (.inl i3), some (.inl i4), none]) (st' := [.inl i3]) (M' := M_5) rfl).trans ?_
        refine (ev_i (i3 < 0) (i1 := 17) (l1 := [some (.inr a0), some (.inl i1), some (.inl i2), some (.inl i3), some (.inl i4), none]) (s1 := []) (M1 := M_5) (i2 := 14) (l2 := [some (.inr a0), some (.inl i1), some (.inl i2), some (.inl i3), some (.inl i4), none]) (s2 := []) (M2 := M_5) c_177 rfl).trans (t_i ?_ ?_)
        · skip
          exact rfl
        · skip
          refine (ev_ns c_177 2 (ip' := 16) (ls' := [some (.inr a0), some (.inl i1), some (.inl i2), some (.inl i3), some (.inl i4), none]) (st' := [.inl 3, .inl i3]) (M' := M_5) rfl).trans ?_
          refine (ev_i (i3 ≤ 3) (i1 := 19) (l1 := [some (.inr a0), some (.inl i1), some (.inl i2), some (.inl i3), some (.inl i4), none]) (s1 := []) (M1 := M_5) (i2 := 17) (l2 := [some (.inr a0), some (.inl i1), some (.inl i2), some (.inl i3), some (.inl i4), none]) (s2 := []) (M2 := M_5) c_177 rfl).trans (t_i ?_ ?_)
          · skip
            refine (ev_ns c_177 4 (ip' := 23) (ls' := [some (.inr a0), some (.inl i1), some (.inl i2), some (.inl i3), some (.inl i4), none]) (st' := [.inl i3, .inl i2, .inl i1, .inr a0]) (M' := M_5) rfl).trans ?_
            refine (ev_gI (a_rec M_5 8 [.inr a0, .inl i1, .inl i2, .inl i3] = true ∧ ([] : List mV).length ≤ 8) (as := [.inr a0, .inl i1, .inl i2, .inl i3]) (rr := []) c_177 c_118 rfl).trans (t_i (t_cI ?_) rfl)
            intro v_8 M_7
            refine (ev_ns c_177 2 (ip' := 26) (ls' := [some (.inr a0), some (.inl i1), some (.inl i2), some (.inl i3), some (.inl i4), some (.inl v_8)]) (st' := [.inl i4]) (M' := M_7) rfl).trans ?_
            refine (ev_sw c_177 (x := i4) (ls := [some (.inr a0), some (.inl i1), some (.inl i2), some (.inl i3), some (.inl i4), some (.inl v_8)]) (r := []) (M := M_7) (d := 46) (ts := [27, 31, 36, 41]) rfl).trans ?_
            refine t_i ?_ ?_
            · skip
              refine (ev_ns c_177 2 (ip' := 29) (ls' := [some (.inr a0), some (.inl i1), some (.inl i2), some (.inl i3), some (.inl i4), some (.inl v_8)]) (st' := [.inl v_8, .inr a0]) (M' := M_7) rfl).trans ?_
              refine (ev_gI (a_rec M_7 8 [.inr a0, .inl v_8] = true ∧ ([] : List mV).length ≤ 8) (as := [.inr a0, .inl v_8]) (rr := []) c_177 c_120 rfl).trans (t_i (t_cI ?_) rfl)
              intro v_10 M_9
              exact ev_d c_177 rfl
            refine t_i ?_ ?_
            · skip
              refine (ev_ns c_177 1 (ip' := 32) (ls' := [some (.inr a0), some (.inl i1), some (.inl i2), some (.inl i3), some (.inl i4), some (.inl v_8)]) (st' := [.inr a0]) (M' := M_7) rfl).trans ?_
              refine (ev_g (h_k M_7 a0 = 8) (ip' := 33) (ls' := [some (.inr a0), some (.inl i1), some (.inl i2), some (.inl i3), some (.inl i4), some (.inl v_8)]) (st' := [.inr (h_r M_7 a0 14)]) (M' := M_7) c_177 rfl).trans (t_i ?_ rfl)
              refine (ev_ns c_177 1 (ip' := 34) (ls' := [some (.inr a0), some (.inl i1), some (.inl i2), some (.inl i3), some (.inl i4), some (.inl v_8)]) (st' := [.inl v_8, .inr (h_r M_7 a0 14)]) (M' := M_7) rfl).trans ?_
              refine (ev_g ((h_k M_7 (h_r M_7 a0 14) = 9 ∨ h_k M_7 (h_r M_7 a0 14) = 14) ∧ h_in v_8 (h_l M_7 (h_r M_7 a0 14))) (ip' := 35) (ls' := [some (.inr a0), some (.inl i1), some (.inl i2), some (.inl i3), some (.inl i4), some (.inl v_8)]) (st' := [.inl (h_i M_7 (h_r M_7 a0 14) (v_8).toNatClampNeg)]) (M' := M_7) c_177 rfl).trans (t_i ?_ rfl)
              exact ev_d c_177 rfl
            refine t_i ?_ ?_
            · skip
              refine (ev_ns c_177 1 (ip' := 37) (ls' := [some (.inr a0), some (.inl i1), some (.inl i2), some (.inl i3), some (.inl i4), some (.inl v_8)]) (st' := [.inr a0]) (M' := M_7) rfl).trans ?_
              refine (ev_g (h_k M_7 a0 = 8) (ip' := 38) (ls' := [some (.inr a0), some (.inl i1), some (.inl i2), some (.inl i3), some (.inl i4), some (.inl v_8)]) (st' := [.inr (h_r M_7 a0 16)]) (M' := M_7) c_177 rfl).trans (t_i ?_ rfl)
              refine (ev_ns c_177 1 (ip' := 39) (ls' := [some (.inr a0), some (.inl i1), some (.inl i2), some (.inl i3), some (.inl i4), some (.inl v_8)]) (st' := [.inl v_8, .inr (h_r M_7 a0 16)]) (M' := M_7) rfl).trans ?_
              refine (ev_g ((h_k M_7 (h_r M_7 a0 16) = 9 ∨ h_k M_7 (h_r M_7 a0 16) = 14) ∧ h_in v_8 (h_l M_7 (h_r M_7 a0 16))) (ip' := 40) (ls' := [some (.inr a0), some (.inl i1), some (.inl i2), some (.inl i3), some (.inl i4), some (.inl v_8)]) (st' := [.inl (h_i M_7 (h_r M_7 a0 16) (v_8).toNatClampNeg)]) (M' := M_7) c_177 rfl).trans (t_i ?_ rfl)
              exact ev_d c_177 rfl
            refine t_i ?_ ?_
            · skip
              refine (ev_ns c_177 1 (ip' := 42) (ls' := [some (.inr a0), some (.inl i1), some (.inl i2), some (.inl i3), some (.inl i4), some (.inl v_8)]) (st' := [.inr a0]) (M' := M_7) rfl).trans ?_
              refine (ev_g (h_k M_7 a0 = 8) (ip' := 43) (ls' := [some (.inr a0), some (.inl i1), some (.inl i2), some (.inl i3), some (.inl i4), some (.inl v_8)]) (st' := [.inr (h_r M_7 a0 15)]) (M' := M_7) c_177 rfl).trans (t_i ?_ rfl)
              refine (ev_ns c_177 1 (ip' := 44) (ls' := [some (.inr a0), some (.inl i1), some (.inl i2), some (.inl i3), some (.inl i4), some (.inl v_8)]) (st' := [.inl v_8, .inr (h_r M_7 a0 15)]) (M' := M_7) rfl).trans ?_
              refine (ev_g ((h_k M_7 (h_r M_7 a0 15) = 9 ∨ h_k M_7 (h_r M_7 a0 15) = 14) ∧ h_in v_8 (h_l M_7 (h_r M_7 a0 15))) (ip' := 45) (ls' := [some (.inr a0), some (.inl i1), some (.inl i2), some (.inl i3), some (.inl i4), some (.inl v_8)]) (st' := [.inl (h_i M_7 (h_r M_7 a0 15) (v_8).toNatClampNeg)]) (M' := M_7) c_177 rfl).trans (t_i ?_ rfl)
              exact ev_d c_177 rfl
            refine (ev_ns c_177 1 (ip' := 47) (ls' := [some (.inr a0), some (.inl i1), some (.inl i2), some (.inl i3), some (.inl i4), some (.inl v_8)]) (st' := [.inl (-1)]) (M' := M_7) rfl).trans ?_
            exact ev_d c_177 rfl
          · skip
            exact rfl
set_option maxRecDepth 20000 in
theorem e_177_17 (a0 : Nat) (i1 : Int32) (i2 : Int32) (i3 : Int32) (i4 : Int32) (M : mM) : ev 177 17 [some (.inr a0), some (.inl i1), some (.inl i2), some (.inl i3), some (.inl i4), none] [] M = some (some (.inl (-1)), M) := by
  refine (ev_ns c_177 1 (ip' := 18) (ls' := [some (.inr a0), some (.inl i1), some (.inl i2), some (.inl i3), some (.inl i4), none]) (st' := [.inl (-1)]) (M' := M) rfl).trans ?_
  exact ev_d c_177 rfl
/- 178: GranuleHallModel.context(II)I -/
set_option maxRecDepth 20000 in
theorem e_178_0 (a0 : Nat) (i1 : Int32) (i2 : Int32) (M : mM) : ev 178 0 [some (.inr a0), some (.inl i1), some (.inl i2)] [] M = if (a_rec M 8 [.inr a0, .inl i1] = true ∧ ([] : List mV).length ≤ 8) then (c_I (ev 107 0 [some (.inr a0), some (.inl i1)] [] M) fun v_2 M_1 => if v_2 = 0 then (ev 178 11 [some (.inr a0), some (.inl i1), some (.inl i2)] [] M_1) else (if (a_rec M_1 8 [.inr a0, .inl i1, .inl 3] = true ∧ ([] : List mV).length ≤ 8) then (c_I (ev 108 0 [some (.inr a0), some (.inl i1), some (.inl 3)] [] M_1) fun v_4 M_3 => if v_4 = 0 then (ev 178 11 [some (.inr a0), some (.inl i1), some (.inl i2)] [] M_3) else (if (0 : Int32) ≤ i2 then (if (8 : Int32) ≤ i2 then (if (i2 : Int32) = 8 then (if h_k M_3 a0 = 8 then (if h_k M_3 (h_r M_3 a0 18) = 10 ∧ h_in i1 (h_l M_3 (h_r M_3 a0 18)) then (if (h_i M_3 (h_r M_3 a0 18) (i1).toNatClampNeg) = 0 then (ev 178 35 [some (.inr a0), some (.inl i1), some (.inl i2)] [.inl 0] M_3) else (ev 178 35 [some (.inr a0), some (.inl i1), some (.inl i2)] [.inl 1] M_3)) else none) else none) else (if (i2 : Int32) = 9 then (if h_k M_3 a0 = 8 then (if (h_i M_3 a0 2) = i1 then (ev 178 43 [some (.inr a0), some (.inl i1), some (.inl i2)] [.inl 1] M_3) else (ev 178 43 [some (.inr a0), some (.inl i1), some (.inl i2)] [.inl 0] M_3)) else none) else (if (i2 : Int32) = 10 then (if h_k M_3 a0 = 8 then (if (h_k M_3 (h_r M_3 a0 20) = 9 ∨ h_k M_3 (h_r M_3 a0 20) = 14) ∧ h_in i1 (h_l M_3 (h_r M_3 a0 20)) then (some (some (.inl (h_i M_3 (h_r M_3 a0 20) (i1).toNatClampNeg)), M_3)) else none) else none) else (if (i2 : Int32) = 11 then (if h_k M_3 a0 = 8 then (if (h_k M_3 (h_r M_3 a0 20) = 9 ∨ h_k M_3 (h_r M_3 a0 20) = 14) ∧ h_in i1 (h_l M_3 (h_r M_3 a0 20)) then (if (h_i M_3 (h_r M_3 a0 20) (i1).toNatClampNeg) = 2 then (if h_k M_3 a0 = 8 then (if (h_k M_3 (h_r M_3 a0 24) = 9 ∨ h_k M_3 (h_r M_3 a0 24) = 14) ∧ h_in i1 (h_l M_3 (h_r M_3 a0 24)) then (ev 178 61 [some (.inr a0), some (.inl i1), some (.inl i2)] [.inl (h_i M_3 (h_r M_3 a0 24) (i1).toNatClampNeg)] M_3) else none) else none) else (ev 178 61 [some (.inr a0), some (.inl i1), some (.inl i2)] [.inl (-1)] M_3)) else none) else none) else (if (i2 : Int32) = 12 then (if h_k M_3 a0 = 8 then (if (h_k M_3 (h_r M_3 a0 20) = 9 ∨ h_k M_3 (h_r M_3 a0 20) = 14) ∧ h_in i1 (h_l M_3 (h_r M_3 a0 20)) then (if (h_i M_3 (h_r M_3 a0 20) (i1).toNatClampNeg) = 2 then (if h_k M_3 a0 = 8 then (if (h_k M_3 (h_r M_3 a0 22) = 9 ∨ h_k M_3 (h_r M_3 a0 22) = 14) ∧ h_in i1 (h_l M_3 (h_r M_3 a0 22)) then (ev 178 74 [some (.inr a0), some (.inl i1), some (.inl i2)] [.inl (h_i M_3 (h_r M_3 a0 22) (i1).toNatClampNeg)] M_3) else none) else none) else (ev 178 74 [some (.inr a0), some (.inl i1), some (.inl i2)] [.inl (-1)] M_3)) else none) else none) else (if (i2 : Int32) = 13 then (if h_k M_3 a0 = 8 then (if (h_k M_3 (h_r M_3 a0 25) = 9 ∨ h_k M_3 (h_r M_3 a0 25) = 14) ∧ h_in i1 (h_l M_3 (h_r M_3 a0 25)) then (some (some (.inl (h_i M_3 (h_r M_3 a0 25) (i1).toNatClampNeg)), M_3)) else none) else none) else (some (some (.inl (-1)), M_3)))))))) else (if h_k M_3 a0 = 8 then (if (h_k M_3 (h_r M_3 a0 19) = 9 ∨ h_k M_3 (h_r M_3 a0 19) = 14) ∧ h_in ((8 * i1) + i2) (h_l M_3 (h_r M_3 a0 19)) then (some (some (.inl (h_i M_3 (h_r M_3 a0 19) (((8 * i1) + i2)).toNatClampNeg)), M_3)) else none) else none)) else (ev 178 11 [some (.inr a0), some (.inl i1), some (.inl i2)] [] M_3))) else none)) else none := by
  refine (ev_ns c_178 2 (ip' := 2) (ls' := [some (.inr a0), some (.inl i1), some (.inl i2)]) (st' := [.inl i1, .inr a0]) (M' := M) rfl).trans ?_
  refine (ev_gI (a_rec M 8 [.inr a0, .inl i1] = true ∧ ([] : List mV).length ≤ 8) (as := [.inr a0, .inl i1]) (rr := []) c_178 c_107 rfl).trans (t_i (t_cI ?_) rfl)
  intro v_2 M_1
  refine (ev_i (v_2 = 0) (i1 := 11) (l1 := [some (.inr a0), some (.inl i1), some (.inl i2)]) (s1 := []) (M1 := M_1) (i2 := 4) (l2 := [some (.inr a0), some (.inl i1), some (.inl i2)]) (s2 := []) (M2 := M_1) c_178 rfl).trans (t_i ?_ ?_)
  · skip
    exact rfl
  · skip
    refine (ev_ns c_178 3 (ip' := 7) (ls' := [some (.inr a0), some (.inl i1), some (.inl i2)]) (st' := [.inl 3, .inl i1, .inr a0]) (M' := M_1) rfl).trans ?_
    refine (ev_gI (a_rec M_1 8 [.inr a0, .inl i1, .inl 3] = true ∧ ([] : List mV).length ≤ 8) (as := [.inr a0, .inl i1, .inl 3]) (rr := []) c_178 c_108 rfl).trans (t_i (t_cI ?_) rfl)
    intro v_4 M_3
    refine (ev_i (v_4 = 0) (i1 := 11) (l1 := [some (.inr a0), some (.inl i1), some (.inl i2)]) (s1 := []) (M1 := M_3) (i2 := 9) (l2 := [some (.inr a0), some (.inl i1), some (.inl i2)]) (s2 := []) (M2 := M_3) c_178 rfl).trans (t_i ?_ ?_)
    · skip
      exact rfl
    · skip
      refine (ev_ns c_178 1 (ip' := 10) (ls' := [some (.inr a0), some (.inl i1), some (.inl i2)]) (st' := [.inl i2]) (M' := M_3) rfl).trans ?_
      refine (ev_i ((0 : Int32) ≤ i2) (i1 := 13) (l1 := [some (.inr a0), some (.inl i1), some (.inl i2)]) (s1 := []) (M1 := M_3) (i2 := 11) (l2 := [some (.inr a0), some (.inl i1), some (.inl i2)]) (s2 := []) (M2 := M_3) c_178 rfl).trans (t_i ?_ ?_)
      · skip
        refine (ev_ns c_178 2 (ip' := 15) (ls' := [some (.inr a0), some (.inl i1), some (.inl i2)]) (st' := [.inl 8, .inl i2]) (M' := M_3) rfl).trans ?_
        refine (ev_i ((8 : Int32) ≤ i2) (i1 := 25) (l1 := [some (.inr a0), some (.inl i1), some (.inl i2)]) (s1 := []) (M1 := M_3) (i2 := 16) (l2 := [some (.inr a0), some (.inl i1), some (.inl i2)]) (s2 := []) (M2 := M_3) c_178 rfl).trans (t_i ?_ ?_)
        · skip
          refine (ev_ns c_178 1 (ip' := 26) (ls' := [some (.inr a0), some (.inl i1), some (.inl i2)]) (st' := [.inl i2]) (M' := M_3) rfl).trans ?_
          refine (ev_sw c_178 (x := i2) (ls := [some (.inr a0), some (.inl i1), some (.inl i2)]) (r := []) (M := M_3) (d := 80) (ts := [27, 36, 44, 49, 62, 75]) rfl).trans ?_
          refine t_i ?_ ?_
          · skip
            refine (ev_ns c_178 1 (ip' := 28) (ls' := [some (.inr a0), some (.inl i1), some (.inl i2)]) (st' := [.inr a0]) (M' := M_3) rfl).trans ?_
            refine (ev_g (h_k M_3 a0 = 8) (ip' := 29) (ls' := [some (.inr a0), some (.inl i1), some (.inl i2)]) (st' := [.inr (h_r M_3 a0 18)]) (M' := M_3) c_178 rfl).trans (t_i ?_ rfl)
            refine (ev_ns c_178 1 (ip' := 30) (ls' := [some (.inr a0), some (.inl i1), some (.inl i2)]) (st' := [.inl i1, .inr (h_r M_3 a0 18)]) (M' := M_3) rfl).trans ?_
            refine (ev_g (h_k M_3 (h_r M_3 a0 18) = 10 ∧ h_in i1 (h_l M_3 (h_r M_3 a0 18))) (ip' := 31) (ls' := [some (.inr a0), some (.inl i1), some (.inl i2)]) (st' := [.inl (h_i M_3 (h_r M_3 a0 18) (i1).toNatClampNeg)]) (M' := M_3) c_178 rfl).trans (t_i ?_ rfl)
            refine (ev_i ((h_i M_3 (h_r M_3 a0 18) (i1).toNatClampNeg) = 0) (i1 := 34) (l1 := [some (.inr a0), some (.inl i1), some (.inl i2)]) (s1 := []) (M1 := M_3) (i2 := 32) (l2 := [some (.inr a0), some (.inl i1), some (.inl i2)]) (s2 := []) (M2 := M_3) c_178 rfl).trans (t_i ?_ ?_)
            · skip
              exact ev_ns c_178 1 (ip' := 35) (ls' := [some (.inr a0), some (.inl i1), some (.inl i2)]) (st' := [.inl 0]) (M' := M_3) rfl
            · skip
              exact ev_ns c_178 2 (ip' := 35) (ls' := [some (.inr a0), some (.inl i1), some (.inl i2)]) (st' := [.inl 1]) (M' := M_3) rfl
          refine t_i ?_ ?_
          · skip
            refine (ev_ns c_178 1 (ip' := 37) (ls' := [some (.inr a0), some (.inl i1), some (.inl i2)]) (st' := [.inr a0]) (M' := M_3) rfl).trans ?_
            refine (ev_g (h_k M_3 a0 = 8) (ip' := 38) (ls' := [some (.inr a0), some (.inl i1), some (.inl i2)]) (st' := [.inl (h_i M_3 a0 2)]) (M' := M_3) c_178 rfl).trans (t_i ?_ rfl)
            refine (ev_ns c_178 1 (ip' := 39) (ls' := [some (.inr a0), some (.inl i1), some (.inl i2)]) (st' := [.inl i1, .inl (h_i M_3 a0 2)]) (M' := M_3) rfl).trans ?_
            refine (ev_i ((h_i M_3 a0 2) = i1) (i1 := 40) (l1 := [some (.inr a0), some (.inl i1), some (.inl i2)]) (s1 := []) (M1 := M_3) (i2 := 42) (l2 := [some (.inr a0), some (.inl i1), some (.inl i2)]) (s2 := []) (M2 := M_3) c_178 rfl).trans (t_i ?_ ?_)
            · skip
              exact ev_ns c_178 2 (ip' := 43) (ls' := [some (.inr a0), some (.inl i1), some (.inl i2)]) (st' := [.inl 1]) (M' := M_3) rfl
            · skip
              exact ev_ns c_178 1 (ip' := 43) (ls' := [some (.inr a0), some (.inl i1), some (.inl i2)]) (st' := [.inl 0]) (M' := M_3) rfl
          refine t_i ?_ ?_
          · skip
            refine (ev_ns c_178 1 (ip' := 45) (ls' := [some (.inr a0), some (.inl i1), some (.inl i2)]) (st' := [.inr a0]) (M' := M_3) rfl).trans ?_
            refine (ev_g (h_k M_3 a0 = 8) (ip' := 46) (ls' := [some (.inr a0), some (.inl i1), some (.inl i2)]) (st' := [.inr (h_r M_3 a0 20)]) (M' := M_3) c_178 rfl).trans (t_i ?_ rfl)
            refine (ev_ns c_178 1 (ip' := 47) (ls' := [some (.inr a0), some (.inl i1), some (.inl i2)]) (st' := [.inl i1, .inr (h_r M_3 a0 20)]) (M' := M_3) rfl).trans ?_
            refine (ev_g ((h_k M_3 (h_r M_3 a0 20) = 9 ∨ h_k M_3 (h_r M_3 a0 20) = 14) ∧ h_in i1 (h_l M_3 (h_r M_3 a0 20))) (ip' := 48) (ls' := [some (.inr a0), some (.inl i1), some (.inl i2)]) (st' := [.inl (h_i M_3 (h_r M_3 a0 20) (i1).toNatClampNeg)]) (M' := M_3) c_178 rfl).trans (t_i ?_ rfl)
            exact ev_d c_178 rfl
          refine t_i ?_ ?_
          · skip
            refine (ev_ns c_178 1 (ip' := 50) (ls' := [some (.inr a0), some (.inl i1), some (.inl i2)]) (st' := [.inr a0]) (M' := M_3) rfl).trans ?_
            refine (ev_g (h_k M_3 a0 = 8) (ip' := 51) (ls' := [some (.inr a0), some (.inl i1), some (.inl i2)]) (st' := [.inr (h_r M_3 a0 20)]) (M' := M_3) c_178 rfl).trans (t_i ?_ rfl)
            refine (ev_ns c_178 1 (ip' := 52) (ls' := [some (.inr a0), some (.inl i1), some (.inl i2)]) (st' := [.inl i1, .inr (h_r M_3 a0 20)]) (M' := M_3) rfl).trans ?_
            refine (ev_g ((h_k M_3 (h_r M_3 a0 20) = 9 ∨ h_k M_3 (h_r M_3 a0 20) = 14) ∧ h_in i1 (h_l M_3 (h_r M_3 a0 20))) (ip' := 53) (ls' := [some (.inr a0), some (.inl i1), some (.inl i2)]) (st' := [.inl (h_i M_3 (h_r M_3 a0 20) (i1).toNatClampNeg)]) (M' := M_3) c_178 rfl).trans (t_i ?_ rfl)
            refine (ev_ns c_178 1 (ip' := 54) (ls' := [some (.inr a0), some (.inl i1), some (.inl i2)]) (st' := [.inl 2, .inl (h_i M_3 (h_r M_3 a0 20) (i1).toNatClampNeg)]) (M' := M_3) rfl).trans ?_
            refine (ev_i ((h_i M_3 (h_r M_3 a0 20) (i1).toNatClampNeg) = 2) (i1 := 55) (l1 := [some (.inr a0), some (.inl i1), some (.inl i2)]) (s1 := []) (M1 := M_3) (i2 := 60) (l2 := [some (.inr a0), some (.inl i1), some (.inl i2)]) (s2 := []) (M2 := M_3) c_178 rfl).trans (t_i ?_ ?_)
            · skip
              refine (ev_ns c_178 1 (ip' := 56) (ls' := [some (.inr a0), some (.inl i1), some (.inl i2)]) (st' := [.inr a0]) (M' := M_3) rfl).trans ?_
              refine (ev_g (h_k M_3 a0 = 8) (ip' := 57) (ls' := [some (.inr a0), some (.inl i1), some (.inl i2)]) (st' := [.inr (h_r M_3 a0 24)]) (M' := M_3) c_178 rfl).trans (t_i ?_ rfl)
              refine (ev_ns c_178 1 (ip' := 58) (ls' := [some (.inr a0), some (.inl i1), some (.inl i2)]) (st' := [.inl i1, .inr (h_r M_3 a0 24)]) (M' := M_3) rfl).trans ?_
              refine (ev_g ((h_k M_3 (h_r M_3 a0 24) = 9 ∨ h_k M_3 (h_r M_3 a0 24) = 14) ∧ h_in i1 (h_l M_3 (h_r M_3 a0 24))) (ip' := 59) (ls' := [some (.inr a0), some (.inl i1), some (.inl i2)]) (st' := [.inl (h_i M_3 (h_r M_3 a0 24) (i1).toNatClampNeg)]) (M' := M_3) c_178 rfl).trans (t_i ?_ rfl)
              exact ev_ns c_178 1 (ip' := 61) (ls' := [some (.inr a0), some (.inl i1), some (.inl i2)]) (st' := [.inl (h_i M_3 (h_r M_3 a0 24) (i1).toNatClampNeg)]) (M' := M_3) rfl
            · skip
              exact ev_ns c_178 1 (ip' := 61) (ls' := [some (.inr a0), some (.inl i1), some (.inl i2)]) (st' := [.inl (-1)]) (M' := M_3) rfl
          refine t_i ?_ ?_
          · skip
            refine (ev_ns c_178 1 (ip' := 63) (ls' := [some (.inr a0), some (.inl i1), some (.inl i2)]) (st' := [.inr a0]) (M' := M_3) rfl).trans ?_
            refine (ev_g (h_k M_3 a0 = 8) (ip' := 64) (ls' := [some (.inr a0), some (.inl i1), some (.inl i2)]) (st' := [.inr (h_r M_3 a0 20)]) (M' := M_3) c_178 rfl).trans (t_i ?_ rfl)
            refine (ev_ns c_178 1 (ip' := 65) (ls' := [some (.inr a0), some (.inl i1), some (.inl i2)]) (st' := [.inl i1, .inr (h_r M_3 a0 20)]) (M' := M_3) rfl).trans ?_
            refine (ev_g ((h_k M_3 (h_r M_3 a0 20) = 9 ∨ h_k M_3 (h_r M_3 a0 20) = 14) ∧ h_in i1 (h_l M_3 (h_r M_3 a0 20))) (ip' := 66) (ls' := [some (.inr a0), some (.inl i1), some (.inl i2)]) (st' := [.inl (h_i M_3 (h_r M_3 a0 20) (i1).toNatClampNeg)]) (M' := M_3) c_178 rfl).trans (t_i ?_ rfl)
            refine (ev_ns c_178 1 (ip' := 67) (ls' := [some (.inr a0), some (.inl i1), some (.inl i2)]) (st' := [.inl 2, .inl (h_i M_3 (h_r M_3 a0 20) (i1).toNatClampNeg)]) (M' := M_3) rfl).trans ?_
            refine (ev_i ((h_i M_3 (h_r M_3 a0 20) (i1).toNatClampNeg) = 2) (i1 := 68) (l1 := [some (.inr a0), some (.inl i1), some (.inl i2)]) (s1 := []) (M1 := M_3) (i2 := 73) (l2 := [some (.inr a0), some (.inl i1), some (.inl i2)]) (s2 := []) (M2 := M_3) c_178 rfl).trans (t_i ?_ ?_)
            · skip
              refine (ev_ns c_178 1 (ip' := 69) (ls' := [some (.inr a0), some (.inl i1), some (.inl i2)]) (st' := [.inr a0]) (M' := M_3) rfl).trans ?_
              refine (ev_g (h_k M_3 a0 = 8) (ip' := 70) (ls' := [some (.inr a0), some (.inl i1), some (.inl i2)]) (st' := [.inr (h_r M_3 a0 22)]) (M' := M_3) c_178 rfl).trans (t_i ?_ rfl)
              refine (ev_ns c_178 1 (ip' := 71) (ls' := [some (.inr a0), some (.inl i1), some (.inl i2)]) (st' := [.inl i1, .inr (h_r M_3 a0 22)]) (M' := M_3) rfl).trans ?_
              refine (ev_g ((h_k M_3 (h_r M_3 a0 22) = 9 ∨ h_k M_3 (h_r M_3 a0 22) = 14) ∧ h_in i1 (h_l M_3 (h_r M_3 a0 22))) (ip' := 72) (ls' := [some (.inr a0), some (.inl i1), some (.inl i2)]) (st' := [.inl (h_i M_3 (h_r M_3 a0 22) (i1).toNatClampNeg)]) (M' := M_3) c_178 rfl).trans (t_i ?_ rfl)
              exact ev_ns c_178 1 (ip' := 74) (ls' := [some (.inr a0), some (.inl i1), some (.inl i2)]) (st' := [.inl (h_i M_3 (h_r M_3 a0 22) (i1).toNatClampNeg)]) (M' := M_3) rfl
            · skip
              exact ev_ns c_178 1 (ip' := 74) (ls' := [some (.inr a0), some (.inl i1), some (.inl i2)]) (st' := [.inl (-1)]) (M' := M_3) rfl
          refine t_i ?_ ?_
          · skip
            refine (ev_ns c_178 1 (ip' := 76) (ls' := [some (.inr a0), some (.inl i1), some (.inl i2)]) (st' := [.inr a0]) (M' := M_3) rfl).trans ?_
            refine (ev_g (h_k M_3 a0 = 8) (ip' := 77) (ls' := [some (.inr a0), some (.inl i1), some (.inl i2)]) (st' := [.inr (h_r M_3 a0 25)]) (M' := M_3) c_178 rfl).trans (t_i ?_ rfl)
            refine (ev_ns c_178 1 (ip' := 78) (ls' := [some (.inr a0), some (.inl i1), some (.inl i2)]) (st' := [.inl i1, .inr (h_r M_3 a0 25)]) (M' := M_3) rfl).trans ?_
            refine (ev_g ((h_k M_3 (h_r M_3 a0 25) = 9 ∨ h_k M_3 (h_r M_3 a0 25) = 14) ∧ h_in i1 (h_l M_3 (h_r M_3 a0 25))) (ip' := 79) (ls' := [some (.inr a0), some (.inl i1), some (.inl i2)]) (st' := [.inl (h_i M_3 (h_r M_3 a0 25) (i1).toNatClampNeg)]) (M' := M_3) c_178 rfl).trans (t_i ?_ rfl)
            exact ev_d c_178 rfl
          refine (ev_ns c_178 1 (ip' := 81) (ls' := [some (.inr a0), some (.inl i1), some (.inl i2)]) (st' := [.inl (-1)]) (M' := M_3) rfl).trans ?_
          exact ev_d c_178 rfl
        · skip
          refine (ev_ns c_178 1 (ip' := 17) (ls' := [some (.inr a0), some (.inl i1), some (.inl i2)]) (st' := [.inr a0]) (M' := M_3) rfl).trans ?_
          refine (ev_g (h_k M_3 a0 = 8) (ip' := 18) (ls' := [some (.inr a0), some (.inl i1), some (.inl i2)]) (st' := [.inr (h_r M_3 a0 19)]) (M' := M_3) c_178 rfl).trans (t_i ?_ rfl)
          refine (ev_ns c_178 5 (ip' := 23) (ls' := [some (.inr a0), some (.inl i1), some (.inl i2)]) (st' := [.inl ((8 * i1) + i2), .inr (h_r M_3 a0 19)]) (M' := M_3) rfl).trans ?_
          refine (ev_g ((h_k M_3 (h_r M_3 a0 19) = 9 ∨ h_k M_3 (h_r M_3 a0 19) = 14) ∧ h_in ((8 * i1) + i2) (h_l M_3 (h_r M_3 a0 19))) (ip' := 24) (ls' := [some (.inr a0), some (.inl i1), some (.inl i2)]) (st' := [.inl (h_i M_3 (h_r M_3 a0 19) (((8 * i1) + i2)).toNatClampNeg)]) (M' := M_3) c_178 rfl).trans (t_i ?_ rfl)
          exact ev_d c_178 rfl
      · skip
        exact rfl
set_option maxRecDepth 20000 in
theorem e_178_11 (a0 : Nat) (i1 : Int32) (i2 : Int32) (M : mM) : ev 178 11 [some (.inr a0), some (.inl i1), some (.inl i2)] [] M = some (some (.inl (-1)), M) := by
  refine (ev_ns c_178 1 (ip' := 12) (ls' := [some (.inr a0), some (.inl i1), some (.inl i2)]) (st' := [.inl (-1)]) (M' := M) rfl).trans ?_
  exact ev_d c_178 rfl
set_option maxRecDepth 20000 in
theorem e_178_35 (a0 : Nat) (i1 : Int32) (i2 : Int32) (s0 : Int32) (M : mM) : ev 178 35 [some (.inr a0), some (.inl i1), some (.inl i2)] [.inl s0] M = some (some (.inl s0), M) := by
  exact ev_d c_178 rfl
set_option maxRecDepth 20000 in
theorem e_178_43 (a0 : Nat) (i1 : Int32) (i2 : Int32) (s0 : Int32) (M : mM) : ev 178 43 [some (.inr a0), some (.inl i1), some (.inl i2)] [.inl s0] M = some (some (.inl s0), M) := by
  exact ev_d c_178 rfl
set_option maxRecDepth 20000 in
theorem e_178_61 (a0 : Nat) (i1 : Int32) (i2 : Int32) (s0 : Int32) (M : mM) : ev 178 61 [some (.inr a0), some (.inl i1), some (.inl i2)] [.inl s0] M = some (some (.inl s0), M) := by
  exact ev_d c_178 rfl
set_option maxRecDepth 20000 in
theorem e_178_74 (a0 : Nat) (i1 : Int32) (i2 : Int32) (s0 : Int32) (M : mM) : ev 178 74 [some (.inr a0), some (.inl i1), some (.inl i2)] [.inl s0] M = some (some (.inl s0), M) := by
  exact ev_d c_178 rfl
/- 179: GranuleHallModel.measured(III)I -/
set_option maxRecDepth 20000 in
theorem e_179_0 (a0 : Nat) (i1 : Int32) (i2 : Int32) (i3 : Int32) (M : mM) : ev 179 0 [some (.inr a0), some (.inl i1), some (.inl i2), some (.inl i3)] [] M = if (a_rec M 8 [.inr a0, .inl i1] = true ∧ ([] : List mV).length ≤ 8) then (c_I (ev 107 0 [some (.inr a0), some (.inl i1)] [] M) fun v_2 M_1 => if v_2 = 0 then (ev 179 19 [some (.inr a0), some (.inl i1), some (.inl i2), some (.inl i3)] [] M_1) else (if (a_rec M_1 8 [.inr a0, .inl i1, .inl 2] = true ∧ ([] : List mV).length ≤ 8) then (c_I (ev 108 0 [some (.inr a0), some (.inl i1), some (.inl 2)] [] M_1) fun v_4 M_3 => if v_4 = 0 then (ev 179 19 [some (.inr a0), some (.inl i1), some (.inl i2), some (.inl i3)] [] M_3) else (if i2 < 0 then (ev 179 19 [some (.inr a0), some (.inl i1), some (.inl i2), some (.inl i3)] [] M_3) else (if (4 : Int32) < i2 then (ev 179 19 [some (.inr a0), some (.inl i1), some (.inl i2), some (.inl i3)] [] M_3) else (if i3 < 0 then (ev 179 19 [some (.inr a0), some (.inl i1), some (.inl i2), some (.inl i3)] [] M_3) else (if i3 ≤ 7 then (if h_k M_3 a0 = 8 then (if (h_k M_3 (h_r M_3 a0 11) = 9 ∨ h_k M_3 (h_r M_3 a0 11) = 14) ∧ h_in (((40 * i1) + (8 * i2)) + i3) (h_l M_3 (h_r M_3 a0 11)) then (some (some (.inl (h_i M_3 (h_r M_3 a0 11) ((((40 * i1) + (8 * i2)) + i3)).toNatClampNeg)), M_3)) else none) else none) else (ev 179 19 [some (.inr a0), some (.inl i1), some (.inl i2), some (.inl i3)] [] M_3)))))) else none)) else none := by
  refine (ev_ns c_179 2 (ip' := 2) (ls' := [some (.inr a0), some (.inl i1), some (.inl i2), some (.inl i3)]) (st' := [.inl i1, .inr a0]) (M' := M) rfl).trans ?_
  refine (ev_gI (a_rec M 8 [.inr a0, .inl i1] = true ∧ ([] : List mV).length ≤ 8) (as := [.inr a0, .inl i1]) (rr := []) c_179 c_107 rfl).trans (t_i (t_cI ?_) rfl)
  intro v_2 M_1
  refine (ev_i (v_2 = 0) (i1 := 19) (l1 := [some (.inr a0), some (.inl i1), some (.inl i2), some (.inl i3)]) (s1 := []) (M1 := M_1) (i2 := 4) (l2 := [some (.inr a0), some (.inl i1), some (.inl i2), some (.inl i3)]) (s2 := []) (M2 := M_1) c_179 rfl).trans (t_i ?_ ?_)
  · skip
    exact rfl
  · skip
    refine (ev_ns c_179 3 (ip' := 7) (ls' := [some (.inr a0), some (.inl i1), some (.inl i2), some (.inl i3)]) (st' := [.inl 2, .inl i1, .inr a0]) (M' := M_1) rfl).trans ?_
    refine (ev_gI (a_rec M_1 8 [.inr a0, .inl i1, .inl 2] = true ∧ ([] : List mV).length ≤ 8) (as := [.inr a0, .inl i1, .inl 2]) (rr := []) c_179 c_108 rfl).trans (t_i (t_cI ?_) rfl)
    intro v_4 M_3
    refine (ev_i (v_4 = 0) (i1 := 19) (l1 := [some (.inr a0), some (.inl i1), some (.inl i2), some (.inl i3)]) (s1 := []) (M1 := M_3) (i2 := 9) (l2 := [some (.inr a0), some (.inl i1), some (.inl i2), some (.inl i3)]) (s2 := []) (M2 := M_3) c_179 rfl).trans (t_i ?_ ?_)
    · skip
      exact rfl
    · skip
      refine (ev_ns c_179 1 (ip' := 10) (ls' := [some (.inr a0), some (.inl i1), some (.inl i2), some (.inl i3)]) (st' := [.inl i2]) (M' := M_3) rfl).trans ?_
      refine (ev_i (i2 < 0) (i1 := 19) (l1 := [some (.inr a0), some (.inl i1), some (.inl i2), some (.inl i3)]) (s1 := []) (M1 := M_3) (i2 := 11) (l2 := [some (.inr a0), some (.inl i1), some (.inl i2), some (.inl i3)]) (s2 := []) (M2 := M_3) c_179 rfl).trans (t_i ?_ ?_)
      · skip
        exact rfl
      · skip
        refine (ev_ns c_179 2 (ip' := 13) (ls' := [some (.inr a0), some (.inl i1), some (.inl i2), some (.inl i3)]) (st' := [.inl 4, .inl i2]) (M' := M_3) rfl).trans ?_
        refine (ev_i ((4 : Int32) < i2) (i1 := 19) (l1 := [some (.inr a0), some (.inl i1), some (.inl i2), some (.inl i3)]) (s1 := []) (M1 := M_3) (i2 := 14) (l2 := [some (.inr a0), some (.inl i1), some (.inl i2), some (.inl i3)]) (s2 := []) (M2 := M_3) c_179 rfl).trans (t_i ?_ ?_)
        · skip
          exact rfl
        · skip
          refine (ev_ns c_179 1 (ip' := 15) (ls' := [some (.inr a0), some (.inl i1), some (.inl i2), some (.inl i3)]) (st' := [.inl i3]) (M' := M_3) rfl).trans ?_
          refine (ev_i (i3 < 0) (i1 := 19) (l1 := [some (.inr a0), some (.inl i1), some (.inl i2), some (.inl i3)]) (s1 := []) (M1 := M_3) (i2 := 16) (l2 := [some (.inr a0), some (.inl i1), some (.inl i2), some (.inl i3)]) (s2 := []) (M2 := M_3) c_179 rfl).trans (t_i ?_ ?_)
          · skip
            exact rfl
          · skip
            refine (ev_ns c_179 2 (ip' := 18) (ls' := [some (.inr a0), some (.inl i1), some (.inl i2), some (.inl i3)]) (st' := [.inl 7, .inl i3]) (M' := M_3) rfl).trans ?_
            refine (ev_i (i3 ≤ 7) (i1 := 21) (l1 := [some (.inr a0), some (.inl i1), some (.inl i2), some (.inl i3)]) (s1 := []) (M1 := M_3) (i2 := 19) (l2 := [some (.inr a0), some (.inl i1), some (.inl i2), some (.inl i3)]) (s2 := []) (M2 := M_3) c_179 rfl).trans (t_i ?_ ?_)
            · skip
              refine (ev_ns c_179 1 (ip' := 22) (ls' := [some (.inr a0), some (.inl i1), some (.inl i2), some (.inl i3)]) (st' := [.inr a0]) (M' := M_3) rfl).trans ?_
              refine (ev_g (h_k M_3 a0 = 8) (ip' := 23) (ls' := [some (.inr a0), some (.inl i1), some (.inl i2), some (.inl i3)]) (st' := [.inr (h_r M_3 a0 11)]) (M' := M_3) c_179 rfl).trans (t_i ?_ rfl)
              refine (ev_ns c_179 9 (ip' := 32) (ls' := [some (.inr a0), some (.inl i1), some (.inl i2), some (.inl i3)]) (st' := [.inl (((40 * i1) + (8 * i2)) + i3), .inr (h_r M_3 a0 11)]) (M' := M_3) rfl).trans ?_
              refine (ev_g ((h_k M_3 (h_r M_3 a0 11) = 9 ∨ h_k M_3 (h_r M_3 a0 11) = 14) ∧ h_in (((40 * i1) + (8 * i2)) + i3) (h_l M_3 (h_r M_3 a0 11))) (ip' := 33) (ls' := [some (.inr a0), some (.inl i1), some (.inl i2), some (.inl i3)]) (st' := [.inl (h_i M_3 (h_r M_3 a0 11) ((((40 * i1) + (8 * i2)) + i3)).toNatClampNeg)]) (M' := M_3) c_179 rfl).trans (t_i ?_ rfl)
              exact ev_d c_179 rfl
            · skip
              exact rfl
set_option maxRecDepth 20000 in
theorem e_179_19 (a0 : Nat) (i1 : Int32) (i2 : Int32) (i3 : Int32) (M : mM) : ev 179 19 [some (.inr a0), some (.inl i1), some (.inl i2), some (.inl i3)] [] M = some (some (.inl 0), M) := by
  refine (ev_ns c_179 1 (ip' := 20) (ls' := [some (.inr a0), some (.inl i1), some (.inl i2), some (.inl i3)]) (st' := [.inl 0]) (M' := M) rfl).trans ?_
  exact ev_d c_179 rfl
/- 180: GranuleHallModel.count(I)I -/
set_option maxRecDepth 20000 in
theorem e_180_0 (a0 : Nat) (i1 : Int32) (M : mM) : ev 180 0 [some (.inr a0), some (.inl i1), none, none] [] M = if i1 < 1 then (ev 180 32 [some (.inr a0), some (.inl i1), none, none] [] M) else (if (6 : Int32) < i1 then (ev 180 32 [some (.inr a0), some (.inl i1), none, none] [] M) else (ev 180 10 [some (.inr a0), some (.inl i1), some (.inl 0), some (.inl 0)] [] M)) := by
  refine (ev_ns c_180 2 (ip' := 2) (ls' := [some (.inr a0), some (.inl i1), none, none]) (st' := [.inl 1, .inl i1]) (M' := M) rfl).trans ?_
  refine (ev_i (i1 < 1) (i1 := 32) (l1 := [some (.inr a0), some (.inl i1), none, none]) (s1 := []) (M1 := M) (i2 := 3) (l2 := [some (.inr a0), some (.inl i1), none, none]) (s2 := []) (M2 := M) c_180 rfl).trans (t_i ?_ ?_)
  · skip
    exact rfl
  · skip
    refine (ev_ns c_180 2 (ip' := 5) (ls' := [some (.inr a0), some (.inl i1), none, none]) (st' := [.inl 6, .inl i1]) (M' := M) rfl).trans ?_
    refine (ev_i ((6 : Int32) < i1) (i1 := 32) (l1 := [some (.inr a0), some (.inl i1), none, none]) (s1 := []) (M1 := M) (i2 := 6) (l2 := [some (.inr a0), some (.inl i1), none, none]) (s2 := []) (M2 := M) c_180 rfl).trans (t_i ?_ ?_)
    · skip
      exact rfl
    · skip
      exact ev_ns c_180 4 (ip' := 10) (ls' := [some (.inr a0), some (.inl i1), some (.inl 0), some (.inl 0)]) (st' := []) (M' := M) rfl
set_option maxRecDepth 20000 in
theorem e_180_10 (a0 : Nat) (i1 : Int32) (i2 : Int32) (i3 : Int32) (M : mM) : ev 180 10 [some (.inr a0), some (.inl i1), some (.inl i2), some (.inl i3)] [] M = if h_k M a0 = 8 then (if (h_i M a0 0) ≤ i3 then (some (some (.inl i2), M)) else (if h_k M a0 = 8 then (if (h_k M (h_r M a0 5) = 9 ∨ h_k M (h_r M a0 5) = 14) ∧ h_in i3 (h_l M (h_r M a0 5)) then (if (h_i M (h_r M a0 5) (i3).toNatClampNeg) = (i1 - 1) then (ev 180 26 [some (.inr a0), some (.inl i1), some (.inl i2), some (.inl i3)] [.inl 1, .inl i2] M) else (ev 180 26 [some (.inr a0), some (.inl i1), some (.inl i2), some (.inl i3)] [.inl 0, .inl i2] M)) else none) else none)) else none := by
  refine (ev_ns c_180 2 (ip' := 12) (ls' := [some (.inr a0), some (.inl i1), some (.inl i2), some (.inl i3)]) (st' := [.inr a0, .inl i3]) (M' := M) rfl).trans ?_
  refine (ev_g (h_k M a0 = 8) (ip' := 13) (ls' := [some (.inr a0), some (.inl i1), some (.inl i2), some (.inl i3)]) (st' := [.inl (h_i M a0 0), .inl i3]) (M' := M) c_180 rfl).trans (t_i ?_ rfl)
  refine (ev_i ((h_i M a0 0) ≤ i3) (i1 := 30) (l1 := [some (.inr a0), some (.inl i1), some (.inl i2), some (.inl i3)]) (s1 := []) (M1 := M) (i2 := 14) (l2 := [some (.inr a0), some (.inl i1), some (.inl i2), some (.inl i3)]) (s2 := []) (M2 := M) c_180 rfl).trans (t_i ?_ ?_)
  · skip
    refine (ev_ns c_180 1 (ip' := 31) (ls' := [some (.inr a0), some (.inl i1), some (.inl i2), some (.inl i3)]) (st' := [.inl i2]) (M' := M) rfl).trans ?_
    exact ev_d c_180 rfl
  · skip
    refine (ev_ns c_180 2 (ip' := 16) (ls' := [some (.inr a0), some (.inl i1), some (.inl i2), some (.inl i3)]) (st' := [.inr a0, .inl i2]) (M' := M) rfl).trans ?_
    refine (ev_g (h_k M a0 = 8) (ip' := 17) (ls' := [some (.inr a0), some (.inl i1), some (.inl i2), some (.inl i3)]) (st' := [.inr (h_r M a0 5), .inl i2]) (M' := M) c_180 rfl).trans (t_i ?_ rfl)
    refine (ev_ns c_180 1 (ip' := 18) (ls' := [some (.inr a0), some (.inl i1), some (.inl i2), some (.inl i3)]) (st' := [.inl i3, .inr (h_r M a0 5), .inl i2]) (M' := M) rfl).trans ?_
    refine (ev_g ((h_k M (h_r M a0 5) = 9 ∨ h_k M (h_r M a0 5) = 14) ∧ h_in i3 (h_l M (h_r M a0 5))) (ip' := 19) (ls' := [some (.inr a0), some (.inl i1), some (.inl i2), some (.inl i3)]) (st' := [.inl (h_i M (h_r M a0 5) (i3).toNatClampNeg), .inl i2]) (M' := M) c_180 rfl).trans (t_i ?_ rfl)
    refine (ev_ns c_180 3 (ip' := 22) (ls' := [some (.inr a0), some (.inl i1), some (.inl i2), some (.inl i3)]) (st' := [.inl (i1 - 1), .inl (h_i M (h_r M a0 5) (i3).toNatClampNeg), .inl i2]) (M' := M) rfl).trans ?_
    refine (ev_i ((h_i M (h_r M a0 5) (i3).toNatClampNeg) = (i1 - 1)) (i1 := 23) (l1 := [some (.inr a0), some (.inl i1), some (.inl i2), some (.inl i3)]) (s1 := [.inl i2]) (M1 := M) (i2 := 25) (l2 := [some (.inr a0), some (.inl i1), some (.inl i2), some (.inl i3)]) (s2 := [.inl i2]) (M2 := M) c_180 rfl).trans (t_i ?_ ?_)
    · skip
      exact ev_ns c_180 2 (ip' := 26) (ls' := [some (.inr a0), some (.inl i1), some (.inl i2), some (.inl i3)]) (st' := [.inl 1, .inl i2]) (M' := M) rfl
    · skip
      exact ev_ns c_180 1 (ip' := 26) (ls' := [some (.inr a0), some (.inl i1), some (.inl i2), some (.inl i3)]) (st' := [.inl 0, .inl i2]) (M' := M) rfl
set_option maxRecDepth 20000 in
theorem e_180_26 (a0 : Nat) (i1 : Int32) (i2 : Int32) (i3 : Int32) (s0 : Int32) (s1 : Int32) (M : mM) : ev 180 26 [some (.inr a0), some (.inl i1), some (.inl i2), some (.inl i3)] [.inl s1, .inl s0] M = ev 180 10 [some (.inr a0), some (.inl i1), some (.inl (s0 + s1)), some (.inl (i3 + 1))] [] M := by
  exact ev_ns c_180 4 (ip' := 10) (ls' := [some (.inr a0), some (.inl i1), some (.inl (s0 + s1)), some (.inl (i3 + 1))]) (st' := []) (M' := M) rfl
set_option maxRecDepth 20000 in
theorem e_180_32 (a0 : Nat) (i1 : Int32) (M : mM) : ev 180 32 [some (.inr a0), some (.inl i1), none, none] [] M = if (i1 : Int32) = 0 then (if h_k M a0 = 8 then (some (some (.inl (h_i M a0 0)), M)) else none) else (if (i1 : Int32) = 1 then (ev 180 50 [some (.inr a0), some (.inl i1), none, none] [] M) else (if (i1 : Int32) = 2 then (ev 180 50 [some (.inr a0), some (.inl i1), none, none] [] M) else (if (i1 : Int32) = 3 then (ev 180 50 [some (.inr a0), some (.inl i1), none, none] [] M) else (if (i1 : Int32) = 4 then (ev 180 50 [some (.inr a0), some (.inl i1), none, none] [] M) else (if (i1 : Int32) = 5 then (ev 180 50 [some (.inr a0), some (.inl i1), none, none] [] M) else (if (i1 : Int32) = 6 then (ev 180 50 [some (.inr a0), some (.inl i1), none, none] [] M) else (if (i1 : Int32) = 7 then (if h_k M a0 = 8 then (some (some (.inl (h_i M a0 2)), M)) else none) else (if (i1 : Int32) = 8 then (if (a_rec M 8 [.inr a0, .inl 3] = true ∧ ([] : List mV).length ≤ 8) then (c_I (ev 184 0 [some (.inr a0), some (.inl 3), none, none] [] M) fun v_2 M_1 => some (some (.inl v_2), M_1)) else none) else (if (i1 : Int32) = 9 then (if h_k M a0 = 8 then (some (some (.inl (h_i M a0 3)), M)) else none) else (if (i1 : Int32) = 10 then (if h_k M a0 = 8 then (some (some (.inl (h_i M a0 4)), M)) else none) else (ev 180 50 [some (.inr a0), some (.inl i1), none, none] [] M))))))))))) := by
  refine (ev_ns c_180 1 (ip' := 33) (ls' := [some (.inr a0), some (.inl i1), none, none]) (st' := [.inl i1]) (M' := M) rfl).trans ?_
  refine (ev_sw c_180 (x := i1) (ls := [some (.inr a0), some (.inl i1), none, none]) (r := []) (M := M) (d := 50) (ts := [34, 50, 50, 50, 50, 50, 50, 37, 40, 44, 47]) rfl).trans ?_
  refine t_i ?_ ?_
  · skip
    refine (ev_ns c_180 1 (ip' := 35) (ls' := [some (.inr a0), some (.inl i1), none, none]) (st' := [.inr a0]) (M' := M) rfl).trans ?_
    refine (ev_g (h_k M a0 = 8) (ip' := 36) (ls' := [some (.inr a0), some (.inl i1), none, none]) (st' := [.inl (h_i M a0 0)]) (M' := M) c_180 rfl).trans (t_i ?_ rfl)
    exact ev_d c_180 rfl
  refine t_i ?_ ?_
  · skip
    exact rfl
  refine t_i ?_ ?_
  · skip
    exact rfl
  refine t_i ?_ ?_
  · skip
    exact rfl
  refine t_i ?_ ?_
  · skip
    exact rfl
  refine t_i ?_ ?_
  · skip
    exact rfl
  refine t_i ?_ ?_
  · skip
    exact rfl
  refine t_i ?_ ?_
  · skip
    refine (ev_ns c_180 1 (ip' := 38) (ls' := [some (.inr a0), some (.inl i1), none, none]) (st' := [.inr a0]) (M' := M) rfl).trans ?_
    refine (ev_g (h_k M a0 = 8) (ip' := 39) (ls' := [some (.inr a0), some (.inl i1), none, none]) (st' := [.inl (h_i M a0 2)]) (M' := M) c_180 rfl).trans (t_i ?_ rfl)
    exact ev_d c_180 rfl
  refine t_i ?_ ?_
  · skip
    refine (ev_ns c_180 2 (ip' := 42) (ls' := [some (.inr a0), some (.inl i1), none, none]) (st' := [.inl 3, .inr a0]) (M' := M) rfl).trans ?_
    refine (ev_gI (a_rec M 8 [.inr a0, .inl 3] = true ∧ ([] : List mV).length ≤ 8) (as := [.inr a0, .inl 3]) (rr := []) c_180 c_184 rfl).trans (t_i (t_cI ?_) rfl)
    intro v_2 M_1
    exact ev_d c_180 rfl
  refine t_i ?_ ?_
  · skip
    refine (ev_ns c_180 1 (ip' := 45) (ls' := [some (.inr a0), some (.inl i1), none, none]) (st' := [.inr a0]) (M' := M) rfl).trans ?_
    refine (ev_g (h_k M a0 = 8) (ip' := 46) (ls' := [some (.inr a0), some (.inl i1), none, none]) (st' := [.inl (h_i M a0 3)]) (M' := M) c_180 rfl).trans (t_i ?_ rfl)
    exact ev_d c_180 rfl
  refine t_i ?_ ?_
  · skip
    refine (ev_ns c_180 1 (ip' := 48) (ls' := [some (.inr a0), some (.inl i1), none, none]) (st' := [.inr a0]) (M' := M) rfl).trans ?_
    refine (ev_g (h_k M a0 = 8) (ip' := 49) (ls' := [some (.inr a0), some (.inl i1), none, none]) (st' := [.inl (h_i M a0 4)]) (M' := M) c_180 rfl).trans (t_i ?_ rfl)
    exact ev_d c_180 rfl
  exact rfl
set_option maxRecDepth 20000 in
theorem e_180_50 (a0 : Nat) (i1 : Int32) (M : mM) : ev 180 50 [some (.inr a0), some (.inl i1), none, none] [] M = some (some (.inl (-1)), M) := by
  refine (ev_ns c_180 1 (ip' := 51) (ls' := [some (.inr a0), some (.inl i1), none, none]) (st' := [.inl (-1)]) (M' := M) rfl).trans ?_
  exact ev_d c_180 rfl
/- 181: GranuleHallModel.status()I -/
set_option maxRecDepth 20000 in
theorem e_181_0 (a0 : Nat) (M : mM) : ev 181 0 [some (.inr a0)] [] M = if h_k M a0 = 8 then (some (some (.inl (h_i M a0 1)), M)) else none := by
  refine (ev_ns c_181 1 (ip' := 1) (ls' := [some (.inr a0)]) (st' := [.inr a0]) (M' := M) rfl).trans ?_
  refine (ev_g (h_k M a0 = 8) (ip' := 2) (ls' := [some (.inr a0)]) (st' := [.inl (h_i M a0 1)]) (M' := M) c_181 rfl).trans (t_i ?_ rfl)
  exact ev_d c_181 rfl
/- 182: GranuleHallModel.astray()I -/
set_option maxRecDepth 20000 in
theorem e_182_0 (a0 : Nat) (M : mM) : ev 182 0 [some (.inr a0)] [] M = some (some (.inl 0), M) := by
  refine (ev_ns c_182 1 (ip' := 1) (ls' := [some (.inr a0)]) (st' := [.inl 0]) (M' := M) rfl).trans ?_
  exact ev_d c_182 rfl
/- 183: java/util/Arrays.fill([II)V -/
set_option maxRecDepth 20000 in
theorem e_183_0 (a0 : Nat) (i1 : Int32) (M : mM) : ev 183 0 [some (.inr a0), some (.inl i1), none, none] [] M = if 9 ≤ h_k M a0 ∧ h_k M a0 ≤ 13 then (ev 183 5 [some (.inr a0), some (.inl i1), some (.inl 0), some (.inl (Int32.ofNat (h_l M a0)))] [] M) else none := by
  refine (ev_ns c_183 3 (ip' := 3) (ls' := [some (.inr a0), some (.inl i1), some (.inl 0), none]) (st' := [.inr a0]) (M' := M) rfl).trans ?_
  refine (ev_g (9 ≤ h_k M a0 ∧ h_k M a0 ≤ 13) (ip' := 4) (ls' := [some (.inr a0), some (.inl i1), some (.inl 0), none]) (st' := [.inl (Int32.ofNat (h_l M a0))]) (M' := M) c_183 rfl).trans (t_i ?_ rfl)
  exact ev_ns c_183 1 (ip' := 5) (ls' := [some (.inr a0), some (.inl i1), some (.inl 0), some (.inl (Int32.ofNat (h_l M a0)))]) (st' := []) (M' := M) rfl
set_option maxRecDepth 20000 in
theorem e_183_5 (a0 : Nat) (i1 : Int32) (i2 : Int32) (i3 : Int32) (M : mM) : ev 183 5 [some (.inr a0), some (.inl i1), some (.inl i2), some (.inl i3)] [] M = if i3 ≤ i2 then (some (none, M)) else (if h_k M a0 = 9 ∧ h_in i2 (h_l M a0) then (ev 183 5 [some (.inr a0), some (.inl i1), some (.inl (i2 + 1)), some (.inl i3)] [] (h_si M a0 (i2).toNatClampNeg i1)) else none) := by
  refine (ev_ns c_183 2 (ip' := 7) (ls' := [some (.inr a0), some (.inl i1), some (.inl i2), some (.inl i3)]) (st' := [.inl i3, .inl i2]) (M' := M) rfl).trans ?_
  refine (ev_i (i3 ≤ i2) (i1 := 14) (l1 := [some (.inr a0), some (.inl i1), some (.inl i2), some (.inl i3)]) (s1 := []) (M1 := M) (i2 := 8) (l2 := [some (.inr a0), some (.inl i1), some (.inl i2), some (.inl i3)]) (s2 := []) (M2 := M) c_183 rfl).trans (t_i ?_ ?_)
  · skip
    exact ev_d c_183 rfl
  · skip
    refine (ev_ns c_183 3 (ip' := 11) (ls' := [some (.inr a0), some (.inl i1), some (.inl i2), some (.inl i3)]) (st' := [.inl i1, .inl i2, .inr a0]) (M' := M) rfl).trans ?_
    refine (ev_g (h_k M a0 = 9 ∧ h_in i2 (h_l M a0)) (ip' := 12) (ls' := [some (.inr a0), some (.inl i1), some (.inl i2), some (.inl i3)]) (st' := []) (M' := h_si M a0 (i2).toNatClampNeg i1) c_183 rfl).trans (t_i ?_ rfl)
    exact ev_ns c_183 2 (ip' := 5) (ls' := [some (.inr a0), some (.inl i1), some (.inl (i2 + 1)), some (.inl i3)]) (st' := []) (M' := h_si M a0 (i2).toNatClampNeg i1) rfl
/- 184: GranuleHallModel.count(I)I -/
set_option maxRecDepth 20000 in
theorem e_184_0 (a0 : Nat) (i1 : Int32) (M : mM) : ev 184 0 [some (.inr a0), some (.inl i1), none, none] [] M = if i1 < 1 then (ev 184 32 [some (.inr a0), some (.inl i1), none, none] [] M) else (if (6 : Int32) < i1 then (ev 184 32 [some (.inr a0), some (.inl i1), none, none] [] M) else (ev 184 10 [some (.inr a0), some (.inl i1), some (.inl 0), some (.inl 0)] [] M)) := by
  refine (ev_ns c_184 2 (ip' := 2) (ls' := [some (.inr a0), some (.inl i1), none, none]) (st' := [.inl 1, .inl i1]) (M' := M) rfl).trans ?_
  refine (ev_i (i1 < 1) (i1 := 32) (l1 := [some (.inr a0), some (.inl i1), none, none]) (s1 := []) (M1 := M) (i2 := 3) (l2 := [some (.inr a0), some (.inl i1), none, none]) (s2 := []) (M2 := M) c_184 rfl).trans (t_i ?_ ?_)
  · skip
    exact rfl
  · skip
    refine (ev_ns c_184 2 (ip' := 5) (ls' := [some (.inr a0), some (.inl i1), none, none]) (st' := [.inl 6, .inl i1]) (M' := M) rfl).trans ?_
    refine (ev_i ((6 : Int32) < i1) (i1 := 32) (l1 := [some (.inr a0), some (.inl i1), none, none]) (s1 := []) (M1 := M) (i2 := 6) (l2 := [some (.inr a0), some (.inl i1), none, none]) (s2 := []) (M2 := M) c_184 rfl).trans (t_i ?_ ?_)
    · skip
      exact rfl
    · skip
      exact ev_ns c_184 4 (ip' := 10) (ls' := [some (.inr a0), some (.inl i1), some (.inl 0), some (.inl 0)]) (st' := []) (M' := M) rfl
set_option maxRecDepth 20000 in
theorem e_184_10 (a0 : Nat) (i1 : Int32) (i2 : Int32) (i3 : Int32) (M : mM) : ev 184 10 [some (.inr a0), some (.inl i1), some (.inl i2), some (.inl i3)] [] M = if h_k M a0 = 8 then (if (h_i M a0 0) ≤ i3 then (some (some (.inl i2), M)) else (if h_k M a0 = 8 then (if (h_k M (h_r M a0 5) = 9 ∨ h_k M (h_r M a0 5) = 14) ∧ h_in i3 (h_l M (h_r M a0 5)) then (if (h_i M (h_r M a0 5) (i3).toNatClampNeg) = (i1 - 1) then (ev 184 26 [some (.inr a0), some (.inl i1), some (.inl i2), some (.inl i3)] [.inl 1, .inl i2] M) else (ev 184 26 [some (.inr a0), some (.inl i1), some (.inl i2), some (.inl i3)] [.inl 0, .inl i2] M)) else none) else none)) else none := by
  refine (ev_ns c_184 2 (ip' := 12) (ls' := [some (.inr a0), some (.inl i1), some (.inl i2), some (.inl i3)]) (st' := [.inr a0, .inl i3]) (M' := M) rfl).trans ?_
  refine (ev_g (h_k M a0 = 8) (ip' := 13) (ls' := [some (.inr a0), some (.inl i1), some (.inl i2), some (.inl i3)]) (st' := [.inl (h_i M a0 0), .inl i3]) (M' := M) c_184 rfl).trans (t_i ?_ rfl)
  refine (ev_i ((h_i M a0 0) ≤ i3) (i1 := 30) (l1 := [some (.inr a0), some (.inl i1), some (.inl i2), some (.inl i3)]) (s1 := []) (M1 := M) (i2 := 14) (l2 := [some (.inr a0), some (.inl i1), some (.inl i2), some (.inl i3)]) (s2 := []) (M2 := M) c_184 rfl).trans (t_i ?_ ?_)
  · skip
    refine (ev_ns c_184 1 (ip' := 31) (ls' := [some (.inr a0), some (.inl i1), some (.inl i2), some (.inl i3)]) (st' := [.inl i2]) (M' := M) rfl).trans ?_
    exact ev_d c_184 rfl
  · skip
    refine (ev_ns c_184 2 (ip' := 16) (ls' := [some (.inr a0), some (.inl i1), some (.inl i2), some (.inl i3)]) (st' := [.inr a0, .inl i2]) (M' := M) rfl).trans ?_
    refine (ev_g (h_k M a0 = 8) (ip' := 17) (ls' := [some (.inr a0), some (.inl i1), some (.inl i2), some (.inl i3)]) (st' := [.inr (h_r M a0 5), .inl i2]) (M' := M) c_184 rfl).trans (t_i ?_ rfl)
    refine (ev_ns c_184 1 (ip' := 18) (ls' := [some (.inr a0), some (.inl i1), some (.inl i2), some (.inl i3)]) (st' := [.inl i3, .inr (h_r M a0 5), .inl i2]) (M' := M) rfl).trans ?_
    refine (ev_g ((h_k M (h_r M a0 5) = 9 ∨ h_k M (h_r M a0 5) = 14) ∧ h_in i3 (h_l M (h_r M a0 5))) (ip' := 19) (ls' := [some (.inr a0), some (.inl i1), some (.inl i2), some (.inl i3)]) (st' := [.inl (h_i M (h_r M a0 5) (i3).toNatClampNeg), .inl i2]) (M' := M) c_184 rfl).trans (t_i ?_ rfl)
    refine (ev_ns c_184 3 (ip' := 22) (ls' := [some (.inr a0), some (.inl i1), some (.inl i2), some (.inl i3)]) (st' := [.inl (i1 - 1), .inl (h_i M (h_r M a0 5) (i3).toNatClampNeg), .inl i2]) (M' := M) rfl).trans ?_
    refine (ev_i ((h_i M (h_r M a0 5) (i3).toNatClampNeg) = (i1 - 1)) (i1 := 23) (l1 := [some (.inr a0), some (.inl i1), some (.inl i2), some (.inl i3)]) (s1 := [.inl i2]) (M1 := M) (i2 := 25) (l2 := [some (.inr a0), some (.inl i1), some (.inl i2), some (.inl i3)]) (s2 := [.inl i2]) (M2 := M) c_184 rfl).trans (t_i ?_ ?_)
    · skip
      exact ev_ns c_184 2 (ip' := 26) (ls' := [some (.inr a0), some (.inl i1), some (.inl i2), some (.inl i3)]) (st' := [.inl 1, .inl i2]) (M' := M) rfl
    · skip
      exact ev_ns c_184 1 (ip' := 26) (ls' := [some (.inr a0), some (.inl i1), some (.inl i2), some (.inl i3)]) (st' := [.inl 0, .inl i2]) (M' := M) rfl
set_option maxRecDepth 20000 in
theorem e_184_26 (a0 : Nat) (i1 : Int32) (i2 : Int32) (i3 : Int32) (s0 : Int32) (s1 : Int32) (M : mM) : ev 184 26 [some (.inr a0), some (.inl i1), some (.inl i2), some (.inl i3)] [.inl s1, .inl s0] M = ev 184 10 [some (.inr a0), some (.inl i1), some (.inl (s0 + s1)), some (.inl (i3 + 1))] [] M := by
  exact ev_ns c_184 4 (ip' := 10) (ls' := [some (.inr a0), some (.inl i1), some (.inl (s0 + s1)), some (.inl (i3 + 1))]) (st' := []) (M' := M) rfl
set_option maxRecDepth 20000 in
theorem e_184_32 (a0 : Nat) (i1 : Int32) (M : mM) : ev 184 32 [some (.inr a0), some (.inl i1), none, none] [] M = if (i1 : Int32) = 0 then (if h_k M a0 = 8 then (some (some (.inl (h_i M a0 0)), M)) else none) else (if (i1 : Int32) = 1 then (ev 184 50 [some (.inr a0), some (.inl i1), none, none] [] M) else (if (i1 : Int32) = 2 then (ev 184 50 [some (.inr a0), some (.inl i1), none, none] [] M) else (if (i1 : Int32) = 3 then (ev 184 50 [some (.inr a0), some (.inl i1), none, none] [] M) else (if (i1 : Int32) = 4 then (ev 184 50 [some (.inr a0), some (.inl i1), none, none] [] M) else (if (i1 : Int32) = 5 then (ev 184 50 [some (.inr a0), some (.inl i1), none, none] [] M) else (if (i1 : Int32) = 6 then (ev 184 50 [some (.inr a0), some (.inl i1), none, none] [] M) else (if (i1 : Int32) = 7 then (if h_k M a0 = 8 then (some (some (.inl (h_i M a0 2)), M)) else none) else (if (i1 : Int32) = 8 then (none) else (if (i1 : Int32) = 9 then (if h_k M a0 = 8 then (some (some (.inl (h_i M a0 3)), M)) else none) else (if (i1 : Int32) = 10 then (if h_k M a0 = 8 then (some (some (.inl (h_i M a0 4)), M)) else none) else (ev 184 50 [some (.inr a0), some (.inl i1), none, none] [] M))))))))))) := by
  refine (ev_ns c_184 1 (ip' := 33) (ls' := [some (.inr a0), some (.inl i1), none, none]) (st' := [.inl i1]) (M' := M) rfl).trans ?_
  refine (ev_sw c_184 (x := i1) (ls := [some (.inr a0), some (.inl i1), none, none]) (r := []) (M := M) (d := 50) (ts := [34, 50, 50, 50, 50, 50, 50, 37, 40, 44, 47]) rfl).trans ?_
  refine t_i ?_ ?_
  · skip
    refine (ev_ns c_184 1 (ip' := 35) (ls' := [some (.inr a0), some (.inl i1), none, none]) (st' := [.inr a0]) (M' := M) rfl).trans ?_
    refine (ev_g (h_k M a0 = 8) (ip' := 36) (ls' := [some (.inr a0), some (.inl i1), none, none]) (st' := [.inl (h_i M a0 0)]) (M' := M) c_184 rfl).trans (t_i ?_ rfl)
    exact ev_d c_184 rfl
  refine t_i ?_ ?_
  · skip
    exact rfl
  refine t_i ?_ ?_
  · skip
    exact rfl
  refine t_i ?_ ?_
  · skip
    exact rfl
  refine t_i ?_ ?_
  · skip
    exact rfl
  refine t_i ?_ ?_
  · skip
    exact rfl
  refine t_i ?_ ?_
  · skip
    exact rfl
  refine t_i ?_ ?_
  · skip
    refine (ev_ns c_184 1 (ip' := 38) (ls' := [some (.inr a0), some (.inl i1), none, none]) (st' := [.inr a0]) (M' := M) rfl).trans ?_
    refine (ev_g (h_k M a0 = 8) (ip' := 39) (ls' := [some (.inr a0), some (.inl i1), none, none]) (st' := [.inl (h_i M a0 2)]) (M' := M) c_184 rfl).trans (t_i ?_ rfl)
    exact ev_d c_184 rfl
  refine t_i ?_ ?_
  · skip
    refine (ev_ns c_184 2 (ip' := 42) (ls' := [some (.inr a0), some (.inl i1), none, none]) (st' := [.inl 3, .inr a0]) (M' := M) rfl).trans ?_
    exact ev_d c_184 rfl
  refine t_i ?_ ?_
  · skip
    refine (ev_ns c_184 1 (ip' := 45) (ls' := [some (.inr a0), some (.inl i1), none, none]) (st' := [.inr a0]) (M' := M) rfl).trans ?_
    refine (ev_g (h_k M a0 = 8) (ip' := 46) (ls' := [some (.inr a0), some (.inl i1), none, none]) (st' := [.inl (h_i M a0 3)]) (M' := M) c_184 rfl).trans (t_i ?_ rfl)
    exact ev_d c_184 rfl
  refine t_i ?_ ?_
  · skip
    refine (ev_ns c_184 1 (ip' := 48) (ls' := [some (.inr a0), some (.inl i1), none, none]) (st' := [.inr a0]) (M' := M) rfl).trans ?_
    refine (ev_g (h_k M a0 = 8) (ip' := 49) (ls' := [some (.inr a0), some (.inl i1), none, none]) (st' := [.inl (h_i M a0 4)]) (M' := M) c_184 rfl).trans (t_i ?_ rfl)
    exact ev_d c_184 rfl
  exact rfl
set_option maxRecDepth 20000 in
theorem e_184_50 (a0 : Nat) (i1 : Int32) (M : mM) : ev 184 50 [some (.inr a0), some (.inl i1), none, none] [] M = some (some (.inl (-1)), M) := by
  refine (ev_ns c_184 1 (ip' := 51) (ls' := [some (.inr a0), some (.inl i1), none, none]) (st' := [.inl (-1)]) (M' := M) rfl).trans ?_
  exact ev_d c_184 rfl
