/-! the checks, method by method -/
def o_P (j : Nat) : Prop := o_all j = true ∧ o_m j = true ∧ o_cw j
theorem oq_0 : ∀ j, j < 0 → o_P j := lt_0
theorem ok_0 : o_all 0 = true := by decide +kernel
theorem om_0 : o_m 0 = true := by decide +kernel
set_option maxRecDepth 100000 in
theorem cw_0 : o_cw 0 := rfl
theorem oq_1 : ∀ j, j < 1 → o_P j := lt_s oq_0 ⟨ok_0, om_0, cw_0⟩
theorem ok_1 : o_all 1 = true := by decide +kernel
theorem om_1 : o_m 1 = true := by decide +kernel
set_option maxRecDepth 100000 in
theorem cw_1 : o_cw 1 := rfl
theorem oq_2 : ∀ j, j < 2 → o_P j := lt_s oq_1 ⟨ok_1, om_1, cw_1⟩
theorem ok_2 : o_all 2 = true := by decide +kernel
theorem om_2 : o_m 2 = true := by decide +kernel
set_option maxRecDepth 100000 in
theorem cw_2 : o_cw 2 := rfl
theorem oq_3 : ∀ j, j < 3 → o_P j := lt_s oq_2 ⟨ok_2, om_2, cw_2⟩
theorem ok_3 : o_all 3 = true := by decide +kernel
theorem om_3 : o_m 3 = true := by decide +kernel
set_option maxRecDepth 100000 in
theorem cw_3 : o_cw 3 := rfl
theorem oq_4 : ∀ j, j < 4 → o_P j := lt_s oq_3 ⟨ok_3, om_3, cw_3⟩
theorem ok_4 : o_all 4 = true := by decide +kernel
theorem om_4 : o_m 4 = true := by decide +kernel
set_option maxRecDepth 100000 in
theorem cw_4 : o_cw 4 := rfl
theorem oq_5 : ∀ j, j < 5 → o_P j := lt_s oq_4 ⟨ok_4, om_4, cw_4⟩
theorem ok_5 : o_all 5 = true := by decide +kernel
theorem om_5 : o_m 5 = true := by decide +kernel
set_option maxRecDepth 100000 in
theorem cw_5 : o_cw 5 := rfl
theorem oq_6 : ∀ j, j < 6 → o_P j := lt_s oq_5 ⟨ok_5, om_5, cw_5⟩
theorem ok_6 : o_all 6 = true := by decide +kernel
theorem om_6 : o_m 6 = true := by decide +kernel
set_option maxRecDepth 100000 in
theorem cw_6 : o_cw 6 := rfl
theorem oq_7 : ∀ j, j < 7 → o_P j := lt_s oq_6 ⟨ok_6, om_6, cw_6⟩
theorem ok_7 : o_all 7 = true := by decide +kernel
theorem om_7 : o_m 7 = true := by decide +kernel
set_option maxRecDepth 100000 in
theorem cw_7 : o_cw 7 := rfl
theorem oq_8 : ∀ j, j < 8 → o_P j := lt_s oq_7 ⟨ok_7, om_7, cw_7⟩
theorem ok_8 : o_all 8 = true := by decide +kernel
theorem om_8 : o_m 8 = true := by decide +kernel
set_option maxRecDepth 100000 in
theorem cw_8 : o_cw 8 := rfl
theorem oq_9 : ∀ j, j < 9 → o_P j := lt_s oq_8 ⟨ok_8, om_8, cw_8⟩
theorem ok_9 : o_all 9 = true := by decide +kernel
theorem om_9 : o_m 9 = true := by decide +kernel
set_option maxRecDepth 100000 in
theorem cw_9 : o_cw 9 := rfl
theorem oq_10 : ∀ j, j < 10 → o_P j := lt_s oq_9 ⟨ok_9, om_9, cw_9⟩
theorem ok_10 : o_all 10 = true := by decide +kernel
theorem om_10 : o_m 10 = true := by decide +kernel
set_option maxRecDepth 100000 in
theorem cw_10 : o_cw 10 := rfl
theorem oq_11 : ∀ j, j < 11 → o_P j := lt_s oq_10 ⟨ok_10, om_10, cw_10⟩
theorem ok_11 : o_all 11 = true := by decide +kernel
theorem om_11 : o_m 11 = true := by decide +kernel
set_option maxRecDepth 100000 in
theorem cw_11 : o_cw 11 := rfl
theorem oq_12 : ∀ j, j < 12 → o_P j := lt_s oq_11 ⟨ok_11, om_11, cw_11⟩
theorem ok_12 : o_all 12 = true := by decide +kernel
theorem om_12 : o_m 12 = true := by decide +kernel
set_option maxRecDepth 100000 in
theorem cw_12 : o_cw 12 := rfl
theorem oq_13 : ∀ j, j < 13 → o_P j := lt_s oq_12 ⟨ok_12, om_12, cw_12⟩
theorem ok_13 : o_all 13 = true := by decide +kernel
theorem om_13 : o_m 13 = true := by decide +kernel
set_option maxRecDepth 100000 in
theorem cw_13 : o_cw 13 := rfl
theorem oq_14 : ∀ j, j < 14 → o_P j := lt_s oq_13 ⟨ok_13, om_13, cw_13⟩
theorem ok_14 : o_all 14 = true := by decide +kernel
theorem om_14 : o_m 14 = true := by decide +kernel
set_option maxRecDepth 100000 in
theorem cw_14 : o_cw 14 := rfl
theorem oq_15 : ∀ j, j < 15 → o_P j := lt_s oq_14 ⟨ok_14, om_14, cw_14⟩
theorem ok_15 : o_all 15 = true := by decide +kernel
theorem om_15 : o_m 15 = true := by decide +kernel
set_option maxRecDepth 100000 in
theorem cw_15 : o_cw 15 := rfl
theorem oq_16 : ∀ j, j < 16 → o_P j := lt_s oq_15 ⟨ok_15, om_15, cw_15⟩
theorem ok_16 : o_all 16 = true := by decide +kernel
theorem om_16 : o_m 16 = true := by decide +kernel
set_option maxRecDepth 100000 in
theorem cw_16 : o_cw 16 := rfl
theorem oq_17 : ∀ j, j < 17 → o_P j := lt_s oq_16 ⟨ok_16, om_16, cw_16⟩
theorem ok_17 : o_all 17 = true := by decide +kernel
theorem om_17 : o_m 17 = true := by decide +kernel
set_option maxRecDepth 100000 in
theorem cw_17 : o_cw 17 := rfl
theorem oq_18 : ∀ j, j < 18 → o_P j := lt_s oq_17 ⟨ok_17, om_17, cw_17⟩
theorem ok_18 : o_all 18 = true := by decide +kernel
theorem om_18 : o_m 18 = true := by decide +kernel
set_option maxRecDepth 100000 in
theorem cw_18 : o_cw 18 := rfl
theorem oq_19 : ∀ j, j < 19 → o_P j := lt_s oq_18 ⟨ok_18, om_18, cw_18⟩
theorem ok_19 : o_all 19 = true := by decide +kernel
theorem om_19 : o_m 19 = true := by decide +kernel
set_option maxRecDepth 100000 in
theorem cw_19 : o_cw 19 := rfl
theorem oq_20 : ∀ j, j < 20 → o_P j := lt_s oq_19 ⟨ok_19, om_19, cw_19⟩
theorem ok_20 : o_all 20 = true := by decide +kernel
theorem om_20 : o_m 20 = true := by decide +kernel
set_option maxRecDepth 100000 in
theorem cw_20 : o_cw 20 := rfl
theorem oq_21 : ∀ j, j < 21 → o_P j := lt_s oq_20 ⟨ok_20, om_20, cw_20⟩
theorem ok_21 : o_all 21 = true := by decide +kernel
theorem om_21 : o_m 21 = true := by decide +kernel
set_option maxRecDepth 100000 in
theorem cw_21 : o_cw 21 := rfl
theorem oq_22 : ∀ j, j < 22 → o_P j := lt_s oq_21 ⟨ok_21, om_21, cw_21⟩
theorem ok_22 : o_all 22 = true := by decide +kernel
theorem om_22 : o_m 22 = true := by decide +kernel
set_option maxRecDepth 100000 in
theorem cw_22 : o_cw 22 := rfl
theorem oq_23 : ∀ j, j < 23 → o_P j := lt_s oq_22 ⟨ok_22, om_22, cw_22⟩
theorem ok_23 : o_all 23 = true := by decide +kernel
theorem om_23 : o_m 23 = true := by decide +kernel
set_option maxRecDepth 100000 in
theorem cw_23 : o_cw 23 := rfl
theorem oq_24 : ∀ j, j < 24 → o_P j := lt_s oq_23 ⟨ok_23, om_23, cw_23⟩
theorem ok_24 : o_all 24 = true := by decide +kernel
theorem om_24 : o_m 24 = true := by decide +kernel
set_option maxRecDepth 100000 in
theorem cw_24 : o_cw 24 := rfl
theorem oq_25 : ∀ j, j < 25 → o_P j := lt_s oq_24 ⟨ok_24, om_24, cw_24⟩
theorem ok_25 : o_all 25 = true := by decide +kernel
theorem om_25 : o_m 25 = true := by decide +kernel
set_option maxRecDepth 100000 in
theorem cw_25 : o_cw 25 := rfl
theorem oq_26 : ∀ j, j < 26 → o_P j := lt_s oq_25 ⟨ok_25, om_25, cw_25⟩
theorem ok_26 : o_all 26 = true := by decide +kernel
theorem om_26 : o_m 26 = true := by decide +kernel
set_option maxRecDepth 100000 in
theorem cw_26 : o_cw 26 := rfl
theorem oq_27 : ∀ j, j < 27 → o_P j := lt_s oq_26 ⟨ok_26, om_26, cw_26⟩
theorem ok_27 : o_all 27 = true := by decide +kernel
theorem om_27 : o_m 27 = true := by decide +kernel
set_option maxRecDepth 100000 in
theorem cw_27 : o_cw 27 := rfl
theorem oq_28 : ∀ j, j < 28 → o_P j := lt_s oq_27 ⟨ok_27, om_27, cw_27⟩
theorem ok_28 : o_all 28 = true := by decide +kernel
theorem om_28 : o_m 28 = true := by decide +kernel
set_option maxRecDepth 100000 in
theorem cw_28 : o_cw 28 := rfl
theorem oq_29 : ∀ j, j < 29 → o_P j := lt_s oq_28 ⟨ok_28, om_28, cw_28⟩
theorem ok_29 : o_all 29 = true := by decide +kernel
theorem om_29 : o_m 29 = true := by decide +kernel
set_option maxRecDepth 100000 in
theorem cw_29 : o_cw 29 := rfl
theorem oq_30 : ∀ j, j < 30 → o_P j := lt_s oq_29 ⟨ok_29, om_29, cw_29⟩
theorem ok_30 : o_all 30 = true := by decide +kernel
theorem om_30 : o_m 30 = true := by decide +kernel
set_option maxRecDepth 100000 in
theorem cw_30 : o_cw 30 := rfl
theorem oq_31 : ∀ j, j < 31 → o_P j := lt_s oq_30 ⟨ok_30, om_30, cw_30⟩
theorem ok_31 : o_all 31 = true := by decide +kernel
theorem om_31 : o_m 31 = true := by decide +kernel
set_option maxRecDepth 100000 in
theorem cw_31 : o_cw 31 := rfl
theorem oq_32 : ∀ j, j < 32 → o_P j := lt_s oq_31 ⟨ok_31, om_31, cw_31⟩
theorem ok_32 : o_all 32 = true := by decide +kernel
theorem om_32 : o_m 32 = true := by decide +kernel
set_option maxRecDepth 100000 in
theorem cw_32 : o_cw 32 := rfl
theorem oq_33 : ∀ j, j < 33 → o_P j := lt_s oq_32 ⟨ok_32, om_32, cw_32⟩
theorem ok_33 : o_all 33 = true := by decide +kernel
theorem om_33 : o_m 33 = true := by decide +kernel
set_option maxRecDepth 100000 in
theorem cw_33 : o_cw 33 := rfl
theorem oq_34 : ∀ j, j < 34 → o_P j := lt_s oq_33 ⟨ok_33, om_33, cw_33⟩
theorem ok_34 : o_all 34 = true := by decide +kernel
theorem om_34 : o_m 34 = true := by decide +kernel
set_option maxRecDepth 100000 in
theorem cw_34 : o_cw 34 := rfl
theorem oq_35 : ∀ j, j < 35 → o_P j := lt_s oq_34 ⟨ok_34, om_34, cw_34⟩
theorem ok_35 : o_all 35 = true := by decide +kernel
theorem om_35 : o_m 35 = true := by decide +kernel
set_option maxRecDepth 100000 in
theorem cw_35 : o_cw 35 := rfl
theorem oq_36 : ∀ j, j < 36 → o_P j := lt_s oq_35 ⟨ok_35, om_35, cw_35⟩
theorem ok_36 : o_all 36 = true := by decide +kernel
theorem om_36 : o_m 36 = true := by decide +kernel
set_option maxRecDepth 100000 in
theorem cw_36 : o_cw 36 := rfl
theorem oq_37 : ∀ j, j < 37 → o_P j := lt_s oq_36 ⟨ok_36, om_36, cw_36⟩
theorem ok_37 : o_all 37 = true := by decide +kernel
theorem om_37 : o_m 37 = true := by decide +kernel
set_option maxRecDepth 100000 in
theorem cw_37 : o_cw 37 := rfl
theorem oq_38 : ∀ j, j < 38 → o_P j := lt_s oq_37 ⟨ok_37, om_37, cw_37⟩
theorem ok_38 : o_all 38 = true := by decide +kernel
theorem om_38 : o_m 38 = true := by decide +kernel
set_option maxRecDepth 100000 in
theorem cw_38 : o_cw 38 := rfl
theorem oq_39 : ∀ j, j < 39 → o_P j := lt_s oq_38 ⟨ok_38, om_38, cw_38⟩
theorem ok_39 : o_all 39 = true := by decide +kernel
theorem om_39 : o_m 39 = true := by decide +kernel
set_option maxRecDepth 100000 in
theorem cw_39 : o_cw 39 := rfl
theorem oq_40 : ∀ j, j < 40 → o_P j := lt_s oq_39 ⟨ok_39, om_39, cw_39⟩
theorem ok_40 : o_all 40 = true := by decide +kernel
theorem om_40 : o_m 40 = true := by decide +kernel
set_option maxRecDepth 100000 in
theorem cw_40 : o_cw 40 := rfl
theorem oq_41 : ∀ j, j < 41 → o_P j := lt_s oq_40 ⟨ok_40, om_40, cw_40⟩
theorem ok_41 : o_all 41 = true := by decide +kernel
theorem om_41 : o_m 41 = true := by decide +kernel
set_option maxRecDepth 100000 in
theorem cw_41 : o_cw 41 := rfl
theorem oq_42 : ∀ j, j < 42 → o_P j := lt_s oq_41 ⟨ok_41, om_41, cw_41⟩
theorem ok_42 : o_all 42 = true := by decide +kernel
theorem om_42 : o_m 42 = true := by decide +kernel
set_option maxRecDepth 100000 in
theorem cw_42 : o_cw 42 := rfl
theorem oq_43 : ∀ j, j < 43 → o_P j := lt_s oq_42 ⟨ok_42, om_42, cw_42⟩
theorem ok_43 : o_all 43 = true := by decide +kernel
theorem om_43 : o_m 43 = true := by decide +kernel
set_option maxRecDepth 100000 in
theorem cw_43 : o_cw 43 := rfl
theorem oq_44 : ∀ j, j < 44 → o_P j := lt_s oq_43 ⟨ok_43, om_43, cw_43⟩
theorem ok_44 : o_all 44 = true := by decide +kernel
theorem om_44 : o_m 44 = true := by decide +kernel
set_option maxRecDepth 100000 in
theorem cw_44 : o_cw 44 := rfl
theorem oq_45 : ∀ j, j < 45 → o_P j := lt_s oq_44 ⟨ok_44, om_44, cw_44⟩
theorem ok_45 : o_all 45 = true := by decide +kernel
theorem om_45 : o_m 45 = true := by decide +kernel
set_option maxRecDepth 100000 in
theorem cw_45 : o_cw 45 := rfl
theorem oq_46 : ∀ j, j < 46 → o_P j := lt_s oq_45 ⟨ok_45, om_45, cw_45⟩
theorem ok_46 : o_all 46 = true := by decide +kernel
theorem om_46 : o_m 46 = true := by decide +kernel
set_option maxRecDepth 100000 in
theorem cw_46 : o_cw 46 := rfl
theorem oq_47 : ∀ j, j < 47 → o_P j := lt_s oq_46 ⟨ok_46, om_46, cw_46⟩
theorem ok_47 : o_all 47 = true := by decide +kernel
theorem om_47 : o_m 47 = true := by decide +kernel
set_option maxRecDepth 100000 in
theorem cw_47 : o_cw 47 := rfl
theorem oq_48 : ∀ j, j < 48 → o_P j := lt_s oq_47 ⟨ok_47, om_47, cw_47⟩
theorem ok_48 : o_all 48 = true := by decide +kernel
theorem om_48 : o_m 48 = true := by decide +kernel
set_option maxRecDepth 100000 in
theorem cw_48 : o_cw 48 := rfl
theorem oq_49 : ∀ j, j < 49 → o_P j := lt_s oq_48 ⟨ok_48, om_48, cw_48⟩
theorem ok_49 : o_all 49 = true := by decide +kernel
theorem om_49 : o_m 49 = true := by decide +kernel
set_option maxRecDepth 100000 in
theorem cw_49 : o_cw 49 := rfl
theorem oq_50 : ∀ j, j < 50 → o_P j := lt_s oq_49 ⟨ok_49, om_49, cw_49⟩
