/-! the checks, method by method -/
theorem ok_50 : o_all 50 = true := by decide +kernel
theorem om_50 : o_m 50 = true := by decide +kernel
set_option maxRecDepth 100000 in
theorem cw_50 : o_cw 50 := rfl
theorem oq_51 : ∀ j, j < 51 → o_P j := lt_s oq_50 ⟨ok_50, om_50, cw_50⟩
theorem ok_51 : o_all 51 = true := by decide +kernel
theorem om_51 : o_m 51 = true := by decide +kernel
set_option maxRecDepth 100000 in
theorem cw_51 : o_cw 51 := rfl
theorem oq_52 : ∀ j, j < 52 → o_P j := lt_s oq_51 ⟨ok_51, om_51, cw_51⟩
theorem ok_52 : o_all 52 = true := by decide +kernel
theorem om_52 : o_m 52 = true := by decide +kernel
set_option maxRecDepth 100000 in
theorem cw_52 : o_cw 52 := rfl
theorem oq_53 : ∀ j, j < 53 → o_P j := lt_s oq_52 ⟨ok_52, om_52, cw_52⟩
theorem ok_53 : o_all 53 = true := by decide +kernel
theorem om_53 : o_m 53 = true := by decide +kernel
set_option maxRecDepth 100000 in
theorem cw_53 : o_cw 53 := rfl
theorem oq_54 : ∀ j, j < 54 → o_P j := lt_s oq_53 ⟨ok_53, om_53, cw_53⟩
theorem ok_54 : o_all 54 = true := by decide +kernel
theorem om_54 : o_m 54 = true := by decide +kernel
set_option maxRecDepth 100000 in
theorem cw_54 : o_cw 54 := rfl
theorem oq_55 : ∀ j, j < 55 → o_P j := lt_s oq_54 ⟨ok_54, om_54, cw_54⟩
theorem ok_55 : o_all 55 = true := by decide +kernel
theorem om_55 : o_m 55 = true := by decide +kernel
set_option maxRecDepth 100000 in
theorem cw_55 : o_cw 55 := rfl
theorem oq_56 : ∀ j, j < 56 → o_P j := lt_s oq_55 ⟨ok_55, om_55, cw_55⟩
theorem ok_56 : o_all 56 = true := by decide +kernel
theorem om_56 : o_m 56 = true := by decide +kernel
set_option maxRecDepth 100000 in
theorem cw_56 : o_cw 56 := rfl
theorem oq_57 : ∀ j, j < 57 → o_P j := lt_s oq_56 ⟨ok_56, om_56, cw_56⟩
theorem ok_57 : o_all 57 = true := by decide +kernel
theorem om_57 : o_m 57 = true := by decide +kernel
set_option maxRecDepth 100000 in
theorem cw_57 : o_cw 57 := rfl
theorem oq_58 : ∀ j, j < 58 → o_P j := lt_s oq_57 ⟨ok_57, om_57, cw_57⟩
theorem ok_58 : o_all 58 = true := by decide +kernel
theorem om_58 : o_m 58 = true := by decide +kernel
set_option maxRecDepth 100000 in
theorem cw_58 : o_cw 58 := rfl
theorem oq_59 : ∀ j, j < 59 → o_P j := lt_s oq_58 ⟨ok_58, om_58, cw_58⟩
theorem ok_59 : o_all 59 = true := by decide +kernel
theorem om_59 : o_m 59 = true := by decide +kernel
set_option maxRecDepth 100000 in
theorem cw_59 : o_cw 59 := rfl
theorem oq_60 : ∀ j, j < 60 → o_P j := lt_s oq_59 ⟨ok_59, om_59, cw_59⟩
theorem ok_60 : o_all 60 = true := by decide +kernel
theorem om_60 : o_m 60 = true := by decide +kernel
set_option maxRecDepth 100000 in
theorem cw_60 : o_cw 60 := rfl
theorem oq_61 : ∀ j, j < 61 → o_P j := lt_s oq_60 ⟨ok_60, om_60, cw_60⟩
theorem ok_61 : o_all 61 = true := by decide +kernel
theorem om_61 : o_m 61 = true := by decide +kernel
set_option maxRecDepth 100000 in
theorem cw_61 : o_cw 61 := rfl
theorem oq_62 : ∀ j, j < 62 → o_P j := lt_s oq_61 ⟨ok_61, om_61, cw_61⟩
theorem ok_62 : o_all 62 = true := by decide +kernel
theorem om_62 : o_m 62 = true := by decide +kernel
set_option maxRecDepth 100000 in
theorem cw_62 : o_cw 62 := rfl
theorem oq_63 : ∀ j, j < 63 → o_P j := lt_s oq_62 ⟨ok_62, om_62, cw_62⟩
theorem ok_63 : o_all 63 = true := by decide +kernel
theorem om_63 : o_m 63 = true := by decide +kernel
set_option maxRecDepth 100000 in
theorem cw_63 : o_cw 63 := rfl
theorem oq_64 : ∀ j, j < 64 → o_P j := lt_s oq_63 ⟨ok_63, om_63, cw_63⟩
theorem ok_64 : o_all 64 = true := by decide +kernel
theorem om_64 : o_m 64 = true := by decide +kernel
set_option maxRecDepth 100000 in
theorem cw_64 : o_cw 64 := rfl
theorem oq_65 : ∀ j, j < 65 → o_P j := lt_s oq_64 ⟨ok_64, om_64, cw_64⟩
theorem ok_65 : o_all 65 = true := by decide +kernel
theorem om_65 : o_m 65 = true := by decide +kernel
set_option maxRecDepth 100000 in
theorem cw_65 : o_cw 65 := rfl
theorem oq_66 : ∀ j, j < 66 → o_P j := lt_s oq_65 ⟨ok_65, om_65, cw_65⟩
theorem ok_66 : o_all 66 = true := by decide +kernel
theorem om_66 : o_m 66 = true := by decide +kernel
set_option maxRecDepth 100000 in
theorem cw_66 : o_cw 66 := rfl
theorem oq_67 : ∀ j, j < 67 → o_P j := lt_s oq_66 ⟨ok_66, om_66, cw_66⟩
theorem ok_67 : o_all 67 = true := by decide +kernel
theorem om_67 : o_m 67 = true := by decide +kernel
set_option maxRecDepth 100000 in
theorem cw_67 : o_cw 67 := rfl
theorem oq_68 : ∀ j, j < 68 → o_P j := lt_s oq_67 ⟨ok_67, om_67, cw_67⟩
theorem ok_68 : o_all 68 = true := by decide +kernel
theorem om_68 : o_m 68 = true := by decide +kernel
set_option maxRecDepth 100000 in
theorem cw_68 : o_cw 68 := rfl
theorem oq_69 : ∀ j, j < 69 → o_P j := lt_s oq_68 ⟨ok_68, om_68, cw_68⟩
theorem ok_69 : o_all 69 = true := by decide +kernel
theorem om_69 : o_m 69 = true := by decide +kernel
set_option maxRecDepth 100000 in
theorem cw_69 : o_cw 69 := rfl
theorem oq_70 : ∀ j, j < 70 → o_P j := lt_s oq_69 ⟨ok_69, om_69, cw_69⟩
theorem ok_70 : o_all 70 = true := by decide +kernel
theorem om_70 : o_m 70 = true := by decide +kernel
set_option maxRecDepth 100000 in
theorem cw_70 : o_cw 70 := rfl
theorem oq_71 : ∀ j, j < 71 → o_P j := lt_s oq_70 ⟨ok_70, om_70, cw_70⟩
theorem ok_71 : o_all 71 = true := by decide +kernel
theorem om_71 : o_m 71 = true := by decide +kernel
set_option maxRecDepth 100000 in
theorem cw_71 : o_cw 71 := rfl
theorem oq_72 : ∀ j, j < 72 → o_P j := lt_s oq_71 ⟨ok_71, om_71, cw_71⟩
theorem ok_72 : o_all 72 = true := by decide +kernel
theorem om_72 : o_m 72 = true := by decide +kernel
set_option maxRecDepth 100000 in
theorem cw_72 : o_cw 72 := rfl
theorem oq_73 : ∀ j, j < 73 → o_P j := lt_s oq_72 ⟨ok_72, om_72, cw_72⟩
theorem ok_73 : o_all 73 = true := by decide +kernel
theorem om_73 : o_m 73 = true := by decide +kernel
set_option maxRecDepth 100000 in
theorem cw_73 : o_cw 73 := rfl
theorem oq_74 : ∀ j, j < 74 → o_P j := lt_s oq_73 ⟨ok_73, om_73, cw_73⟩
theorem ok_74 : o_all 74 = true := by decide +kernel
theorem om_74 : o_m 74 = true := by decide +kernel
set_option maxRecDepth 100000 in
theorem cw_74 : o_cw 74 := rfl
theorem oq_75 : ∀ j, j < 75 → o_P j := lt_s oq_74 ⟨ok_74, om_74, cw_74⟩
theorem ok_75 : o_all 75 = true := by decide +kernel
theorem om_75 : o_m 75 = true := by decide +kernel
set_option maxRecDepth 100000 in
theorem cw_75 : o_cw 75 := rfl
theorem oq_76 : ∀ j, j < 76 → o_P j := lt_s oq_75 ⟨ok_75, om_75, cw_75⟩
theorem ok_76 : o_all 76 = true := by decide +kernel
theorem om_76 : o_m 76 = true := by decide +kernel
set_option maxRecDepth 100000 in
theorem cw_76 : o_cw 76 := rfl
theorem oq_77 : ∀ j, j < 77 → o_P j := lt_s oq_76 ⟨ok_76, om_76, cw_76⟩
theorem ok_77 : o_all 77 = true := by decide +kernel
theorem om_77 : o_m 77 = true := by decide +kernel
set_option maxRecDepth 100000 in
theorem cw_77 : o_cw 77 := rfl
theorem oq_78 : ∀ j, j < 78 → o_P j := lt_s oq_77 ⟨ok_77, om_77, cw_77⟩
theorem ok_78 : o_all 78 = true := by decide +kernel
theorem om_78 : o_m 78 = true := by decide +kernel
set_option maxRecDepth 100000 in
theorem cw_78 : o_cw 78 := rfl
theorem oq_79 : ∀ j, j < 79 → o_P j := lt_s oq_78 ⟨ok_78, om_78, cw_78⟩
theorem ok_79 : o_all 79 = true := by decide +kernel
theorem om_79 : o_m 79 = true := by decide +kernel
set_option maxRecDepth 100000 in
theorem cw_79 : o_cw 79 := rfl
theorem oq_80 : ∀ j, j < 80 → o_P j := lt_s oq_79 ⟨ok_79, om_79, cw_79⟩
theorem ok_80 : o_all 80 = true := by decide +kernel
theorem om_80 : o_m 80 = true := by decide +kernel
set_option maxRecDepth 100000 in
theorem cw_80 : o_cw 80 := rfl
theorem oq_81 : ∀ j, j < 81 → o_P j := lt_s oq_80 ⟨ok_80, om_80, cw_80⟩
theorem ok_81 : o_all 81 = true := by decide +kernel
theorem om_81 : o_m 81 = true := by decide +kernel
set_option maxRecDepth 100000 in
theorem cw_81 : o_cw 81 := rfl
theorem oq_82 : ∀ j, j < 82 → o_P j := lt_s oq_81 ⟨ok_81, om_81, cw_81⟩
theorem ok_82 : o_all 82 = true := by decide +kernel
theorem om_82 : o_m 82 = true := by decide +kernel
set_option maxRecDepth 100000 in
theorem cw_82 : o_cw 82 := rfl
theorem oq_83 : ∀ j, j < 83 → o_P j := lt_s oq_82 ⟨ok_82, om_82, cw_82⟩
theorem ok_83 : o_all 83 = true := by decide +kernel
theorem om_83 : o_m 83 = true := by decide +kernel
set_option maxRecDepth 100000 in
theorem cw_83 : o_cw 83 := rfl
theorem oq_84 : ∀ j, j < 84 → o_P j := lt_s oq_83 ⟨ok_83, om_83, cw_83⟩
theorem ok_84 : o_all 84 = true := by decide +kernel
theorem om_84 : o_m 84 = true := by decide +kernel
set_option maxRecDepth 100000 in
theorem cw_84 : o_cw 84 := rfl
theorem oq_85 : ∀ j, j < 85 → o_P j := lt_s oq_84 ⟨ok_84, om_84, cw_84⟩
theorem ok_85 : o_all 85 = true := by decide +kernel
theorem om_85 : o_m 85 = true := by decide +kernel
set_option maxRecDepth 100000 in
theorem cw_85 : o_cw 85 := rfl
theorem oq_86 : ∀ j, j < 86 → o_P j := lt_s oq_85 ⟨ok_85, om_85, cw_85⟩
theorem ok_86 : o_all 86 = true := by decide +kernel
theorem om_86 : o_m 86 = true := by decide +kernel
set_option maxRecDepth 100000 in
theorem cw_86 : o_cw 86 := rfl
theorem oq_87 : ∀ j, j < 87 → o_P j := lt_s oq_86 ⟨ok_86, om_86, cw_86⟩
theorem ok_87 : o_all 87 = true := by decide +kernel
theorem om_87 : o_m 87 = true := by decide +kernel
set_option maxRecDepth 100000 in
theorem cw_87 : o_cw 87 := rfl
theorem oq_88 : ∀ j, j < 88 → o_P j := lt_s oq_87 ⟨ok_87, om_87, cw_87⟩
theorem ok_88 : o_all 88 = true := by decide +kernel
theorem om_88 : o_m 88 = true := by decide +kernel
set_option maxRecDepth 100000 in
theorem cw_88 : o_cw 88 := rfl
theorem oq_89 : ∀ j, j < 89 → o_P j := lt_s oq_88 ⟨ok_88, om_88, cw_88⟩
theorem ok_89 : o_all 89 = true := by decide +kernel
theorem om_89 : o_m 89 = true := by decide +kernel
set_option maxRecDepth 100000 in
theorem cw_89 : o_cw 89 := rfl
theorem oq_90 : ∀ j, j < 90 → o_P j := lt_s oq_89 ⟨ok_89, om_89, cw_89⟩
theorem ok_90 : o_all 90 = true := by decide +kernel
theorem om_90 : o_m 90 = true := by decide +kernel
set_option maxRecDepth 100000 in
theorem cw_90 : o_cw 90 := rfl
theorem oq_91 : ∀ j, j < 91 → o_P j := lt_s oq_90 ⟨ok_90, om_90, cw_90⟩
theorem ok_91 : o_all 91 = true := by decide +kernel
theorem om_91 : o_m 91 = true := by decide +kernel
set_option maxRecDepth 100000 in
theorem cw_91 : o_cw 91 := rfl
theorem oq_92 : ∀ j, j < 92 → o_P j := lt_s oq_91 ⟨ok_91, om_91, cw_91⟩
theorem ok_92 : o_all 92 = true := by decide +kernel
theorem om_92 : o_m 92 = true := by decide +kernel
set_option maxRecDepth 100000 in
theorem cw_92 : o_cw 92 := rfl
theorem oq_93 : ∀ j, j < 93 → o_P j := lt_s oq_92 ⟨ok_92, om_92, cw_92⟩
theorem ok_93 : o_all 93 = true := by decide +kernel
theorem om_93 : o_m 93 = true := by decide +kernel
set_option maxRecDepth 100000 in
theorem cw_93 : o_cw 93 := rfl
theorem oq_94 : ∀ j, j < 94 → o_P j := lt_s oq_93 ⟨ok_93, om_93, cw_93⟩
theorem ok_94 : o_all 94 = true := by decide +kernel
theorem om_94 : o_m 94 = true := by decide +kernel
set_option maxRecDepth 100000 in
theorem cw_94 : o_cw 94 := rfl
theorem oq_95 : ∀ j, j < 95 → o_P j := lt_s oq_94 ⟨ok_94, om_94, cw_94⟩
theorem ok_95 : o_all 95 = true := by decide +kernel
theorem om_95 : o_m 95 = true := by decide +kernel
set_option maxRecDepth 100000 in
theorem cw_95 : o_cw 95 := rfl
theorem oq_96 : ∀ j, j < 96 → o_P j := lt_s oq_95 ⟨ok_95, om_95, cw_95⟩
theorem ok_96 : o_all 96 = true := by decide +kernel
theorem om_96 : o_m 96 = true := by decide +kernel
set_option maxRecDepth 100000 in
theorem cw_96 : o_cw 96 := rfl
theorem oq_97 : ∀ j, j < 97 → o_P j := lt_s oq_96 ⟨ok_96, om_96, cw_96⟩
theorem ok_97 : o_all 97 = true := by decide +kernel
theorem om_97 : o_m 97 = true := by decide +kernel
set_option maxRecDepth 100000 in
theorem cw_97 : o_cw 97 := rfl
theorem oq_98 : ∀ j, j < 98 → o_P j := lt_s oq_97 ⟨ok_97, om_97, cw_97⟩
theorem ok_98 : o_all 98 = true := by decide +kernel
theorem om_98 : o_m 98 = true := by decide +kernel
set_option maxRecDepth 100000 in
theorem cw_98 : o_cw 98 := rfl
theorem oq_99 : ∀ j, j < 99 → o_P j := lt_s oq_98 ⟨ok_98, om_98, cw_98⟩
theorem ok_99 : o_all 99 = true := by decide +kernel
theorem om_99 : o_m 99 = true := by decide +kernel
set_option maxRecDepth 100000 in
theorem cw_99 : o_cw 99 := rfl
theorem oq_100 : ∀ j, j < 100 → o_P j := lt_s oq_99 ⟨ok_99, om_99, cw_99⟩
theorem ok_100 : o_all 100 = true := by decide +kernel
theorem om_100 : o_m 100 = true := by decide +kernel
set_option maxRecDepth 100000 in
theorem cw_100 : o_cw 100 := rfl
theorem oq_101 : ∀ j, j < 101 → o_P j := lt_s oq_100 ⟨ok_100, om_100, cw_100⟩
theorem ok_101 : o_all 101 = true := by decide +kernel
theorem om_101 : o_m 101 = true := by decide +kernel
set_option maxRecDepth 100000 in
theorem cw_101 : o_cw 101 := rfl
theorem oq_102 : ∀ j, j < 102 → o_P j := lt_s oq_101 ⟨ok_101, om_101, cw_101⟩
theorem ok_102 : o_all 102 = true := by decide +kernel
theorem om_102 : o_m 102 = true := by decide +kernel
set_option maxRecDepth 100000 in
theorem cw_102 : o_cw 102 := rfl
theorem oq_103 : ∀ j, j < 103 → o_P j := lt_s oq_102 ⟨ok_102, om_102, cw_102⟩
theorem ok_103 : o_all 103 = true := by decide +kernel
theorem om_103 : o_m 103 = true := by decide +kernel
set_option maxRecDepth 100000 in
theorem cw_103 : o_cw 103 := rfl
theorem oq_104 : ∀ j, j < 104 → o_P j := lt_s oq_103 ⟨ok_103, om_103, cw_103⟩
