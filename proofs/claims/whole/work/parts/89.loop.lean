section HOP
variable {n : Nat} {M : mM} {f : Nat → Nat → Int32} {ρ τ κ : Nat → Nat}
theorem hop_0 (h : Rel n M f ρ τ κ) (g : Nat → Int32) : OK2 n M (ev 34 0 (a_ent (h_cd 34).2 (.inr 4 :: c_as 2 g)) [] M) (ev 127 0 (a_ent (h_cd 127).2 (.inr 4 :: c_as 2 g)) [] (mkR f)) := by rw [c_34, c_127]; exact op_load h (g 0) (g 1)
theorem hop_1 (h : Rel n M f ρ τ κ) (g : Nat → Int32) : OK2 n M (ev 35 0 (a_ent (h_cd 35).2 (.inr 4 :: c_as 3 g)) [] M) (ev 128 0 (a_ent (h_cd 128).2 (.inr 4 :: c_as 3 g)) [] (mkR f)) := by rw [c_35, c_128]; exact op_store h (g 0) (g 1) (g 2)
theorem hop_2 (h : Rel n M f ρ τ κ) (g : Nat → Int32) : OK2 n M (ev 36 0 (a_ent (h_cd 36).2 (.inr 4 :: c_as 1 g)) [] M) (ev 130 0 (a_ent (h_cd 130).2 (.inr 4 :: c_as 1 g)) [] (mkR f)) := by rw [c_36, c_130]; exact op_delegate h (g 0)
theorem hop_3 (h : Rel n M f ρ τ κ) (g : Nat → Int32) : OK2 n M (ev 37 0 (a_ent (h_cd 37).2 (.inr 4 :: c_as 1 g)) [] M) (ev 131 0 (a_ent (h_cd 131).2 (.inr 4 :: c_as 1 g)) [] (mkR f)) := by rw [c_37, c_131]; exact op_undelegate h (g 0)
theorem hop_4 (h : Rel n M f ρ τ κ) (g : Nat → Int32) : OK2 n M (ev 38 0 (a_ent (h_cd 38).2 (.inr 4 :: c_as 2 g)) [] M) (ev 132 0 (a_ent (h_cd 132).2 (.inr 4 :: c_as 2 g)) [] (mkR f)) := by rw [c_38, c_132]; exact op_create h (g 0) (g 1)
theorem hop_5 (h : Rel n M f ρ τ κ) (g : Nat → Int32) : OK2 n M (ev 39 0 (a_ent (h_cd 39).2 (.inr 4 :: c_as 1 g)) [] M) (ev 134 0 (a_ent (h_cd 134).2 (.inr 4 :: c_as 1 g)) [] (mkR f)) := by rw [c_39, c_134]; exact op_activate h (g 0)
theorem hop_6 (h : Rel n M f ρ τ κ) (g : Nat → Int32) : OK2 n M (ev 40 0 (a_ent (h_cd 40).2 (.inr 4 :: c_as 1 g)) [] M) (ev 136 0 (a_ent (h_cd 136).2 (.inr 4 :: c_as 1 g)) [] (mkR f)) := by rw [c_40, c_136]; exact op_destroy h (g 0)
theorem hop_7 (h : Rel n M f ρ τ κ) (g : Nat → Int32) : OK2 n M (ev 41 0 (a_ent (h_cd 41).2 (.inr 4 :: c_as 3 g)) [] M) (ev 137 0 (a_ent (h_cd 137).2 (.inr 4 :: c_as 3 g)) [] (mkR f)) := by rw [c_41, c_137]; exact op_rec h (g 0) (g 1) (g 2)
theorem hop_8 (h : Rel n M f ρ τ κ) (g : Nat → Int32) : OK2 n M (ev 42 0 (a_ent (h_cd 42).2 (.inr 4 :: c_as 1 g)) [] M) (ev 138 0 (a_ent (h_cd 138).2 (.inr 4 :: c_as 1 g)) [] (mkR f)) := by rw [c_42, c_138]; exact op_end h (g 0)
theorem hop_9 (h : Rel n M f ρ τ κ) (g : Nat → Int32) : OK2 n M (ev 43 0 (a_ent (h_cd 43).2 (.inr 4 :: c_as 4 g)) [] M) (ev 140 0 (a_ent (h_cd 140).2 (.inr 4 :: c_as 4 g)) [] (mkR f)) := by rw [c_43, c_140]; exact op_table h (g 0) (g 1) (g 2) (g 3)
theorem hop_10 (h : Rel n M f ρ τ κ) (g : Nat → Int32) : OK2 n M (ev 44 0 (a_ent (h_cd 44).2 (.inr 4 :: c_as 3 g)) [] M) (ev 143 0 (a_ent (h_cd 143).2 (.inr 4 :: c_as 3 g)) [] (mkR f)) := by rw [c_44, c_143]; exact op_untable h (g 0) (g 1) (g 2)
theorem hop_11 (h : Rel n M f ρ τ κ) (g : Nat → Int32) : OK2 n M (ev 45 0 (a_ent (h_cd 45).2 (.inr 4 :: c_as 3 g)) [] M) (ev 144 0 (a_ent (h_cd 144).2 (.inr 4 :: c_as 3 g)) [] (mkR f)) := by rw [c_45, c_144]; exact op_fold h (g 0) (g 1) (g 2)
theorem hop_12 (h : Rel n M f ρ τ κ) (g : Nat → Int32) : OK2 n M (ev 46 0 (a_ent (h_cd 46).2 (.inr 4 :: c_as 2 g)) [] M) (ev 145 0 (a_ent (h_cd 145).2 (.inr 4 :: c_as 2 g)) [] (mkR f)) := by rw [c_46, c_145]; exact op_ripas h (g 0) (g 1)
theorem hop_13 (h : Rel n M f ρ τ κ) (g : Nat → Int32) : OK2 n M (ev 47 0 (a_ent (h_cd 47).2 (.inr 4 :: c_as 4 g)) [] M) (ev 148 0 (a_ent (h_cd 148).2 (.inr 4 :: c_as 4 g)) [] (mkR f)) := by rw [c_47, c_148]; exact op_data h (g 0) (g 1) (g 2) (g 3)
theorem hop_14 (h : Rel n M f ρ τ κ) (g : Nat → Int32) : OK2 n M (ev 48 0 (a_ent (h_cd 48).2 (.inr 4 :: c_as 3 g)) [] M) (ev 149 0 (a_ent (h_cd 149).2 (.inr 4 :: c_as 3 g)) [] (mkR f)) := by rw [c_48, c_149]; exact op_unknown h (g 0) (g 1) (g 2)
theorem hop_15 (h : Rel n M f ρ τ κ) (g : Nat → Int32) : OK2 n M (ev 49 0 (a_ent (h_cd 49).2 (.inr 4 :: c_as 2 g)) [] M) (ev 151 0 (a_ent (h_cd 151).2 (.inr 4 :: c_as 2 g)) [] (mkR f)) := by rw [c_49, c_151]; exact op_undata h (g 0) (g 1)
theorem hop_16 (h : Rel n M f ρ τ κ) (g : Nat → Int32) : OK2 n M (ev 50 0 (a_ent (h_cd 50).2 (.inr 4 :: c_as 3 g)) [] M) (ev 152 0 (a_ent (h_cd 152).2 (.inr 4 :: c_as 3 g)) [] (mkR f)) := by rw [c_50, c_152]; exact op_map h (g 0) (g 1) (g 2)
theorem hop_17 (h : Rel n M f ρ τ κ) (g : Nat → Int32) : OK2 n M (ev 51 0 (a_ent (h_cd 51).2 (.inr 4 :: c_as 2 g)) [] M) (ev 153 0 (a_ent (h_cd 153).2 (.inr 4 :: c_as 2 g)) [] (mkR f)) := by rw [c_51, c_153]; exact op_unmap h (g 0) (g 1)
theorem hop_18 (h : Rel n M f ρ τ κ) (g : Nat → Int32) : OK2 n M (ev 52 0 (a_ent (h_cd 52).2 (.inr 4 :: c_as 2 g)) [] M) (ev 155 0 (a_ent (h_cd 155).2 (.inr 4 :: c_as 2 g)) [] (mkR f)) := by rw [c_52, c_155]; exact op_enter h (g 0) (g 1)
theorem hop_19 (h : Rel n M f ρ τ κ) (g : Nat → Int32) : OK2 n M (ev 53 0 (a_ent (h_cd 53).2 (.inr 4 :: c_as 1 g)) [] M) (ev 156 0 (a_ent (h_cd 156).2 (.inr 4 :: c_as 1 g)) [] (mkR f)) := by rw [c_53, c_156]; exact op_change h (g 0)
theorem hop_20 (h : Rel n M f ρ τ κ) (g : Nat → Int32) : OK2 n M (ev 54 0 (a_ent (h_cd 54).2 (.inr 4 :: c_as 2 g)) [] M) (ev 162 0 (a_ent (h_cd 162).2 (.inr 4 :: c_as 2 g)) [] (mkR f)) := by rw [c_54, c_162]; exact op_move h (g 0) (g 1)
theorem hop_21 (h : Rel n M f ρ τ κ) (g : Nat → Int32) : OK2 n M (ev 55 0 (a_ent (h_cd 55).2 (.inr 4 :: c_as 3 g)) [] M) (ev 164 0 (a_ent (h_cd 164).2 (.inr 4 :: c_as 3 g)) [] (mkR f)) := by rw [c_55, c_164]; exact op_fetch h (g 0) (g 1) (g 2)
theorem hop_22 (h : Rel n M f ρ τ κ) (g : Nat → Int32) : OK2 n M (ev 56 0 (a_ent (h_cd 56).2 (.inr 4 :: c_as 3 g)) [] M) (ev 165 0 (a_ent (h_cd 165).2 (.inr 4 :: c_as 3 g)) [] (mkR f)) := by rw [c_56, c_165]; exact op_put h (g 0) (g 1) (g 2)
theorem hop_23 (h : Rel n M f ρ τ κ) (g : Nat → Int32) : OK2 n M (ev 57 0 (a_ent (h_cd 57).2 (.inr 4 :: c_as 0 g)) [] M) (ev 166 0 (a_ent (h_cd 166).2 (.inr 4 :: c_as 0 g)) [] (mkR f)) := by rw [c_57, c_166]; exact op_yield1 h 
theorem hop_24 (h : Rel n M f ρ τ κ) (g : Nat → Int32) : OK2 n M (ev 58 0 (a_ent (h_cd 58).2 (.inr 4 :: c_as 0 g)) [] M) (ev 167 0 (a_ent (h_cd 167).2 (.inr 4 :: c_as 0 g)) [] (mkR f)) := by rw [c_58, c_167]; exact op_off h 
theorem hop_25 (h : Rel n M f ρ τ κ) (g : Nat → Int32) : OK2 n M (ev 59 0 (a_ent (h_cd 59).2 (.inr 4 :: c_as 1 g)) [] M) (ev 168 0 (a_ent (h_cd 168).2 (.inr 4 :: c_as 1 g)) [] (mkR f)) := by rw [c_59, c_168]; exact op_state h (g 0)
theorem hop_26 (h : Rel n M f ρ τ κ) (g : Nat → Int32) : OK2 n M (ev 60 0 (a_ent (h_cd 60).2 (.inr 4 :: c_as 3 g)) [] M) (ev 169 0 (a_ent (h_cd 169).2 (.inr 4 :: c_as 3 g)) [] (mkR f)) := by rw [c_60, c_169]; exact op_ask h (g 0) (g 1) (g 2)
theorem hop_27 (h : Rel n M f ρ τ κ) (g : Nat → Int32) : OK2 n M (ev 61 0 (a_ent (h_cd 61).2 (.inr 4 :: c_as 1 g)) [] M) (ev 170 0 (a_ent (h_cd 170).2 (.inr 4 :: c_as 1 g)) [] (mkR f)) := by rw [c_61, c_170]; exact op_call h (g 0)
theorem hop_28 (h : Rel n M f ρ τ κ) (g : Nat → Int32) : OK2 n M (ev 62 0 (a_ent (h_cd 62).2 (.inr 4 :: c_as 1 g)) [] M) (ev 171 0 (a_ent (h_cd 171).2 (.inr 4 :: c_as 1 g)) [] (mkR f)) := by rw [c_62, c_171]; exact op_measure h (g 0)
theorem hop_29 (h : Rel n M f ρ τ κ) (g : Nat → Int32) : OK2 n M (ev 63 0 (a_ent (h_cd 63).2 (.inr 4 :: c_as 1 g)) [] M) (ev 172 0 (a_ent (h_cd 172).2 (.inr 4 :: c_as 1 g)) [] (mkR f)) := by rw [c_63, c_172]; exact op_extend h (g 0)
theorem hop_30 (h : Rel n M f ρ τ κ) (g : Nat → Int32) : OK2 n M (ev 64 0 (a_ent (h_cd 64).2 (.inr 4 :: c_as 1 g)) [] M) (ev 173 0 (a_ent (h_cd 173).2 (.inr 4 :: c_as 1 g)) [] (mkR f)) := by rw [c_64, c_173]; exact op_attest h (g 0)
theorem hop_31 (h : Rel n M f ρ τ κ) (g : Nat → Int32) : OK2 n M (ev 65 0 (a_ent (h_cd 65).2 (.inr 4 :: c_as 2 g)) [] M) (ev 174 0 (a_ent (h_cd 174).2 (.inr 4 :: c_as 2 g)) [] (mkR f)) := by rw [c_65, c_174]; exact op_granule h (g 0) (g 1)
theorem hop_32 (h : Rel n M f ρ τ κ) (g : Nat → Int32) : OK2 n M (ev 66 0 (a_ent (h_cd 66).2 (.inr 4 :: c_as 2 g)) [] M) (ev 176 0 (a_ent (h_cd 176).2 (.inr 4 :: c_as 2 g)) [] (mkR f)) := by rw [c_66, c_176]; exact op_realm h (g 0) (g 1)
theorem hop_33 (h : Rel n M f ρ τ κ) (g : Nat → Int32) : OK2 n M (ev 67 0 (a_ent (h_cd 67).2 (.inr 4 :: c_as 4 g)) [] M) (ev 177 0 (a_ent (h_cd 177).2 (.inr 4 :: c_as 4 g)) [] (mkR f)) := by rw [c_67, c_177]; exact op_walk h (g 0) (g 1) (g 2) (g 3)
theorem hop_34 (h : Rel n M f ρ τ κ) (g : Nat → Int32) : OK2 n M (ev 68 0 (a_ent (h_cd 68).2 (.inr 4 :: c_as 2 g)) [] M) (ev 178 0 (a_ent (h_cd 178).2 (.inr 4 :: c_as 2 g)) [] (mkR f)) := by rw [c_68, c_178]; exact op_context h (g 0) (g 1)
theorem hop_35 (h : Rel n M f ρ τ κ) (g : Nat → Int32) : OK2 n M (ev 69 0 (a_ent (h_cd 69).2 (.inr 4 :: c_as 3 g)) [] M) (ev 179 0 (a_ent (h_cd 179).2 (.inr 4 :: c_as 3 g)) [] (mkR f)) := by rw [c_69, c_179]; exact op_measured h (g 0) (g 1) (g 2)
theorem hop_36 (h : Rel n M f ρ τ κ) (g : Nat → Int32) : OK2 n M (ev 70 0 (a_ent (h_cd 70).2 (.inr 4 :: c_as 1 g)) [] M) (ev 180 0 (a_ent (h_cd 180).2 (.inr 4 :: c_as 1 g)) [] (mkR f)) := by rw [c_70, c_180]; exact op_count h (g 0)
theorem hop_37 (h : Rel n M f ρ τ κ) (g : Nat → Int32) : OK2 n M (ev 71 0 (a_ent (h_cd 71).2 (.inr 4 :: c_as 0 g)) [] M) (ev 181 0 (a_ent (h_cd 181).2 (.inr 4 :: c_as 0 g)) [] (mkR f)) := by rw [c_71, c_181]; exact op_status h 
theorem hop_38 (h : Rel n M f ρ τ κ) (g : Nat → Int32) : OK2 n M (ev 72 0 (a_ent (h_cd 72).2 (.inr 4 :: c_as 0 g)) [] M) (ev 182 0 (a_ent (h_cd 182).2 (.inr 4 :: c_as 0 g)) [] (mkR f)) := by rw [c_72, c_182]; exact op_astray h 
end HOP
theorem dl_28 : decode code 28 = .ok (.iload_n 3, 1) := by decide +kernel
theorem dl_29 : decode code 29 = .ok (.aload_n 0, 1) := by decide +kernel
theorem dl_30 : decode code 30 = .ok (.arraylength, 1) := by decide +kernel
theorem dl_31 : decode code 31 = .ok (.iconst 5, 1) := by decide +kernel
theorem dl_32 : decode code 32 = .ok (.isub, 1) := by decide +kernel
theorem dl_33 : decode code 33 = .ok (.if_icmp .gt 1432, 3) := by decide +kernel
theorem dl_36 : decode code 36 = .ok (.aload_n 0, 1) := by decide +kernel
theorem dl_37 : decode code 37 = .ok (.iload_n 3, 1) := by decide +kernel
theorem dl_38 : decode code 38 = .ok (.iaload, 1) := by decide +kernel
theorem dl_39 : decode code 39 = .ok (.bipush 63, 2) := by decide +kernel
theorem dl_41 : decode code 41 = .ok (.iand, 1) := by decide +kernel
theorem dl_42 : decode code 42 = .ok (.tableswitch 1417 0 38 #[170, 203, 246, 269, 292, 325, 348, 371, 414, 437, 490, 533, 576, 609, 662, 705, 738, 781, 814, 847, 870, 903, 946, 989, 1002, 1015, 1038, 1081, 1104, 1127, 1150, 1173, 1206, 1239, 1292, 1325, 1368, 1391, 1404], 170) := by decide +kernel
theorem dl_1459 : decode code 1459 = .ok (.iinc 3 5, 3) := by decide +kernel
theorem dl_1462 : decode code 1462 = .ok (.goto (-1434), 3) := by decide +kernel
theorem dl_1465 : decode code 1465 = .ok (.iconst 1, 1) := by decide +kernel
theorem dl_1466 : decode code 1466 = .ok (.ireturn, 1) := by decide +kernel
theorem lw_len {i L : Nat} (hL : L ≤ 2561) (hi : i ≤ 3000) (h1 : 1 ≤ i) : (¬ (Int32.ofNat L - 5 < nI i) → i + 4 < L) := by
  intro h
  have e : Int32.ofNat L = nI L := rfl
  rw [e] at h
  rcases Nat.lt_or_ge L 5 with q | q
  · exfalso
    apply h
    have hi2 : (nI i).toInt = i := nI_toInt (by omega)
    rw [Int32.lt_iff_toInt_lt, hi2]
    rcases (show L = 0 ∨ L = 1 ∨ L = 2 ∨ L = 3 ∨ L = 4 by omega) with rfl | rfl | rfl | rfl | rfl
    · have : (nI 0 - 5).toInt = -5 := by decide
      omega
    · have : (nI 1 - 5).toInt = -4 := by decide
      omega
    · have : (nI 2 - 5).toInt = -3 := by decide
      omega
    · have : (nI 3 - 5).toInt = -2 := by decide
      omega
    · have : (nI 4 - 5).toInt = -1 := by decide
      omega
  · rw [show (5 : Int32) = nI 5 from rfl, pk_sub q] at h
    rcases Nat.lt_or_ge (L - 5) i with q2 | q2
    · exact absurd (nI_lt q2 (by omega)) h
    · omega
section LW
variable {p : Program} {l : Launch} {e : Env} {s : State} {m : MethodId} {below : List Frame} {meth : Method} {c : Code} {D : va_G} {cs : Nat → ClassId} {ad0 : Nat → Nat} {b L : Nat} {xs : Nat → Int32}
set_option maxHeartbeats 8000000 in
set_option maxRecDepth 100000 in
/-- the law's loop -/
theorem lw_loop (C0 : lw_At p s m meth c b L xs) (hK : s_K D cs s) (hSt : s_S s.heap.size ad0 s s.heap) (hL : L ≤ 2561) : ∀ (N t n : Nat) (ad1 ad2 : Nat → Nat) (M : mM) (f : Nat → Nat → Int32) (ρ τ κ : Nat → Nat) (H : Heap) (locs : List Loc) (ls : Array Slot), 513 ≤ t + N → t ≤ 512 → Rel n M f ρ τ κ → L2 s D cs ad0 ad1 M ad2 (mkR f) H locs → lv_has ls 4 [(0, .ref b), (1, .ref (ad1 4)), (2, .ref (ad2 4)), (3, .int (nI (1 + 5 * t)))] → W p l e room_1 s m #[Value.ref b] below meth c H locs (400 + 18 * t) (20000 + 200 * t) (lw_Z below #[Value.ref b] s) (F0 m 28 ls []) := by
  obtain ⟨hx, hb, hr, hml, hown, hts, hX, hbl, hlocks, hgv⟩ := id C0
  have hbA : ¬ (fun q : Nat => s.heap.size ≤ q) b := Nat.not_le.mpr hbl
  intro N
  induction N with
  | zero => intro t n ad1 ad2 M f ρ τ κ H locs ls h1 h2; omega
  | succ N ih =>
    intro t n ad1 ad2 M f ρ τ κ H locs ls h1 h2 hR hL2 hl
    have hS := hL2.2.2.2.2.2.2.2.1
    refine lv_iload_n hx hb dl_28 rfl (lv_at hl 3 rfl) ?_
    refine lv_aload_n hx hb dl_29 rfl (lv_at hl 0 rfl) ?_
    refine va_slen hx hb hX hbl hbA hS dl_30 ?_
    refine lv_iconst (v := 5) hx hb dl_31 (by decide) ?_
    refine lv_isub hx hb dl_32 ?_
    refine lv_icmp_gt (tgt := 1465) hx hb dl_33 (by decide) (fun _ => ?_) (fun hlen => ?_)
    · refine lv_iconst (v := 1) hx hb dl_1465 (by decide) ?_
      refine va_forget (fun q hq => hS.2.2 q hq) ?_
      refine W.widen (k := 628569) (n := 7216541) (by omega) (by omega) ?_
      exact lw_ret hx hb hr hlocks dl_1466
    · have hi := lw_len hL (i := 1 + 5 * t) (by omega) (by omega) hlen
      have next : ∀ (ad1' ad2' : Nat → Nat) (M' : mM) (f' : Nat → Nat → Int32) (ρ' τ' κ' : Nat → Nat) (H' : Heap) (locs' : List Loc), Rel n M' f' ρ' τ' κ' → L2 s D cs ad0 ad1' M' ad2' (mkR f') H' locs' → ad1' 4 = ad1 4 → ad2' 4 = ad2 4 → W p l e room_1 s m #[Value.ref b] below meth c H' locs' (400 + 18 * t + 18) (20000 + 200 * t + 200) (lw_Z below #[Value.ref b] s) (F0 m 1459 ls []) := by
        intro ad1' ad2' M' f' ρ' τ' κ' H' locs' hR' hL' e1 e2
        refine lv_iinc (v := nI (1 + 5 * (t + 1))) (lv' := [(3, .int (nI (1 + 5 * (t + 1)))), (0, .ref b), (1, .ref (ad1 4)), (2, .ref (ad2 4))]) hx hb dl_1459 hl (k := 3) rfl (by rw [show Int32.ofInt 5 = nI 5 from rfl, nI_add, show 1 + 5 * t + 5 = 1 + 5 * (t + 1) by omega]) (by decide) rfl (fun ls' hl' => ?_)
        refine lv_goto (tgt := 28) hx hb dl_1462 (by decide) ?_
        have := ih (t + 1) n ad1' ad2' M' f' ρ' τ' κ' H' locs' ls' (by omega) (by omega) hR' hL' (by rw [e1, e2]; exact lv_sub hl' [1, 2, 3, 0] rfl)
        rw [show 400 + 18 * (t + 1) = 400 + 18 * t + 18 by omega, show 20000 + 200 * (t + 1) = 20000 + 200 * t + 200 by omega] at this
        exact this
      refine lv_aload_n hx hb dl_36 rfl (lv_at hl 0 rfl) ?_
      refine lv_iload_n hx hb dl_37 rfl (lv_at hl 3 rfl) ?_
      refine va_sld hx hb hX hbl hbA hS (i := nI (1 + 5 * t)) (vp_in_nI (by omega) (by omega)) dl_38 ?_
      refine lv_bipush (v := 63) hx hb dl_39 (by decide) ?_
      refine lv_iand hx hb dl_41 ?_
      obtain ⟨j, hj, ej⟩ := pk_andE (xs (nI (1 + 5 * t)).toNatClampNeg) (m := 63) 6 (by decide)
      rw [ej]
      have hj2 : (nI j).toInt = j := nI_toInt (by omega)
      rcases Nat.lt_or_ge 38 j with q | q
      · refine lv_tableOut (tgt := 1459) hx hb dl_42 (Or.inr (by rw [hj2]; omega)) (by decide) ?_
        exact W.widen (k := 400 + 18 * t + 18) (n := 20000 + 200 * t + 200) (by omega) (by omega) (next ad1 ad2 M f ρ τ κ H locs hR hL2 rfl rfl)
      · rcases (show j = 0 ∨ j = 1 ∨ j = 2 ∨ j = 3 ∨ j = 4 ∨ j = 5 ∨ j = 6 ∨ j = 7 ∨ j = 8 ∨ j = 9 ∨ j = 10 ∨ j = 11 ∨ j = 12 ∨ j = 13 ∨ j = 14 ∨ j = 15 ∨ j = 16 ∨ j = 17 ∨ j = 18 ∨ j = 19 ∨ j = 20 ∨ j = 21 ∨ j = 22 ∨ j = 23 ∨ j = 24 ∨ j = 25 ∨ j = 26 ∨ j = 27 ∨ j = 28 ∨ j = 29 ∨ j = 30 ∨ j = 31 ∨ j = 32 ∨ j = 33 ∨ j = 34 ∨ j = 35 ∨ j = 36 ∨ j = 37 ∨ j = 38 by omega) with rfl | rfl | rfl | rfl | rfl | rfl | rfl | rfl | rfl | rfl | rfl | rfl | rfl | rfl | rfl | rfl | rfl | rfl | rfl | rfl | rfl | rfl | rfl | rfl | rfl | rfl | rfl | rfl | rfl | rfl | rfl | rfl | rfl | rfl | rfl | rfl | rfl | rfl | rfl
        · refine lv_tableIn (off := 170) (tgt := 212) hx hb dl_42 (by rw [hj2]; omega) (by rw [hj2]; omega) (by rw [hj2]; rfl) (by decide) ?_
          exact lw_case C0 hK hSt cl_0 hR hL2 hi hL (hop_0 hR) hl (by omega) (by omega) next
        · refine lv_tableIn (off := 203) (tgt := 245) hx hb dl_42 (by rw [hj2]; omega) (by rw [hj2]; omega) (by rw [hj2]; rfl) (by decide) ?_
          exact lw_case C0 hK hSt cl_1 hR hL2 hi hL (hop_1 hR) hl (by omega) (by omega) next
        · refine lv_tableIn (off := 246) (tgt := 288) hx hb dl_42 (by rw [hj2]; omega) (by rw [hj2]; omega) (by rw [hj2]; rfl) (by decide) ?_
          exact lw_case C0 hK hSt cl_2 hR hL2 hi hL (hop_2 hR) hl (by omega) (by omega) next
        · refine lv_tableIn (off := 269) (tgt := 311) hx hb dl_42 (by rw [hj2]; omega) (by rw [hj2]; omega) (by rw [hj2]; rfl) (by decide) ?_
          exact lw_case C0 hK hSt cl_3 hR hL2 hi hL (hop_3 hR) hl (by omega) (by omega) next
        · refine lv_tableIn (off := 292) (tgt := 334) hx hb dl_42 (by rw [hj2]; omega) (by rw [hj2]; omega) (by rw [hj2]; rfl) (by decide) ?_
          exact lw_case C0 hK hSt cl_4 hR hL2 hi hL (hop_4 hR) hl (by omega) (by omega) next
        · refine lv_tableIn (off := 325) (tgt := 367) hx hb dl_42 (by rw [hj2]; omega) (by rw [hj2]; omega) (by rw [hj2]; rfl) (by decide) ?_
          exact lw_case C0 hK hSt cl_5 hR hL2 hi hL (hop_5 hR) hl (by omega) (by omega) next
        · refine lv_tableIn (off := 348) (tgt := 390) hx hb dl_42 (by rw [hj2]; omega) (by rw [hj2]; omega) (by rw [hj2]; rfl) (by decide) ?_
          exact lw_case C0 hK hSt cl_6 hR hL2 hi hL (hop_6 hR) hl (by omega) (by omega) next
        · refine lv_tableIn (off := 371) (tgt := 413) hx hb dl_42 (by rw [hj2]; omega) (by rw [hj2]; omega) (by rw [hj2]; rfl) (by decide) ?_
          exact lw_case C0 hK hSt cl_7 hR hL2 hi hL (hop_7 hR) hl (by omega) (by omega) next
        · refine lv_tableIn (off := 414) (tgt := 456) hx hb dl_42 (by rw [hj2]; omega) (by rw [hj2]; omega) (by rw [hj2]; rfl) (by decide) ?_
          exact lw_case C0 hK hSt cl_8 hR hL2 hi hL (hop_8 hR) hl (by omega) (by omega) next
        · refine lv_tableIn (off := 437) (tgt := 479) hx hb dl_42 (by rw [hj2]; omega) (by rw [hj2]; omega) (by rw [hj2]; rfl) (by decide) ?_
          exact lw_case C0 hK hSt cl_9 hR hL2 hi hL (hop_9 hR) hl (by omega) (by omega) next
        · refine lv_tableIn (off := 490) (tgt := 532) hx hb dl_42 (by rw [hj2]; omega) (by rw [hj2]; omega) (by rw [hj2]; rfl) (by decide) ?_
          exact lw_case C0 hK hSt cl_10 hR hL2 hi hL (hop_10 hR) hl (by omega) (by omega) next
        · refine lv_tableIn (off := 533) (tgt := 575) hx hb dl_42 (by rw [hj2]; omega) (by rw [hj2]; omega) (by rw [hj2]; rfl) (by decide) ?_
          exact lw_case C0 hK hSt cl_11 hR hL2 hi hL (hop_11 hR) hl (by omega) (by omega) next
        · refine lv_tableIn (off := 576) (tgt := 618) hx hb dl_42 (by rw [hj2]; omega) (by rw [hj2]; omega) (by rw [hj2]; rfl) (by decide) ?_
          exact lw_case C0 hK hSt cl_12 hR hL2 hi hL (hop_12 hR) hl (by omega) (by omega) next
        · refine lv_tableIn (off := 609) (tgt := 651) hx hb dl_42 (by rw [hj2]; omega) (by rw [hj2]; omega) (by rw [hj2]; rfl) (by decide) ?_
          exact lw_case C0 hK hSt cl_13 hR hL2 hi hL (hop_13 hR) hl (by omega) (by omega) next
        · refine lv_tableIn (off := 662) (tgt := 704) hx hb dl_42 (by rw [hj2]; omega) (by rw [hj2]; omega) (by rw [hj2]; rfl) (by decide) ?_
          exact lw_case C0 hK hSt cl_14 hR hL2 hi hL (hop_14 hR) hl (by omega) (by omega) next
        · refine lv_tableIn (off := 705) (tgt := 747) hx hb dl_42 (by rw [hj2]; omega) (by rw [hj2]; omega) (by rw [hj2]; rfl) (by decide) ?_
          exact lw_case C0 hK hSt cl_15 hR hL2 hi hL (hop_15 hR) hl (by omega) (by omega) next
        · refine lv_tableIn (off := 738) (tgt := 780) hx hb dl_42 (by rw [hj2]; omega) (by rw [hj2]; omega) (by rw [hj2]; rfl) (by decide) ?_
          exact lw_case C0 hK hSt cl_16 hR hL2 hi hL (hop_16 hR) hl (by omega) (by omega) next
        · refine lv_tableIn (off := 781) (tgt := 823) hx hb dl_42 (by rw [hj2]; omega) (by rw [hj2]; omega) (by rw [hj2]; rfl) (by decide) ?_
          exact lw_case C0 hK hSt cl_17 hR hL2 hi hL (hop_17 hR) hl (by omega) (by omega) next
        · refine lv_tableIn (off := 814) (tgt := 856) hx hb dl_42 (by rw [hj2]; omega) (by rw [hj2]; omega) (by rw [hj2]; rfl) (by decide) ?_
          exact lw_case C0 hK hSt cl_18 hR hL2 hi hL (hop_18 hR) hl (by omega) (by omega) next
        · refine lv_tableIn (off := 847) (tgt := 889) hx hb dl_42 (by rw [hj2]; omega) (by rw [hj2]; omega) (by rw [hj2]; rfl) (by decide) ?_
          exact lw_case C0 hK hSt cl_19 hR hL2 hi hL (hop_19 hR) hl (by omega) (by omega) next
        · refine lv_tableIn (off := 870) (tgt := 912) hx hb dl_42 (by rw [hj2]; omega) (by rw [hj2]; omega) (by rw [hj2]; rfl) (by decide) ?_
          exact lw_case C0 hK hSt cl_20 hR hL2 hi hL (hop_20 hR) hl (by omega) (by omega) next
        · refine lv_tableIn (off := 903) (tgt := 945) hx hb dl_42 (by rw [hj2]; omega) (by rw [hj2]; omega) (by rw [hj2]; rfl) (by decide) ?_
          exact lw_case C0 hK hSt cl_21 hR hL2 hi hL (hop_21 hR) hl (by omega) (by omega) next
        · refine lv_tableIn (off := 946) (tgt := 988) hx hb dl_42 (by rw [hj2]; omega) (by rw [hj2]; omega) (by rw [hj2]; rfl) (by decide) ?_
          exact lw_case C0 hK hSt cl_22 hR hL2 hi hL (hop_22 hR) hl (by omega) (by omega) next
        · refine lv_tableIn (off := 989) (tgt := 1031) hx hb dl_42 (by rw [hj2]; omega) (by rw [hj2]; omega) (by rw [hj2]; rfl) (by decide) ?_
          exact lw_case C0 hK hSt cl_23 hR hL2 hi hL (hop_23 hR) hl (by omega) (by omega) next
        · refine lv_tableIn (off := 1002) (tgt := 1044) hx hb dl_42 (by rw [hj2]; omega) (by rw [hj2]; omega) (by rw [hj2]; rfl) (by decide) ?_
          exact lw_case C0 hK hSt cl_24 hR hL2 hi hL (hop_24 hR) hl (by omega) (by omega) next
        · refine lv_tableIn (off := 1015) (tgt := 1057) hx hb dl_42 (by rw [hj2]; omega) (by rw [hj2]; omega) (by rw [hj2]; rfl) (by decide) ?_
          exact lw_case C0 hK hSt cl_25 hR hL2 hi hL (hop_25 hR) hl (by omega) (by omega) next
        · refine lv_tableIn (off := 1038) (tgt := 1080) hx hb dl_42 (by rw [hj2]; omega) (by rw [hj2]; omega) (by rw [hj2]; rfl) (by decide) ?_
          exact lw_case C0 hK hSt cl_26 hR hL2 hi hL (hop_26 hR) hl (by omega) (by omega) next
        · refine lv_tableIn (off := 1081) (tgt := 1123) hx hb dl_42 (by rw [hj2]; omega) (by rw [hj2]; omega) (by rw [hj2]; rfl) (by decide) ?_
          exact lw_case C0 hK hSt cl_27 hR hL2 hi hL (hop_27 hR) hl (by omega) (by omega) next
        · refine lv_tableIn (off := 1104) (tgt := 1146) hx hb dl_42 (by rw [hj2]; omega) (by rw [hj2]; omega) (by rw [hj2]; rfl) (by decide) ?_
          exact lw_case C0 hK hSt cl_28 hR hL2 hi hL (hop_28 hR) hl (by omega) (by omega) next
        · refine lv_tableIn (off := 1127) (tgt := 1169) hx hb dl_42 (by rw [hj2]; omega) (by rw [hj2]; omega) (by rw [hj2]; rfl) (by decide) ?_
          exact lw_case C0 hK hSt cl_29 hR hL2 hi hL (hop_29 hR) hl (by omega) (by omega) next
        · refine lv_tableIn (off := 1150) (tgt := 1192) hx hb dl_42 (by rw [hj2]; omega) (by rw [hj2]; omega) (by rw [hj2]; rfl) (by decide) ?_
          exact lw_case C0 hK hSt cl_30 hR hL2 hi hL (hop_30 hR) hl (by omega) (by omega) next
        · refine lv_tableIn (off := 1173) (tgt := 1215) hx hb dl_42 (by rw [hj2]; omega) (by rw [hj2]; omega) (by rw [hj2]; rfl) (by decide) ?_
          exact lw_case C0 hK hSt cl_31 hR hL2 hi hL (hop_31 hR) hl (by omega) (by omega) next
        · refine lv_tableIn (off := 1206) (tgt := 1248) hx hb dl_42 (by rw [hj2]; omega) (by rw [hj2]; omega) (by rw [hj2]; rfl) (by decide) ?_
          exact lw_case C0 hK hSt cl_32 hR hL2 hi hL (hop_32 hR) hl (by omega) (by omega) next
        · refine lv_tableIn (off := 1239) (tgt := 1281) hx hb dl_42 (by rw [hj2]; omega) (by rw [hj2]; omega) (by rw [hj2]; rfl) (by decide) ?_
          exact lw_case C0 hK hSt cl_33 hR hL2 hi hL (hop_33 hR) hl (by omega) (by omega) next
        · refine lv_tableIn (off := 1292) (tgt := 1334) hx hb dl_42 (by rw [hj2]; omega) (by rw [hj2]; omega) (by rw [hj2]; rfl) (by decide) ?_
          exact lw_case C0 hK hSt cl_34 hR hL2 hi hL (hop_34 hR) hl (by omega) (by omega) next
        · refine lv_tableIn (off := 1325) (tgt := 1367) hx hb dl_42 (by rw [hj2]; omega) (by rw [hj2]; omega) (by rw [hj2]; rfl) (by decide) ?_
          exact lw_case C0 hK hSt cl_35 hR hL2 hi hL (hop_35 hR) hl (by omega) (by omega) next
        · refine lv_tableIn (off := 1368) (tgt := 1410) hx hb dl_42 (by rw [hj2]; omega) (by rw [hj2]; omega) (by rw [hj2]; rfl) (by decide) ?_
          exact lw_case C0 hK hSt cl_36 hR hL2 hi hL (hop_36 hR) hl (by omega) (by omega) next
        · refine lv_tableIn (off := 1391) (tgt := 1433) hx hb dl_42 (by rw [hj2]; omega) (by rw [hj2]; omega) (by rw [hj2]; rfl) (by decide) ?_
          exact lw_case C0 hK hSt cl_37 hR hL2 hi hL (hop_37 hR) hl (by omega) (by omega) next
        · refine lv_tableIn (off := 1404) (tgt := 1446) hx hb dl_42 (by rw [hj2]; omega) (by rw [hj2]; omega) (by rw [hj2]; rfl) (by decide) ?_
          exact lw_case C0 hK hSt cl_38 hR hL2 hi hL (hop_38 hR) hl (by omega) (by omega) next
end LW
