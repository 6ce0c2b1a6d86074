/-! instruction by instruction: fields and arrays -/
theorem n_si (M : mM) (a k : Nat) (x : Int32) : h_n (h_si M a k x) = h_n M := rfl
theorem v_si (M : mM) (a k : Nat) (x : Int32) : h_v (h_si M a k x) = h_v M := rfl
theorem k_si (M : mM) (a k : Nat) (x : Int32) (b : Nat) : h_k (h_si M a k x) b = h_k M b := rfl
theorem l_si (M : mM) (a k : Nat) (x : Int32) (b : Nat) : h_l (h_si M a k x) b = h_l M b := rfl
theorem i_si (M : mM) (a k : Nat) (x : Int32) (b j : Nat) : h_i (h_si M a k x) b j = if b = a ∧ j = k then x else h_i M b j := rfl
theorem r_si (M : mM) (a k : Nat) (x : Int32) (b j : Nat) : h_r (h_si M a k x) b j = h_r M b j := rfl
theorem n_sr (M : mM) (a k r : Nat) : h_n (h_sr M a k r) = h_n M := rfl
theorem v_sr (M : mM) (a k r : Nat) : h_v (h_sr M a k r) = h_v M := rfl
theorem k_sr (M : mM) (a k r b : Nat) : h_k (h_sr M a k r) b = h_k M b := rfl
theorem l_sr (M : mM) (a k r b : Nat) : h_l (h_sr M a k r) b = h_l M b := rfl
theorem i_sr (M : mM) (a k r b j : Nat) : h_i (h_sr M a k r) b j = h_i M b j := rfl
theorem r_sr (M : mM) (a k r b j : Nat) : h_r (h_sr M a k r) b j = if b = a ∧ j = k then r else h_r M b j := rfl
theorem n_al (M : mM) (t n : Nat) : h_n (h_al M t n) = h_n M + 1 := rfl
theorem v_al (M : mM) (t n : Nat) : h_v (h_al M t n) = h_v M + n := rfl
theorem k_al (M : mM) (t n b : Nat) : h_k (h_al M t n) b = if b = h_n M + 1 then t else h_k M b := rfl
theorem l_al (M : mM) (t n b : Nat) : h_l (h_al M t n) b = if b = h_n M + 1 then n else h_l M b := rfl
theorem i_al (M : mM) (t n b j : Nat) : h_i (h_al M t n) b j = if b = h_n M + 1 then 0 else h_i M b j := rfl
theorem r_al (M : mM) (t n b j : Nat) : h_r (h_al M t n) b j = if b = h_n M + 1 then 0 else h_r M b j := rfl
theorem n_cp (M : mM) (a s b d n : Nat) : h_n (h_cp M a s b d n) = h_n M := rfl
theorem v_cp (M : mM) (a s b d n : Nat) : h_v (h_cp M a s b d n) = h_v M := rfl
theorem k_cp (M : mM) (a s b d n x : Nat) : h_k (h_cp M a s b d n) x = h_k M x := rfl
theorem l_cp (M : mM) (a s b d n x : Nat) : h_l (h_cp M a s b d n) x = h_l M x := rfl
theorem i_cp (M : mM) (a s b d n x j : Nat) : h_i (h_cp M a s b d n) x j = if x = b ∧ d ≤ j ∧ j < d + n then h_i M a (s + (j - d)) else h_i M x j := rfl
theorem r_cp (M : mM) (a s b d n x j : Nat) : h_r (h_cp M a s b d n) x j = h_r M x j := rfl
theorem n_mn (M : mM) (N K : Nat) : h_n (h_mn M N K) = h_n M + 1 + N := rfl
theorem v_mn (M : mM) (N K : Nat) : h_v (h_mn M N K) = h_v M + N + N * K := rfl
theorem k_mn (M : mM) (N K b : Nat) : h_k (h_mn M N K) b = if b = h_n M + 1 then 13 else if h_n M + 1 < b ∧ b ≤ h_n M + 1 + N then 9 else h_k M b := rfl
theorem l_mn (M : mM) (N K b : Nat) : h_l (h_mn M N K) b = if b = h_n M + 1 then N else if h_n M + 1 < b ∧ b ≤ h_n M + 1 + N then K else h_l M b := rfl
theorem i_mn (M : mM) (N K b j : Nat) : h_i (h_mn M N K) b j = if h_n M < b ∧ b ≤ h_n M + 1 + N then 0 else h_i M b j := rfl
theorem r_mn (M : mM) (N K b j : Nat) : h_r (h_mn M N K) b j = if b = h_n M + 1 then (if j < N then h_n M + 2 + j else 0) else if h_n M + 1 < b ∧ b ≤ h_n M + 1 + N then 0 else h_r M b j := rfl
theorem w_si {M : mM} (h : w_2 M) {a k : Nat} {x : Int32} (ha : 3 < a) : w_2 (h_si M a k x) := by
  obtain ⟨h1, h2, h3, h4⟩ := h
  refine ⟨h1, ⟨h2.1, fun i hi => ?_⟩, ⟨h3.1, fun i hi => ?_⟩, ⟨h4.1, fun i hi => ?_⟩⟩
  · rw [i_si, if_neg (by omega)]; exact h2.2 i hi
  · rw [i_si, if_neg (by omega)]; exact h3.2 i hi
  · rw [i_si, if_neg (by omega)]; exact h4.2 i hi
theorem w_sr {M : mM} (h : w_2 M) {a k r : Nat} (hr : r ≤ h_n M) : w_2 (h_sr M a k r) := by
  obtain ⟨⟨q1, q2, q3, q4, q5, q6⟩, h2⟩ := h
  refine ⟨⟨q1, q2, q3, q4, q5, fun b j => ?_⟩, h2⟩
  rw [r_sr, n_sr]
  split
  · exact hr
  · exact q6 b j
theorem w_cp {M : mM} (h : w_2 M) {a s b d n : Nat} (hb : 3 < b) : w_2 (h_cp M a s b d n) := by
  obtain ⟨h1, h2, h3, h4⟩ := h
  refine ⟨h1, ⟨h2.1, fun i hi => ?_⟩, ⟨h3.1, fun i hi => ?_⟩, ⟨h4.1, fun i hi => ?_⟩⟩
  · rw [i_cp, if_neg (by omega)]; exact h2.2 i hi
  · rw [i_cp, if_neg (by omega)]; exact h3.2 i hi
  · rw [i_cp, if_neg (by omega)]; exact h4.2 i hi
theorem w_al {M : mM} (h : w_2 M) {t n : Nat} (h1 : 1 ≤ t) (h2 : t ≤ 13) : w_2 (h_al M t n) := by
  obtain ⟨⟨q1, q2, q3, q4, q5, q6⟩, s1, s2, s3⟩ := h
  refine ⟨⟨by rw [n_al]; omega, fun a ha => ?_, fun a ha hb => ?_, fun a ha hb => ?_, ?_, fun b j => ?_⟩, ⟨?_, fun i hi => ?_⟩, ⟨?_, fun i hi => ?_⟩, ⟨?_, fun i hi => ?_⟩⟩
  · rw [k_al] at ha
    rw [n_al]
    split at ha
    · omega
    · have := q2 a ha; omega
  · rw [k_al, if_neg (by omega)]; exact q3 a ha hb
  · rw [k_al]
    rw [n_al] at hb
    split
    · exact ⟨h1, h2⟩
    · exact q4 a ha (by omega)
  · rw [k_al, if_neg (by omega)]; exact q5
  · rw [r_al, n_al]
    split
    · omega
    · have := q6 b j; omega
  · rw [l_al, if_neg (by omega)]; exact s1.1
  · rw [i_al, if_neg (by omega)]; exact s1.2 i hi
  · rw [l_al, if_neg (by omega)]; exact s2.1
  · rw [i_al, if_neg (by omega)]; exact s2.2 i hi
  · rw [l_al, if_neg (by omega)]; exact s3.1
  · rw [i_al, if_neg (by omega)]; exact s3.2 i hi
theorem w_mn {M : mM} (h : w_2 M) {N K : Nat} : w_2 (h_mn M N K) := by
  obtain ⟨⟨q1, q2, q3, q4, q5, q6⟩, s1, s2, s3⟩ := h
  refine ⟨⟨by rw [n_mn]; omega, fun a ha => ?_, fun a ha hb => ?_, fun a ha hb => ?_, ?_, fun b j => ?_⟩, ⟨?_, fun i hi => ?_⟩, ⟨?_, fun i hi => ?_⟩, ⟨?_, fun i hi => ?_⟩⟩
  · rw [k_mn] at ha
    rw [n_mn]
    split at ha
    · omega
    · split at ha
      · omega
      · have := q2 a ha; omega
  · rw [k_mn, if_neg (by omega), if_neg (by omega)]; exact q3 a ha hb
  · rw [k_mn]
    rw [n_mn] at hb
    split
    · omega
    · split
      · omega
      · exact q4 a ha (by omega)
  · rw [k_mn, if_neg (by omega), if_neg (by omega)]; exact q5
  · rw [r_mn, n_mn]
    split
    · split
      · omega
      · omega
    · split
      · omega
      · have := q6 b j; omega
  · rw [l_mn, if_neg (by omega), if_neg (by omega)]; exact s1.1
  · rw [i_mn, if_neg (by omega)]; exact s1.2 i hi
  · rw [l_mn, if_neg (by omega), if_neg (by omega)]; exact s2.1
  · rw [i_mn, if_neg (by omega)]; exact s2.2 i hi
  · rw [l_mn, if_neg (by omega), if_neg (by omega)]; exact s3.1
  · rw [i_mn, if_neg (by omega)]; exact s3.2 i hi
theorem s_ce_obj {cs : Nat → ClassId} {ad : Nat → Nat} {M : mM} {a t : Nat} (ht : t < 8) (hk : h_k M a = t + 1) : s_ce cs ad M a = .inr (t, s_fs t ad M a) := by
  unfold s_ce
  rw [hk, if_pos (by omega)]
  rfl
theorem s_ce_int {cs : Nat → ClassId} {ad : Nat → Nat} {M : mM} {a t : Nat} (h1 : 9 ≤ t) (h2 : t ≤ 10) (hk : h_k M a = t) : s_ce cs ad M a = .inl (cs (t - 9), h_l M a, .inl (h_i M a)) := by
  unfold s_ce
  rw [hk, if_neg (by omega), if_pos h2]
theorem s_ce_ref {cs : Nat → ClassId} {ad : Nat → Nat} {M : mM} {a t : Nat} (h1 : 11 ≤ t) (hk : h_k M a = t) : s_ce cs ad M a = .inl (cs (t - 9), h_l M a, .inr (.inr (.inr (.inr (fun i => s_o ad (h_r M a i)))))) := by
  unfold s_ce
  rw [hk, if_neg (by omega), if_neg (by omega)]
theorem s_fs_get {t : Nat} {ad : Nat → Nat} {M : mM} {a k : Nat} (h : k < h_N t) : (s_fs t ad M a)[k]? = some (if s_ii (s_ty t k) then .int (h_i M a k) else s_v ad (.inr (h_r M a k))) := by
  unfold s_fs
  rw [List.getElem?_map, List.getElem?_range h]
  rfl
theorem s_fs_len (t : Nat) (ad : Nat → Nat) (M : mM) (a : Nat) : (s_fs t ad M a).length = h_N t := by simp [s_fs]
theorem s_fs_si {t : Nat} {ad : Nat → Nat} {M : mM} {a k : Nat} {x : Int32} (h : k < h_N t) (hi : s_ii (s_ty t k) = true) : (s_fs t ad M a).set k (.int x) = s_fs t ad (h_si M a k x) a := by
  apply List.ext_getElem?
  intro i
  rw [List.getElem?_set, s_fs_len]
  by_cases e : k = i
  · subst e
    rw [if_pos rfl, if_pos h, s_fs_get h, if_pos hi, i_si, if_pos ⟨rfl, rfl⟩]
  · rw [if_neg e]
    by_cases hi2 : i < h_N t
    · rw [s_fs_get hi2, s_fs_get hi2, i_si, r_si, show (if a = a ∧ i = k then x else h_i M a i) = h_i M a i from if_neg (fun q => e q.2.symm)]
    · rw [List.getElem?_eq_none (by rw [s_fs_len]; omega), List.getElem?_eq_none (by rw [s_fs_len]; omega)]
theorem s_fs_sr {t : Nat} {ad : Nat → Nat} {M : mM} {a k r : Nat} (h : k < h_N t) (hi : s_ii (s_ty t k) = false) : (s_fs t ad M a).set k (s_v ad (.inr r)) = s_fs t ad (h_sr M a k r) a := by
  apply List.ext_getElem?
  intro i
  rw [List.getElem?_set, s_fs_len]
  by_cases e : k = i
  · subst e
    rw [if_pos rfl, if_pos h, s_fs_get h, if_neg (by rw [hi]; decide), r_sr, if_pos ⟨rfl, rfl⟩]
  · rw [if_neg e]
    by_cases hi2 : i < h_N t
    · rw [s_fs_get hi2, s_fs_get hi2, i_sr, r_sr, show (if a = a ∧ i = k then r else h_r M a i) = h_r M a i from if_neg (fun q => e q.2.symm)]
    · rw [List.getElem?_eq_none (by rw [s_fs_len]; omega), List.getElem?_eq_none (by rw [s_fs_len]; omega)]
theorem s_ce_si {cs : Nat → ClassId} {ad : Nat → Nat} {M : mM} {a k b : Nat} {x : Int32} (h : b ≠ a) : s_ce cs ad (h_si M a k x) b = s_ce cs ad M b := by
  have e : h_i (h_si M a k x) b = h_i M b := funext fun i => by rw [i_si, if_neg (fun q => h q.1)]
  unfold s_ce s_fs
  simp only [e, k_si, l_si, r_si]
theorem s_ce_sr {cs : Nat → ClassId} {ad : Nat → Nat} {M : mM} {a k b r : Nat} (h : b ≠ a) : s_ce cs ad (h_sr M a k r) b = s_ce cs ad M b := by
  have e : h_r (h_sr M a k r) b = h_r M b := funext fun i => by rw [r_sr, if_neg (fun q => h q.1)]
  have e2 : h_i (h_sr M a k r) b = h_i M b := rfl
  unfold s_ce s_fs
  simp only [e, e2, k_sr, l_sr]
theorem s_ce_cp {cs : Nat → ClassId} {ad : Nat → Nat} {M : mM} {a s b d n x : Nat} (h : x ≠ b) : s_ce cs ad (h_cp M a s b d n) x = s_ce cs ad M x := by
  have e : h_i (h_cp M a s b d n) x = h_i M x := funext fun i => by rw [i_cp, if_neg (fun q => h q.1)]
  unfold s_ce s_fs
  simp only [e, k_cp, l_cp, r_cp]
theorem s_ce_al {cs : Nat → ClassId} {ad : Nat → Nat} {M : mM} {t n x : Nat} (h : x ≠ h_n M + 1) : s_ce cs ad (h_al M t n) x = s_ce cs ad M x := by
  have e : h_i (h_al M t n) x = h_i M x := funext fun i => by rw [i_al, if_neg h]
  have e2 : h_r (h_al M t n) x = h_r M x := funext fun i => by rw [r_al, if_neg h]
  have e3 : h_k (h_al M t n) x = h_k M x := by rw [k_al, if_neg h]
  have e4 : h_l (h_al M t n) x = h_l M x := by rw [l_al, if_neg h]
  unfold s_ce s_fs
  simp only [e, e2, e3, e4]
theorem s_in_0 : ∀ w ∈ u_ws (s_R 0) (s_T 0) (h_N 0), w ∈ lw_tbl ∧ goodWord w = true := by decide +kernel
theorem s_in_1 : ∀ w ∈ u_ws (s_R 1) (s_T 1) (h_N 1), w ∈ lw_tbl ∧ goodWord w = true := by decide +kernel
theorem s_in_2 : ∀ w ∈ u_ws (s_R 2) (s_T 2) (h_N 2), w ∈ lw_tbl ∧ goodWord w = true := by decide +kernel
theorem s_in_3 : ∀ w ∈ u_ws (s_R 3) (s_T 3) (h_N 3), w ∈ lw_tbl ∧ goodWord w = true := by decide +kernel
theorem s_in_4 : ∀ w ∈ u_ws (s_R 4) (s_T 4) (h_N 4), w ∈ lw_tbl ∧ goodWord w = true := by decide +kernel
theorem s_in_5 : ∀ w ∈ u_ws (s_R 5) (s_T 5) (h_N 5), w ∈ lw_tbl ∧ goodWord w = true := by decide +kernel
theorem s_in_6 : ∀ w ∈ u_ws (s_R 6) (s_T 6) (h_N 6), w ∈ lw_tbl ∧ goodWord w = true := by decide +kernel
theorem s_in_7 : ∀ w ∈ u_ws (s_R 7) (s_T 7) (h_N 7), w ∈ lw_tbl ∧ goodWord w = true := by decide +kernel
theorem s_in {t : Nat} (h : t < 8) : ∀ w ∈ u_ws (s_R t) (s_T t) (h_N t), w ∈ s_ws := by
  intro w hw
  refine List.mem_filter.mpr ?_
  rcases (show t = 0 ∨ t = 1 ∨ t = 2 ∨ t = 3 ∨ t = 4 ∨ t = 5 ∨ t = 6 ∨ t = 7 by omega) with rfl | rfl | rfl | rfl | rfl | rfl | rfl | rfl
  · exact s_in_0 w hw
  · exact s_in_1 w hw
  · exact s_in_2 w hw
  · exact s_in_3 w hw
  · exact s_in_4 w hw
  · exact s_in_5 w hw
  · exact s_in_6 w hw
  · exact s_in_7 w hw
def s_ipl (t : Nat) : Nat × Nat := match t with
  | 0 => (73, 55)
  | 1 => (221, 60)
  | 2 => (94, 56)
  | 3 => (273, 61)
  | 4 => (375, 63)
  | 5 => (214, 59)
  | 6 => (65, 54)
  | _ => (698, 57)
theorem s_inst {t : Nat} (h : t < 8) : Cond.instantiable (s_R t) (h_N t) ∈ s_ws ∧ Cond.initialized (s_R t) ∈ s_ws := by
  rcases (show t = 0 ∨ t = 1 ∨ t = 2 ∨ t = 3 ∨ t = 4 ∨ t = 5 ∨ t = 6 ∨ t = 7 by omega) with rfl | rfl | rfl | rfl | rfl | rfl | rfl | rfl
  · exact ⟨o_w_in (i := 73) (by decide +kernel) rfl, o_w_in (i := 55) (by decide +kernel) rfl⟩
  · exact ⟨o_w_in (i := 221) (by decide +kernel) rfl, o_w_in (i := 60) (by decide +kernel) rfl⟩
  · exact ⟨o_w_in (i := 94) (by decide +kernel) rfl, o_w_in (i := 56) (by decide +kernel) rfl⟩
  · exact ⟨o_w_in (i := 273) (by decide +kernel) rfl, o_w_in (i := 61) (by decide +kernel) rfl⟩
  · exact ⟨o_w_in (i := 375) (by decide +kernel) rfl, o_w_in (i := 63) (by decide +kernel) rfl⟩
  · exact ⟨o_w_in (i := 214) (by decide +kernel) rfl, o_w_in (i := 59) (by decide +kernel) rfl⟩
  · exact ⟨o_w_in (i := 65) (by decide +kernel) rfl, o_w_in (i := 54) (by decide +kernel) rfl⟩
  · exact ⟨o_w_in (i := 698) (by decide +kernel) rfl, o_w_in (i := 57) (by decide +kernel) rfl⟩
theorem s_arrI : Cond.arrayClass FieldType.int ∈ s_ws := o_w_in (i := 91) (by decide +kernel) rfl
theorem s_arrZ : Cond.arrayClass FieldType.boolean ∈ s_ws := o_w_in (i := 800) (by decide +kernel) rfl
theorem s_oiI : Cond.instanceMethod Lib.objectInit ∈ s_ws := o_w_in (i := 70) (by decide +kernel) rfl
theorem s_oiC : Cond.code Lib.objectInit ⟨#[0xb1]⟩ 1 none ∈ s_ws := List.mem_filter.mpr ⟨List.mem_of_getElem? (i := 71) rfl, rfl⟩
theorem s_acN : Cond.native arraycopyName ∈ s_ws := o_w_in (i := 336) (by decide +kernel) rfl
theorem s_acS : Cond.static arraycopyName ∈ s_ws := o_w_in (i := 335) (by decide +kernel) rfl
theorem s_acI : Cond.initialized "java/lang/System" ∈ s_ws := o_w_in (i := 62) (by decide +kernel) rfl
