/-! the rows that make cells, that copy, and Object.<init>, over the small heap -/
theorem s_tyk : ∀ t, t < 8 → ∀ k, k < h_N t → (s_ii (s_ty t k) || o_ref (s_ty t k)) = true := by decide +kernel
theorem s_dv {t k : Nat} {ad : Nat → Nat} (ht : t < 8) (hk : k < h_N t) : defaultValue (s_ty t k) = if s_ii (s_ty t k) then .int 0 else s_v ad (.inr 0) := by
  have h := s_tyk t ht k hk
  revert h
  rw [s_v0]
  cases s_ty t k <;> simp [s_ii, o_ref, defaultValue]
section SO
variable {p : Program} {l : Launch} {e : Env} {R : Room} {s : State} {m : MethodId} {args : Array Value} {below : List Frame} {meth : Method} {c : Code} {H : Heap} {locs : List Loc} {cells slots : Nat} {Q : State → Prop} {j base : Nat} {D : va_G} {cs : Nat → ClassId} {ad0 ad : Nat → Nat} {A : Nat → Prop} {M : mM} {pc : Nat} {lr : Array Slot} {rest : List Value}
theorem s_up {ad : Nat → Nat} {n q : Nat} : va_up ad n q n = q := by simp [va_up]
theorem s_newc {t i : Nat} (F : s_F p R s m args meth c j base D cs ad0 A) (hw : w_2 M) (hP : va_P D vwCl (s_w cs ad M) H) (hD : va_D A (s_w cs ad M)) (hS : va_S A s.heap H locs) (ht : t < 8) (hcl : (Cond.classLink (h_mt j).1.cls i (s_R t)).before args s = true) (hcells : cells + 1 ≤ R.cells) (hslots : slots + h_N t ≤ R.slots) (hdg : decode (h_mt j).2.1 pc = .ok (.new i, 3))
    (kk : ∀ (q : Nat) (H1 : Heap), va_P D vwCl (s_w cs (va_up ad (h_n M + 1) q) (h_al M (t + 1) (h_N t))) H1 → va_D A (s_w cs (va_up ad (h_n M + 1) q) (h_al M (t + 1) (h_N t))) → va_S A s.heap H1 locs → W p l e R s m args below meth c H1 locs (cells + 1) (slots + h_N t) Q (F0 m (pc + 3) lr (.ref q :: rest))) : W p l e R s m args below meth c H locs cells slots Q (F0 m pc lr rest) := by
  obtain ⟨hx, hb, -, -, -, -, hown, hts, hK, -, -, -, hA0, -, -⟩ := F
  refine va_new (D := D) (ci := t) (fs := s_fs t ad (h_al M (t + 1) (h_N t)) (h_n M + 1)) hx hb hts (fun w h => List.mem_cons_of_mem _ (s_in ht w h)) (s_ty t) (s_tyok ht) hown hcl (hts _ (List.mem_cons_of_mem _ (s_inst ht).1)) (hts _ (List.mem_cons_of_mem _ (s_inst ht).2)) hK.1 hP hD hS hA0 (s_cl ht) (fun k hk => ?_) hcells hslots hdg (fun q H1 q1 q2 q3 => ?_)
  · unfold vp_V
    rw [List.getD_eq_getElem?_getD, s_fs_get hk, i_al, r_al, if_pos rfl, if_pos rfl]
    exact s_dv ht hk
  · have hfs : s_fs t ad (h_al M (t + 1) (h_N t)) (h_n M + 1) = s_fs t (va_up ad (h_n M + 1) q) (h_al M (t + 1) (h_N t)) (h_n M + 1) := by
      unfold s_fs
      refine List.map_congr_left fun k _ => ?_
      rw [r_al, if_pos rfl]
      rfl
    rw [hfs, ← s_ce_obj (cs := cs) (M := h_al M (t + 1) (h_N t)) ht (by rw [k_al, if_pos rfl]), s_w_push hw.1 rfl (fun b hb => s_ce_al (by omega))] at q1 q2
    exact kk q H1 q1 q2 q3
theorem s_newI {i : Int32} {at0 : ArrayType} {t0 : Nat} (h0 : (at0 = .int ∧ t0 = 9) ∨ (at0 = .boolean ∧ t0 = 10)) (F : s_F p R s m args meth c j base D cs ad0 A) (hw : w_2 M) (hP : va_P D vwCl (s_w cs ad M) H) (hD : va_D A (s_w cs ad M)) (hS : va_S A s.heap H locs) (hn : ¬ i < 0 ∧ i.toNatClampNeg ≤ 100000) (hcells : cells + 1 ≤ R.cells) (hslots : slots + i.toNatClampNeg ≤ R.slots) (hdg : decode (h_mt j).2.1 pc = .ok (.newarray at0, 2))
    (kk : ∀ (q : Nat) (H1 : Heap), va_P D vwCl (s_w cs (va_up ad (h_n M + 1) q) (h_al M t0 i.toNatClampNeg)) H1 → va_D A (s_w cs (va_up ad (h_n M + 1) q) (h_al M t0 i.toNatClampNeg)) → va_S A s.heap H1 locs → W p l e R s m args below meth c H1 locs (cells + 1) (slots + i.toNatClampNeg) Q (F0 m (pc + 2) lr (.ref q :: rest))) : W p l e R s m args below meth c H locs cells slots Q (F0 m pc lr (.int i :: rest)) := by
  obtain ⟨hx, hb, -, -, -, -, hown, hts, hK, -, -, -, hA0, -, -⟩ := F
  have hz : h_i (h_al M t0 i.toNatClampNeg) (h_n M + 1) = fun _ => 0 := funext fun k => by rw [i_al, if_pos rfl]
  have hl : h_l (h_al M t0 i.toNatClampNeg) (h_n M + 1) = i.toNatClampNeg := by rw [l_al, if_pos rfl]
  have hk9 : h_k (h_al M t0 i.toNatClampNeg) (h_n M + 1) = t0 := by rw [k_al, if_pos rfl]
  rcases h0 with ⟨rfl, rfl⟩ | ⟨rfl, rfl⟩
  · refine va_newa (D := D) (atype := .int) (ty := .int) (a0 := (i.toNatClampNeg, .inl (fun _ => 0))) hx hb (hts _ (List.mem_cons_of_mem _ s_arrI)) rfl hK.1 hP hD hS hA0 (fun cA => rfl) hn.1 rfl (by simp [componentBytes]; omega) hcells hslots hdg (fun q cA H1 hK1 q1 q2 q3 => ?_)
    have e : cA = cs 0 := Option.some.inj ((show s.vm.findClass _ = some cA from (hK1.2 5 (cA, .int) rfl).2).symm.trans (show s.vm.findClass _ = some (cs 0) from (hK.1.2 0 (cs 0, .int) rfl).2))
    subst e
    have hce : s_ce cs (va_up ad (h_n M + 1) q) (h_al M 9 i.toNatClampNeg) (h_n M + 1) = .inl (cs 0, i.toNatClampNeg, .inl (fun _ => 0)) := by
      rw [s_ce_int (t := 9) (by omega) (by omega) hk9, hz, hl]
    rw [← hce, s_w_push hw.1 rfl (fun b hb => s_ce_al (by omega))] at q1 q2
    exact kk q H1 q1 q2 q3
  · refine va_newa (D := D) (atype := .boolean) (ty := .boolean) (a0 := (i.toNatClampNeg, .inl (fun _ => 0))) hx hb (hts _ (List.mem_cons_of_mem _ s_arrZ)) rfl hK.1 hP hD hS hA0 (fun cA => rfl) hn.1 rfl (by simp [componentBytes]; omega) hcells hslots hdg (fun q cA H1 hK1 q1 q2 q3 => ?_)
    have e : cA = cs 1 := Option.some.inj ((show s.vm.findClass _ = some cA from (hK1.2 5 (cA, .boolean) rfl).2).symm.trans (show s.vm.findClass _ = some (cs 1) from (hK.1.2 1 (cs 1, .boolean) rfl).2))
    subst e
    have hce : s_ce cs (va_up ad (h_n M + 1) q) (h_al M 10 i.toNatClampNeg) (h_n M + 1) = .inl (cs 1, i.toNatClampNeg, .inl (fun _ => 0)) := by
      rw [s_ce_int (t := 10) (by omega) (by omega) hk9, hz, hl]
    rw [← hce, s_w_push hw.1 rfl (fun b hb => s_ce_al (by omega))] at q1 q2
    exact kk q H1 q1 q2 q3
theorem s_newR {i : Int32} {t0 ix u : Nat} {C : String} (h1 : 11 ≤ t0) (h2 : t0 ≤ 13) (hu : (s_tys cs)[u]? = some (cs (t0 - 9), .object C)) (F : s_F p R s m args meth c j base D cs ad0 A) (hAO : va_AO C s) (hcl : (Cond.classLink (h_mt j).1.cls ix C).before args s = true) (hw : w_2 M) (hP : va_P D vwCl (s_w cs ad M) H) (hD : va_D A (s_w cs ad M)) (hS : va_S A s.heap H locs) (hn : ¬ i < 0 ∧ i.toNatClampNeg ≤ 100000) (hcells : cells + 1 ≤ R.cells) (hslots : slots + i.toNatClampNeg ≤ R.slots) (hdg : decode (h_mt j).2.1 pc = .ok (.anewarray ix, 3))
    (kk : ∀ (q : Nat) (H1 : Heap), va_P D vwCl (s_w cs (va_up ad (h_n M + 1) q) (h_al M t0 i.toNatClampNeg)) H1 → va_D A (s_w cs (va_up ad (h_n M + 1) q) (h_al M t0 i.toNatClampNeg)) → va_S A s.heap H1 locs → W p l e R s m args below meth c H1 locs (cells + 1) (slots + i.toNatClampNeg) Q (F0 m (pc + 3) lr (.ref q :: rest))) : W p l e R s m args below meth c H locs cells slots Q (F0 m pc lr (.int i :: rest)) := by
  obtain ⟨hx, hb, -, -, -, -, hown, hts, hK, -, -, -, hA0, -, -⟩ := F
  have hl : h_l (h_al M t0 i.toNatClampNeg) (h_n M + 1) = i.toNatClampNeg := by rw [l_al, if_pos rfl]
  have hk9 : h_k (h_al M t0 i.toNatClampNeg) (h_n M + 1) = t0 := by rw [k_al, if_pos rfl]
  refine va_newq (D := D) hx hb hown hcl hAO hK.1 hP hD hS hA0 hn.1 rfl (by omega) hcells hslots hdg (fun q cA H1 hK1 q1 q2 q3 => ?_)
  have e : cA = cs (t0 - 9) := by
    obtain ⟨_, _, -, -, -, g1⟩ := (hK1.2 5 (cA, .object C) rfl).2
    obtain ⟨_, _, -, -, -, g2⟩ := (hK.1.2 u _ hu).2
    exact Option.some.inj (g1.symm.trans g2)
  subst e
  have hce : s_ce cs (va_up ad (h_n M + 1) q) (h_al M t0 i.toNatClampNeg) (h_n M + 1) = .inl (cs (t0 - 9), i.toNatClampNeg, .inr (.inr (.inr (.inr (fun _ => none))))) := by
    rw [s_ce_ref h1 hk9, hl]
    refine congrArg _ (congrArg _ (congrArg _ (congrArg _ (congrArg _ (congrArg _ (congrArg _ (funext fun k => ?_)))))))
    rw [r_al, if_pos rfl]
    rfl
  rw [← hce, s_w_push hw.1 rfl (fun b hb => s_ce_al (by omega))] at q1 q2
  exact kk q H1 q1 q2 q3
theorem s_copy {a b ix : Nat} {sp dp n : Int32} (F : s_F p R s m args meth c j base D cs ad0 A) (hlk : (Cond.methodLink (h_mt j).1.cls ix arraycopyName).before args s = true) (hrk : 1 ≤ (h_mt j).2.2.2.1) (hsz : lr.size = (h_cd j).2) (hrest : (rest.map fun v => v.category).sum ≤ 8) (hw : w_2 M) (hxt : ∀ i, i ≤ 3 → ad i = ad0 i) (hP : va_P D vwCl (s_w cs ad M) H) (hD : va_D A (s_w cs ad M)) (hS : va_S A s.heap H locs)
    (hk : (h_k M a = 9 ∨ h_k M a = 14) ∧ h_k M b = 9) (h123 : ¬ sp < 0 ∧ ¬ dp < 0 ∧ ¬ n < 0) (h45 : sp.toNatClampNeg + n.toNatClampNeg ≤ h_l M a ∧ dp.toNatClampNeg + n.toNatClampNeg ≤ h_l M b) (hdg : decode (h_mt j).2.1 pc = .ok (.invokestatic ix, 3))
    (kk : ∀ (H1 : Heap) (locs1 : List Loc), va_P D vwCl (s_w cs ad (h_cp M a sp.toNatClampNeg b dp.toNatClampNeg n.toNatClampNeg)) H1 → va_D A (s_w cs ad (h_cp M a sp.toNatClampNeg b dp.toNatClampNeg n.toNatClampNeg)) → va_S A s.heap H1 locs1 → W p l e R s m args below meth c H1 locs1 cells slots Q (F0 m (pc + 3) lr rest)) : W p l e R s m args below meth c H locs cells slots Q (F0 m pc lr (.int n :: .int dp :: s_v ad (.inr b) :: .int sp :: s_v ad (.inr a) :: rest)) := by
  obtain ⟨hx, hb, hml, -, -, -, hown, hts, hK, hSt, hfr, hlo, hA0, hAb, -⟩ := F
  obtain ⟨hka, hkb⟩ := hk
  obtain ⟨h3, hnb⟩ := hw.1.at hkb (by omega) (by omega)
  rw [s_v1 ad (r := b) (by omega)]
  have heb := s_w_get (cs := cs) (ad := ad) h3 hnb
  rw [s_ce_int (t := 9) (by omega) (by omega) hkb] at heb
  have hcp : va_cpy (h_i M a) (h_i M b) sp.toNatClampNeg dp.toNatClampNeg n.toNatClampNeg = h_i (h_cp M a sp.toNatClampNeg b dp.toNatClampNeg n.toNatClampNeg) b := by
    funext k
    rw [i_cp]
    unfold va_cpy
    by_cases e : dp.toNatClampNeg ≤ k ∧ k < dp.toNatClampNeg + n.toNatClampNeg
    · rw [if_pos e, if_pos ⟨rfl, e⟩]
    · rw [if_neg e, if_neg (fun q => e q.2)]
  have hset : (s_w cs ad M).set (b - 4) (ad b, .inl (cs (9 - 9), h_l M b, .inl (va_cpy (h_i M a) (h_i M b) sp.toNatClampNeg dp.toNatClampNeg n.toNatClampNeg))) = s_w cs ad (h_cp M a sp.toNatClampNeg b dp.toNatClampNeg n.toNatClampNeg) := by
    rw [hcp, ← l_cp M a sp.toNatClampNeg b dp.toNatClampNeg n.toNatClampNeg b, ← s_ce_int (cs := cs) (ad := ad) (M := h_cp M a sp.toNatClampNeg b dp.toNatClampNeg n.toNatClampNeg) (t := 9) (by omega) (by omega) (by rw [k_cp]; exact hkb)]
    exact s_w_set rfl h3 hnb (fun x hb => s_ce_cp hb)
  have hloc : (rest.map fun v => v.category).sum + (nativeFrameWords "java/lang/System" "arraycopy" 5 + 11) ≤ R.locals := by
    have h7 : nativeFrameWords "java/lang/System" "arraycopy" 5 = 7 := by decide +kernel
    rw [h7, hlo]; omega
  rcases hka with hka | hka
  · obtain ⟨h3a, hna⟩ := hw.1.at hka (by omega) (by omega)
    rw [s_v1 ad (r := a) (by omega)]
    have hea := s_w_get (cs := cs) (ad := ad) h3a hna
    rw [s_ce_int (t := 9) (by omega) (by omega) hka] at hea
    refine va_copyi (D := D) (ty := .int) hx hb (hml.trans hsz.symm) hown hlk (hts _ (List.mem_cons_of_mem _ s_acN)) (hts _ (List.mem_cons_of_mem _ s_acS)) (hts _ (List.mem_cons_of_mem _ s_acI)) hK.1 hP hD hS (a - 4) (b - 4) 0 0 hea heb rfl rfl rfl h123.1 h123.2.1 h123.2.2 h45.1 h45.2 (fun _ _ => rfl) (by omega) hloc hdg (fun H1 locs1 q1 q2 q3 => ?_)
    rw [hset] at q1 q2
    exact kk H1 locs1 q1 q2 q3
  · obtain ⟨h0, hT, hX⟩ := s_stat hw hka hSt hxt
    rw [s_v1 ad h0]
    have hbl : ad a < s.heap.size := by obtain ⟨scr, h1, -⟩ := hX; exact (Array.getElem?_eq_some_iff.mp h1).1
    refine va_copyx (D := D) hx hb (hml.trans hsz.symm) hown hlk (hts _ (List.mem_cons_of_mem _ s_acN)) (hts _ (List.mem_cons_of_mem _ s_acS)) (hts _ (List.mem_cons_of_mem _ s_acI)) hK.1 hP hD hS hX hbl (fun h => hT.out (hAb _ h)) (b - 4) 0 heb rfl h123.1 h123.2.1 h123.2.2 h45.1 h45.2 (by omega) hloc hdg (fun H1 locs1 q1 q2 q3 => ?_)
    rw [hset] at q1 q2
    exact kk H1 locs1 q1 q2 q3
theorem s_oini {a ix : Nat} (F : s_F p R s m args meth c j base D cs ad0 A) (hlk : (Cond.methodLink (h_mt j).1.cls ix Lib.objectInit).before args s = true) (hrk : 1 ≤ (h_mt j).2.2.2.1) (hsz : lr.size = (h_cd j).2) (hrest : (rest.map fun v => v.category).sum ≤ 8) (ha : ¬ a = 0) (hdg : decode (h_mt j).2.1 pc = .ok (.invokespecial ix, 3))
    (kk : W p l e R s m args below meth c H locs cells slots Q (F0 m (pc + 3) lr rest)) : W p l e R s m args below meth c H locs cells slots Q (F0 m pc lr (s_v ad (.inr a) :: rest)) := by
  obtain ⟨hx, hb, hml, -, -, -, hown, hts, hK, hSt, hfr, hlo, hA0, hAb, -⟩ := F
  rw [s_v1 ad ha]
  have hmr : (F0 m pc lr (.ref (ad a) :: rest)).monitorRoom = 0 := rfl
  exact W.objInit hx hb hown hlk (hts _ (List.mem_cons_of_mem _ s_oiI)) (hts _ (List.mem_cons_of_mem _ s_oiC)) rfl (hsz.trans hml.symm) rfl hdg (by omega) (by rw [hmr, hlo]; omega) kk
end SO
