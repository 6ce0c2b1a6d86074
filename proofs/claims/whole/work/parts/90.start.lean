/-! what stands at the start: the static tables, the classes, the law's own cell() -/
theorem in_X0 : ∀ w ∈ u_ws RX0 TX0 4, w ∈ lw_tbl := by decide +kernel
theorem in_X1 : ∀ w ∈ u_ws RX1 TX1 5, w ∈ lw_tbl := by decide +kernel
theorem in_X2 : ∀ w ∈ u_ws RX2 TX2 9, w ∈ lw_tbl := by decide +kernel
theorem in_X3 : ∀ w ∈ u_ws RX3 TX3 8, w ∈ lw_tbl := by decide +kernel
theorem in_X4 : ∀ w ∈ u_ws RX4 TX4 11, w ∈ lw_tbl := by decide +kernel
theorem in_X5 : ∀ w ∈ u_ws RX5 TX5 3, w ∈ lw_tbl := by decide +kernel
theorem in_X6 : ∀ w ∈ u_ws RX6 TX6 7, w ∈ lw_tbl := by decide +kernel
theorem in_X7 : ∀ w ∈ u_ws RX7 TX7 32, w ∈ lw_tbl := by decide +kernel
theorem lw_D {s : State} {args : Array Value} (hts : ∀ w ∈ lw_tbl, w.before args s = true) : ∃ D : va_G, ∀ (k : Nat) (q : vw_C), vwCl[k]? = some q → u_Kn s q.1 q.2.1 q.2.2 (D.1 k) (D.2 k) := by
  obtain ⟨c0, i0, h0⟩ := u_known (C := RX0) (T := TX0) (N := 4) (n := 4) hts in_X0 (hts (.instantiable RX0 4) (by decide +kernel))
  obtain ⟨c1, i1, h1⟩ := u_known (C := RX1) (T := TX1) (N := 5) (n := 5) hts in_X1 (hts (.instantiable RX1 5) (by decide +kernel))
  obtain ⟨c2, i2, h2⟩ := u_known (C := RX2) (T := TX2) (N := 9) (n := 9) hts in_X2 (hts (.instantiable RX2 9) (by decide +kernel))
  obtain ⟨c3, i3, h3⟩ := u_known (C := RX3) (T := TX3) (N := 8) (n := 8) hts in_X3 (hts (.instantiable RX3 8) (by decide +kernel))
  obtain ⟨c4, i4, h4⟩ := u_known (C := RX4) (T := TX4) (N := 11) (n := 11) hts in_X4 (hts (.instantiable RX4 11) (by decide +kernel))
  obtain ⟨c5, i5, h5⟩ := u_known (C := RX5) (T := TX5) (N := 3) (n := 3) hts in_X5 (hts (.instantiable RX5 3) (by decide +kernel))
  obtain ⟨c6, i6, h6⟩ := u_known (C := RX6) (T := TX6) (N := 7) (n := 7) hts in_X6 (hts (.instantiable RX6 7) (by decide +kernel))
  obtain ⟨c7, i7, h7⟩ := u_known (C := RX7) (T := TX7) (N := 32) (n := 32) hts in_X7 (hts (.instantiable RX7 32) (by decide +kernel))
  refine ⟨(fun k => if k = 0 then c0 else if k = 1 then c1 else if k = 2 then c2 else if k = 3 then c3 else if k = 4 then c4 else if k = 5 then c5 else if k = 6 then c6 else c7, fun k => if k = 0 then i0 else if k = 1 then i1 else if k = 2 then i2 else if k = 3 then i3 else if k = 4 then i4 else if k = 5 then i5 else if k = 6 then i6 else i7), fun k q hq => ?_⟩
  by_cases hk : k < 8
  · rw [s_cl hk] at hq
    cases hq
    rcases (show k = 0 ∨ k = 1 ∨ k = 2 ∨ k = 3 ∨ k = 4 ∨ k = 5 ∨ k = 6 ∨ k = 7 by omega) with rfl | rfl | rfl | rfl | rfl | rfl | rfl | rfl
    · exact h0
    · exact h1
    · exact h2
    · exact h3
    · exact h4
    · exact h5
    · exact h6
    · exact h7
  · rw [List.getElem?_eq_none (by show 8 ≤ k; omega)] at hq; cases hq
theorem ao_int {s : State} {args : Array Value} (h : (Cond.arrayOver (.array .int)).before args s = true) : ∃ (comp c : ClassId) (k : Class), s.vm.classes[c]? = some k ∧ k.kind = .array comp (.array .int) ∧ s.vm.findClass ("[" ++ (FieldType.array .int).toString) = some c := by
  simp only [Cond.before, Cond.holds, Cond.value, beq_iff_eq] at h
  cases hc : s.vm.findClass (FieldType.array .int).toString with
  | none => simp [hc] at h
  | some comp =>
    simp only [hc, Option.bind_some, Option.bind_eq_some_iff, Option.map_eq_some_iff] at h
    obtain ⟨c, hi, k, hk, hb⟩ := h
    cases hkd : k.kind with
    | array component ty =>
      obtain ⟨hlt, hp, -⟩ := Array.findIdx?_eq_some_iff_getElem.mp hi
      rw [(Array.getElem?_eq_some_iff.mp hk).2, hkd] at hp
      rw [hkd] at hb
      simp at hb hp
      exact ⟨comp, c, k, hk, by rw [hkd, hp, hb.1], hb.2⟩
    | _ => rw [hkd] at hb; simp at hb
theorem ar_of {s : State} {cA comp : ClassId} {kA : Class} {ty : FieldType} (h1 : s.vm.classes[cA]? = some kA) (h2 : kA.kind = .array comp ty) : ArrOfT s cA ty := fun N z => ⟨(fun k h => by cases h), kA, h1, comp, h2⟩
theorem lw_cs {s : State} {args : Array Value} (hts : ∀ w ∈ lw_tbl, w.before args s = true) : ∃ cs : Nat → ClassId, ∀ (k : Nat) (q : ClassId × FieldType), (s_tys cs)[k]? = some q → ArrOfT s q.1 q.2 ∧ va_RA s q.1 q.2 := by
  obtain ⟨c0, k0, p0, a0, a1, a2⟩ := Cond.arrayClass_spec (hts (.arrayClass .int) (by decide +kernel))
  obtain ⟨c1, k1, p1, b0, b1, b2⟩ := Cond.arrayClass_spec (hts (.arrayClass .boolean) (by decide +kernel))
  obtain ⟨p2, c2, k2, d0, -, d1, d2, d3⟩ := Cond.arrayOver_spec (hts (.arrayOver (.object RX2)) (by decide +kernel))
  obtain ⟨p3, c3, k3, f0, -, f1, f2, f3⟩ := Cond.arrayOver_spec (hts (.arrayOver (.object RX1)) (by decide +kernel))
  obtain ⟨p4, c4, k4, g1, g2, g3⟩ := ao_int (hts (.arrayOver (.array .int)) (by decide +kernel))
  refine ⟨fun k => if k = 0 then c0 else if k = 1 then c1 else if k = 2 then c2 else if k = 3 then c3 else c4, fun k q hq => ?_⟩
  match k, hq with
  | 0, hq => cases hq; exact ⟨ar_of a1 a2, a0⟩
  | 1, hq => cases hq; exact ⟨ar_of b1 b2, b0⟩
  | 2, hq => cases hq; exact ⟨ar_of d1 d2, k2, p2, d1, d2, d0, d3⟩
  | 3, hq => cases hq; exact ⟨ar_of f1 f2, k3, p3, f1, f2, f0, f3⟩
  | 4, hq => cases hq; exact ⟨ar_of g1 g2, g3⟩
  | k + 5, hq => simp [s_tys] at hq
theorem lw_K {s : State} {args : Array Value} (hts : ∀ w ∈ lw_tbl, w.before args s = true) : ∃ (D : va_G) (cs : Nat → ClassId), s_K D cs s := by
  obtain ⟨D, hD⟩ := lw_D hts
  obtain ⟨cs, hcs⟩ := lw_cs hts
  exact ⟨D, cs, ⟨hD, hcs⟩, fun a i x h hm => hts _ hm, hts (.arrayOver (.object RX2)) (by decide +kernel), hts (.arrayOver (.object RX1)) (by decide +kernel), hts (.arrayOver (.array .int)) (by decide +kernel)⟩
/-- a static table -/
theorem lw_S1 {s : State} {args : Array Value} {C n : String} {N : Nat} {f : Nat → Int32} (hN : N < 2 ^ 31) (hl : (Cond.laysStatic C n "[I").before args s = true) (hini : (Cond.initialized C).before args s = true) (harr : (Cond.arrayOf (.static C n "[I") .int).before args s = true) (hlen : (Cond.eq (.length (.static C n "[I")) (.int (Int32.ofNat N))).before args s = true) (hel : ∀ j, j < N → (Cond.eq (.elem (.static C n "[I") (.int (Int32.ofNat j))) (.int (f j))).before args s = true) : ∃ t : Nat, s_S1 s.heap.size t N C n f s s.heap := by
  have hA : ∀ a : Nat, a < s.heap.size → ¬ (fun q => s.heap.size ≤ q) a := fun a h => Nat.not_le.mpr h
  obtain ⟨t, ht, hT⟩ := va_Tof (f := fun j => .int (f j)) (A := fun q => s.heap.size ≤ q) hN harr (va_eqt hlen) (fun j hj => va_eqt (hel j hj)) hA
  obtain ⟨a, cell', ht', hat, -⟩ := Term.length_spec (va_eqt hlen)
  have hsz : cell'.slots.size < 2 ^ 31 := by
    have hv := va_eqt hlen
    simp only [Term.eval, Option.bind_eq_bind] at hv ht'
    rw [ht'] at hv
    simp only [Option.bind_some, hat] at hv
    by_cases hlt : cell'.slots.size < 2147483648
    · exact hlt
    · simp [hlt] at hv
  have ea : a = t := by rw [ht] at ht'; cases ht'; rfl
  subst ea
  have hc' := (State.arrayAt?_spec hat).1
  refine ⟨a, va_Zof hl hini ht hA, hT, ?_⟩
  obtain ⟨cell, h1, h2, h3, h4, h5, h6, h7⟩ := hT
  have ec : cell' = cell := by rw [h1] at hc'; cases hc'; rfl
  subst ec
  exact ⟨cell', h1, h2, h3, nI_inj hsz hN h5, h6⟩
theorem fl_1 : ∀ j, j < 8 → Cond.eq (.elem (.static RX0 "START" "[I") (.int (Int32.ofNat j))) (.int (s_t1 j)) ∈ flatC (Jvm.Cond.and given_1 narrow_1) := by decide +kernel
theorem fl_2 : ∀ j, j < 64 → Cond.eq (.elem (.static RX0 "ROUND" "[I") (.int (Int32.ofNat j))) (.int (s_t2 j)) ∈ flatC (Jvm.Cond.and given_1 narrow_1) := by decide +kernel
theorem fl_3 : ∀ j, j < 64 → Cond.eq (.elem (.static RX7 "K" "[I") (.int (Int32.ofNat j))) (.int (s_t3 j)) ∈ flatC (Jvm.Cond.and given_1 narrow_1) := by decide +kernel
theorem lw_S {s : State} {args : Array Value} (hts : ∀ w ∈ lw_tbl, w.before args s = true) (hgv : (Jvm.Cond.and given_1 narrow_1).before args s = true) : ∃ ad0 : Nat → Nat, s_S s.heap.size ad0 s s.heap := by
  have hs := flat_of_before _ hgv
  obtain ⟨t1, h1⟩ := lw_S1 (s := s) (args := args) (C := RX0) (n := "START") (N := 8) (f := s_t1) (by decide) (hts _ (by decide +kernel)) (hts _ (by decide +kernel)) (hs _ (by decide +kernel)) (hs _ (by decide +kernel)) (fun j hj => hs _ (fl_1 j hj))
  obtain ⟨t2, h2⟩ := lw_S1 (s := s) (args := args) (C := RX0) (n := "ROUND") (N := 64) (f := s_t2) (by decide) (hts _ (by decide +kernel)) (hts _ (by decide +kernel)) (hs _ (by decide +kernel)) (hs _ (by decide +kernel)) (fun j hj => hs _ (fl_2 j hj))
  obtain ⟨t3, h3⟩ := lw_S1 (s := s) (args := args) (C := RX7) (n := "K") (N := 64) (f := s_t3) (by decide) (hts _ (by decide +kernel)) (hts _ (by decide +kernel)) (hs _ (by decide +kernel)) (hs _ (by decide +kernel)) (fun j hj => hs _ (fl_3 j hj))
  exact ⟨fun i => if i = 1 then t1 else if i = 2 then t2 else t3, h1, h2, h3⟩
theorem dc_0 : decode cL_cell 0 = .ok (.iload_n 1, 1) := by decide +kernel
theorem dc_1 : decode cL_cell 1 = .ok (.aload_n 0, 1) := by decide +kernel
theorem dc_2 : decode cL_cell 2 = .ok (.arraylength, 1) := by decide +kernel
theorem dc_3 : decode cL_cell 3 = .ok (.if_icmp .ge 9, 3) := by decide +kernel
theorem dc_6 : decode cL_cell 6 = .ok (.aload_n 0, 1) := by decide +kernel
theorem dc_7 : decode cL_cell 7 = .ok (.iload_n 1, 1) := by decide +kernel
theorem dc_8 : decode cL_cell 8 = .ok (.iaload, 1) := by decide +kernel
theorem dc_9 : decode cL_cell 9 = .ok (.goto 4, 3) := by decide +kernel
theorem dc_12 : decode cL_cell 12 = .ok (.iconst 0, 1) := by decide +kernel
theorem dc_13 : decode cL_cell 13 = .ok (.ireturn, 1) := by decide +kernel
def w_cell : List Cond := .code yL_cell cL_cell 2 (some .int) :: []
theorem c_cell (l : Launch) (b L sz : Nat) (xs : Nat → Int32) (hL : L ≤ 2561) : Met l yL_cell w_cell ({ frames := 0, cells := 0, slots := 0, locals := 0 }) (va_Pc [.ref b, .int 0] (fun U => U.heap.size = sz ∧ va_X b L xs U U.heap)) (va_Qi (fun (r : Int32) (_ : Unit) => r = if 0 < L then xs 0 else 0) (fun _ _ => True) (fun q => sz ≤ q)) 0 0 (fun q => sz ≤ q) := by
  refine Met.ofW (cc := cL_cell) (maxL := 2) (ret := (some .int)) (by decide) rfl ?_
  intro p e s m args below meth c s₁ B hml hv
  obtain ⟨rfl, hsz, hX⟩ := hv
  have hx := B.exec
  have hb := B.bytes
  have hr := B.returns
  have hlocks := B.notSynchronized
  subst hsz
  have hbl : b < s.heap.size := by
    obtain ⟨scr, h1, -⟩ := hX
    exact (Array.getElem?_eq_some_iff.mp h1).1
  have hbA : ¬ (fun q : Nat => s.heap.size ≤ q) b := Nat.not_le.mpr hbl
  have hS : va_S (fun q : Nat => s.heap.size ≤ q) s.heap s.heap [] := va_S.rf
  have hl := lv_entry ([.ref b, .int 0]) (n := 2) (Nat.le_of_ble_eq_true rfl)
  rw [lg_entry_eq]
  generalize (lg_sl ([.ref b, .int 0]) ++ List.replicate (2 - (lg_sl ([.ref b, .int 0])).length) Slot.unset).toArray = ls at hl ⊢
  have hl : lv_has ls 2 [(0, .ref b), (1, .int 0)] := hl
  refine lv_iload_n hx hb dc_0 rfl (lv_at hl 1 rfl) ?_
  refine lv_aload_n hx hb dc_1 rfl (lv_at hl 0 rfl) ?_
  refine va_slen hx hb hX hbl hbA hS dc_2 ?_
  refine lv_icmp_ge (tgt := 12) hx hb dc_3 (by decide) (fun h => ?_) (fun h => ?_)
  · refine lv_iconst (v := 0) hx hb dc_12 (by decide) ?_
    have h0 : ¬ 0 < L := fun q => absurd h (nI_ge (a := 0) q (by omega))
    exact W.iret (v := 0) hx hb hr (fun t ht hW => ⟨⟨0, (), rfl, by rw [if_neg h0], trivial⟩, hS.F ht⟩) hS.2.2 dc_13
  · have h0 : 0 < L := by
      rcases Nat.eq_zero_or_pos L with q | q
      · subst q; exact absurd (by decide) h
      · exact q
    refine lv_aload_n hx hb dc_6 rfl (lv_at hl 0 rfl) ?_
    refine lv_iload_n hx hb dc_7 rfl (lv_at hl 1 rfl) ?_
    refine va_sld hx hb hX hbl hbA hS (i := 0) (show vp_in (nI 0) L from vp_in_nI h0 (by omega)) dc_8 ?_
    refine lv_goto (tgt := 13) hx hb dc_9 (by decide) ?_
    exact W.iret (v := xs 0) hx hb hr (fun t ht hW => ⟨⟨xs 0, (), rfl, by rw [if_pos h0], trivial⟩, hS.F ht⟩) hS.2.2 dc_13
