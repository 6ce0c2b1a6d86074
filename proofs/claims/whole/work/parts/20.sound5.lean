/-! calls, returns, and the whole: a run of the small machine is a run of the machine -/
theorem a_nth_ge : ∀ (C : List Instr) (i : Nat), C.length ≤ i → a_nth C i = .nop := by
  intro C
  induction C with
  | nil => intro i h; rfl
  | cons x C ih =>
    intro i h
    cases i with
    | zero => simp at h
    | succ i => exact ih i (by simpa using h)
theorem a_lt {C : List Instr} {ip : Nat} {ls : mL} {st : List mV} {M : mM} (h : ¬ a_ct C ip ls st M = a_f) : ip < C.length := by
  rcases Nat.lt_or_ge ip C.length with h1 | h1
  · exact h1
  · refine absurd ?_ h
    unfold a_ct
    rw [a_nth_ge C ip h1]
theorem o_at_of {j ip : Nat} {ls : mL} {st : List mV} {M : mM} (hj : j < 185) (h : ¬ a_ct (h_cd j).1 ip ls st M = a_f) : o_at j ip = true := by
  have h1 := (ok_of hj).1
  simp only [o_all, Bool.and_eq_true, List.all_eq_true, List.mem_range] at h1
  exact h1.2 ip (a_lt h)
theorem a_take_s : ∀ (n : Nat) (acc st as rr : List mV), a_take n acc st = some (as, rr) → ∃ q : List mV, q.length = n ∧ st = q ++ rr ∧ as = q.reverse ++ acc := by
  intro n
  induction n with
  | zero => intro acc st as rr h; cases h; exact ⟨[], rfl, rfl, rfl⟩
  | succ n ih =>
    intro acc st as rr h
    cases st with
    | nil => cases h
    | cons v st =>
      obtain ⟨q, h1, h2, h3⟩ := ih (v :: acc) st as rr h
      exact ⟨v :: q, by simp [h1], by rw [h2]; rfl, by rw [h3]; simp⟩
theorem a_rec_s {M : mM} {q : Nat} {as : List mV} (h : a_rec M q as = true) : q = 0 ∨ ∃ a as', as = .inr a :: as' ∧ h_k M a = q ∧ ¬ q = 0 := by
  unfold a_rec at h
  split at h
  · exact Or.inl rfl
  · exact Or.inr ⟨_, _, rfl, of_decide_eq_true h, by omega⟩
  · cases h
theorem g_b1 {P : mA → Prop} {st : List mV} {k : Int32 → List mV → mA} (hf : P a_f) (h : ∀ x r, st = .inl x :: r → P (k x r)) : P (b_1 st k) := by
  unfold b_1
  split
  · exact h _ _ rfl
  · exact hf
theorem g_b2 {P : mA → Prop} {st : List mV} {k : Int32 → Int32 → List mV → mA} (hf : P a_f) (h : ∀ x y r, st = .inl y :: .inl x :: r → P (k x y r)) : P (b_2 st k) := by
  unfold b_2
  split
  · exact h _ _ _ rfl
  · exact hf
theorem g_p1 {P : mA → Prop} {st : List mV} {k : Nat → List mV → mA} (hf : P a_f) (h : ∀ x r, st = .inr x :: r → P (k x r)) : P (p_1 st k) := by
  unfold p_1
  split
  · exact h _ _ rfl
  · exact hf
theorem g_p2 {P : mA → Prop} {st : List mV} {k : Nat → Nat → List mV → mA} (hf : P a_f) (h : ∀ x y r, st = .inr y :: .inr x :: r → P (k x y r)) : P (p_2 st k) := by
  unfold p_2
  split
  · exact h _ _ _ rfl
  · exact hf
theorem g_pi {P : mA → Prop} {st : List mV} {k : Nat → Int32 → List mV → mA} (hf : P a_f) (h : ∀ x y r, st = .inl y :: .inr x :: r → P (k x y r)) : P (p_i st k) := by
  unfold p_i
  split
  · exact h _ _ _ rfl
  · exact hf
theorem g_pii {P : mA → Prop} {st : List mV} {k : Nat → Int32 → Int32 → List mV → mA} (hf : P a_f) (h : ∀ x y z r, st = .inl z :: .inl y :: .inr x :: r → P (k x y z r)) : P (p_ii st k) := by
  unfold p_ii
  split
  · exact h _ _ _ _ rfl
  · exact hf
theorem g_pir {P : mA → Prop} {st : List mV} {k : Nat → Int32 → Nat → List mV → mA} (hf : P a_f) (h : ∀ x y z r, st = .inr z :: .inl y :: .inr x :: r → P (k x y z r)) : P (p_ir st k) := by
  unfold p_ir
  split
  · exact h _ _ _ _ rfl
  · exact hf
theorem g_pcp {P : mA → Prop} {st : List mV} {k : Nat → Int32 → Nat → Int32 → Int32 → List mV → mA} (hf : P a_f) (h : ∀ a s b d n r, st = .inl n :: .inl d :: .inr b :: .inl s :: .inr a :: r → P (k a s b d n r)) : P (p_cp st k) := by
  unfold p_cp
  split
  · exact h _ _ _ _ _ _ rfl
  · exact hf
theorem g_d1 {P : mA → Prop} {st : List mV} {k : mV → List mV → mA} (hf : P a_f) (h : ∀ x r, st = x :: r → P (k x r)) : P (d_1 st k) := by
  unfold d_1
  split
  · exact h _ _ rfl
  · exact hf
theorem g_d2 {P : mA → Prop} {st : List mV} {k : mV → mV → List mV → mA} (hf : P a_f) (h : ∀ x y r, st = x :: y :: r → P (k x y r)) : P (d_2 st k) := by
  unfold d_2
  split
  · exact h _ _ _ rfl
  · exact hf
theorem g_g {P : mA → Prop} {c : Prop} [Decidable c] {x : mA} (hf : P a_f) (h : c → P x) : P (a_g c x) := by
  unfold a_g
  split
  · exact h (by assumption)
  · exact hf
theorem g_i {P : mA → Prop} {c : Prop} [Decidable c] {x y : mA} (h1 : P x) (h2 : P y) : P (if c then x else y) := by
  split
  · exact h1
  · exact h2
theorem g_sw {P : mA → Prop} {x : Int32} {k : Nat → mA} {d : Int} (h : ∀ t, P (k t)) : ∀ (ts : List Int) (lo : Int), P (a_sw x k d lo ts) := by
  intro ts
  induction ts with
  | nil => intro lo; exact h _
  | cons t ts ih =>
    intro lo
    rw [a_sw]
    exact g_i (h _) (ih _)
def g_M (M : mM) (x : mA) : Prop := ∀ ip ls st M', x = .inl (ip, ls, st, M') → h_n M ≤ h_n M' ∧ h_v M ≤ h_v M'
theorem g_M0 {M : mM} : g_M M a_f := fun _ _ _ _ h => by cases h
theorem g_M1 {M M' : mM} {ip : Nat} {ls : mL} {st : List mV} (h1 : h_n M ≤ h_n M') (h2 : h_v M ≤ h_v M') : g_M M (.inl (ip, ls, st, M')) := fun _ _ _ _ h => by cases h; exact ⟨h1, h2⟩
theorem g_Mr {M : mM} {st : List mV} : g_M M (a_ret st M) := fun _ _ _ _ h => by unfold a_ret at h; split at h <;> cases h
theorem g_Mc {M : mM} {q : (Nat × List mV × Nat × List mV) ⊕ Option mR} : g_M M (.inr q) := fun _ _ _ _ h => by cases h
theorem a_mono (C : List Instr) (ip : Nat) (ls : mL) (st : List mV) (M : mM) : g_M M (a_ct C ip ls st M) := by
  unfold a_ct
  split
  all_goals repeat' (first
    | exact g_M0
    | exact g_M1 (Nat.le_refl _) (Nat.le_refl _)
    | exact g_M1 (Nat.le_succ _) (Nat.le_add_right _ _)
    | exact g_M1 (by rw [n_mn]; omega) (by rw [v_mn]; omega)
    | exact g_Mr
    | exact g_Mc
    | refine g_b1 g_M0 (fun _ _ _ => ?_)
    | refine g_b2 g_M0 (fun _ _ _ _ => ?_)
    | refine g_p1 g_M0 (fun _ _ _ => ?_)
    | refine g_p2 g_M0 (fun _ _ _ _ => ?_)
    | refine g_pi g_M0 (fun _ _ _ _ => ?_)
    | refine g_pii g_M0 (fun _ _ _ _ _ => ?_)
    | refine g_pir g_M0 (fun _ _ _ _ _ => ?_)
    | refine g_pcp g_M0 (fun _ _ _ _ _ _ _ => ?_)
    | refine g_d1 g_M0 (fun _ _ _ => ?_)
    | refine g_d2 g_M0 (fun _ _ _ _ => ?_)
    | refine g_g g_M0 (fun _ => ?_)
    | refine g_i ?_ ?_
    | refine g_sw (fun _ => ?_) _ _
    | split)
def g_C (L : Instr) (st : List mV) (M : mM) (x : mA) : Prop := ∀ j' as rt rr, x = .inr (.inl (j', as, rt, rr)) → ∃ q, L = .invokeinterface j' q ∧ a_take (q / 4 % 16) [] st = some (as, rr) ∧ a_rec M (q / 64) as = true ∧ rr.length ≤ 8 ∧ rt = q % 4
theorem g_C0 {L : Instr} {st : List mV} {M : mM} : g_C L st M a_f := fun _ _ _ _ h => by cases h
theorem g_C1 {L : Instr} {st : List mV} {M : mM} {z : mC} : g_C L st M (.inl z) := fun _ _ _ _ h => by cases h
theorem g_C2 {L : Instr} {st : List mV} {M : mM} {z : Option mR} : g_C L st M (.inr (.inr z)) := fun _ _ _ _ h => by cases h
theorem g_Cr {L : Instr} {st s2 : List mV} {M M2 : mM} : g_C L st M (a_ret s2 M2) := fun _ _ _ _ h => by unfold a_ret at h; split at h <;> cases h
theorem a_call (C : List Instr) (ip : Nat) (ls : mL) (st : List mV) (M : mM) : g_C (a_nth C ip) st M (a_ct C ip ls st M) := by
  unfold a_ct
  generalize a_nth C ip = L
  split
  all_goals repeat' (first
    | exact g_C0
    | exact g_C1
    | exact g_C2
    | exact g_Cr
    | refine g_b1 g_C0 (fun _ _ _ => ?_)
    | refine g_b2 g_C0 (fun _ _ _ _ => ?_)
    | refine g_p1 g_C0 (fun _ _ _ => ?_)
    | refine g_p2 g_C0 (fun _ _ _ _ => ?_)
    | refine g_pi g_C0 (fun _ _ _ _ => ?_)
    | refine g_pii g_C0 (fun _ _ _ _ _ => ?_)
    | refine g_pir g_C0 (fun _ _ _ _ _ => ?_)
    | refine g_pcp g_C0 (fun _ _ _ _ _ _ _ => ?_)
    | refine g_d1 g_C0 (fun _ _ _ => ?_)
    | refine g_d2 g_C0 (fun _ _ _ _ => ?_)
    | refine g_g g_C0 (fun _ => ?_)
    | refine g_i ?_ ?_
    | refine g_sw (fun _ => ?_) _ _
    | split)
  rename_i j1 q1 _ as1 r1 he hc
  intro j' as rt rr h
  cases h
  exact ⟨q1, rfl, he, hc.1, hc.2, rfl⟩
def g_R (L : Instr) (st : List mV) (M : mM) (x : mA) : Prop := ∀ r, x = .inr (.inr (some r)) → (L = .ireturn ∧ ∃ x, st = [.inl x] ∧ r = (some (.inl x), M)) ∨ (L = .lreturn ∧ ∃ x, st = [.inl x] ∧ r = (some (.inl x), M) ∧ (x = 0 ∨ x = 1)) ∨ (L = .areturn ∧ ∃ a, st = [.inr a] ∧ r = (some (.inr a), M)) ∨ (L = .return_ ∧ st = [] ∧ r = (none, M))
theorem g_R0 {L : Instr} {st : List mV} {M : mM} : g_R L st M a_f := fun _ h => by cases h
theorem g_R1 {L : Instr} {st : List mV} {M : mM} {z : mC} : g_R L st M (.inl z) := fun _ h => by cases h
theorem g_R2 {L : Instr} {st : List mV} {M : mM} {z : Nat × List mV × Nat × List mV} : g_R L st M (.inr (.inl z)) := fun _ h => by cases h
theorem a_retn (C : List Instr) (ip : Nat) (ls : mL) (st : List mV) (M : mM) : g_R (a_nth C ip) st M (a_ct C ip ls st M) := by
  unfold a_ct
  generalize a_nth C ip = L
  split
  all_goals repeat' (first
    | exact g_R0
    | exact g_R1
    | exact g_R2
    | refine g_b1 g_R0 (fun _ _ _ => ?_)
    | refine g_b2 g_R0 (fun _ _ _ _ => ?_)
    | refine g_p1 g_R0 (fun _ _ _ => ?_)
    | refine g_p2 g_R0 (fun _ _ _ _ => ?_)
    | refine g_pi g_R0 (fun _ _ _ _ => ?_)
    | refine g_pii g_R0 (fun _ _ _ _ _ => ?_)
    | refine g_pir g_R0 (fun _ _ _ _ _ => ?_)
    | refine g_pcp g_R0 (fun _ _ _ _ _ _ _ => ?_)
    | refine g_d1 g_R0 (fun _ _ _ => ?_)
    | refine g_d2 g_R0 (fun _ _ _ _ => ?_)
    | refine g_g g_R0 (fun _ => ?_)
    | refine g_i ?_ ?_
    | refine g_sw (fun _ => ?_) _ _
    | split)
  · rename_i x r e
    intro r1 h
    subst e
    cases r with
    | nil => cases h; exact Or.inl ⟨rfl, x, rfl, rfl⟩
    | cons => cases h
  · rename_i x r e hc
    intro r1 h
    subst e
    cases r with
    | nil => cases h; exact Or.inr (Or.inl ⟨rfl, x, rfl, rfl, hc⟩)
    | cons => cases h
  · rename_i x r e
    intro r1 h
    subst e
    cases r with
    | nil => cases h; exact Or.inr (Or.inr (Or.inl ⟨rfl, x, rfl, rfl⟩))
    | cons => cases h
  · intro r1 h
    cases h
    exact Or.inr (Or.inr (Or.inr ⟨rfl, rfl, rfl⟩))
theorem a_run_grow : ∀ (n j ip : Nat) (ls : mL) (st : List mV) (M : mM) (r : mR), a_run n j ip ls st M = some r → h_n M ≤ h_n r.2 ∧ h_v M ≤ h_v r.2 := by
  intro n
  induction n with
  | zero => intro j ip ls st M r h; simp [a_run] at h
  | succ n ih =>
    intro j ip ls st M r h
    rw [a_run] at h
    have hm := a_mono (h_cd j).1 ip ls st M
    have hr := a_retn (h_cd j).1 ip ls st M
    generalize a_ct (h_cd j).1 ip ls st M = q at h hm hr
    rcases q with ⟨ip', ls', st', M'⟩ | ⟨j', as, rt, rr⟩ | o
    · have h1 := hm _ _ _ _ rfl
      have h2 := ih _ _ _ _ _ _ h
      omega
    · dsimp only at h
      cases h1 : a_run n j' 0 (a_ent (h_cd j').2 as) [] M with
      | none => rw [h1] at h; cases h
      | some w =>
        obtain ⟨v, M'⟩ := w
        rw [h1] at h
        dsimp only at h
        have g1 := ih _ _ _ _ _ _ h1
        cases h2 : a_push rt v rr with
        | none => rw [h2] at h; cases h
        | some st' =>
          rw [h2] at h
          have g2 := ih _ _ _ _ _ _ h
          dsimp only at g1
          omega
    · dsimp only at h
      subst h
      rcases hr r rfl with ⟨-, x, -, e⟩ | ⟨-, x, -, e, -⟩ | ⟨-, x, -, e⟩ | ⟨-, -, e⟩ <;> rw [e] <;> exact ⟨Nat.le_refl _, Nat.le_refl _⟩
