/-! THE TREE of tables, in the reference's rows -/
def lv (f : Nat → Nat → Int32) (g : Nat) : Nat := (f 12 g).toNatClampNeg
def bs (f : Nat → Nat → Int32) (g : Nat) : Nat := (f 13 g).toNatClampNeg
def ow (f : Nat → Nat → Int32) (g : Nat) : Nat := (f 7 g).toNatClampNeg
def tg (f : Nat → Nat → Int32) (e : Nat) : Nat := (f 15 e).toNatClampNeg
def q_own (n : Nat) (f : Nat → Nat → Int32) (g : Nat) : Prop := ow f g < n ∧ f 7 g = nI (ow f g) ∧ f 5 (ow f g) = 2
def q_T1 (n : Nat) (f : Nat → Nat → Int32) (g : Nat) : Prop := (f 12 g = nI (lv f g) ∧ lv f g ≤ 3) ∧ (f 13 g = nI (bs f g) ∧ bs f g < 4096 ∧ bs f g % (8 * spn (lv f g)) = 0) ∧ (lv f g = 0 → f 9 (ow f g) = nI g) ∧ (0 < lv f g → ∃ p e, p < n ∧ e < 8 ∧ f 5 p = 4 ∧ f 7 p = f 7 g ∧ lv f p + 1 = lv f g ∧ f 14 (8 * p + e) = 2 ∧ f 15 (8 * p + e) = nI g ∧ bs f g = bs f p + e * spn (lv f p))
def q_T2 (n : Nat) (f : Nat → Nat → Int32) (p e : Nat) : Prop := (f 14 (8 * p + e) = 0 ∧ f 15 (8 * p + e) = -1) ∨ (f 14 (8 * p + e) = 1 ∧ lv f p = 3 ∧ tg f (8 * p + e) < n ∧ f 15 (8 * p + e) = nI (tg f (8 * p + e)) ∧ (bs f p + e < 2048 → f 5 (tg f (8 * p + e)) = 5 ∧ f 7 (tg f (8 * p + e)) = f 7 p ∧ f 27 (tg f (8 * p + e)) = nI (bs f p + e))) ∨ (f 14 (8 * p + e) = 2 ∧ lv f p < 3 ∧ tg f (8 * p + e) < n ∧ f 15 (8 * p + e) = nI (tg f (8 * p + e)) ∧ f 5 (tg f (8 * p + e)) = 4 ∧ f 7 (tg f (8 * p + e)) = f 7 p ∧ lv f (tg f (8 * p + e)) = lv f p + 1 ∧ bs f (tg f (8 * p + e)) = bs f p + e * spn (lv f p) ∧ f 16 (8 * p + e) = 0)
def q_rip (f : Nat → Nat → Int32) (p e : Nat) : Prop := (f 16 (8 * p + e) = 0 ∨ f 16 (8 * p + e) = 1 ∨ f 16 (8 * p + e) = 2) ∧ (2048 ≤ bs f p + e * spn (lv f p) → f 16 (8 * p + e) = 0)
def q_tab (n : Nat) (f : Nat → Nat → Int32) (g : Nat) : Prop := q_own n f g ∧ q_T1 n f g ∧ ∀ e, e < 8 → q_T2 n f g e ∧ q_rip f g e
def q_root (n : Nat) (f : Nat → Nat → Int32) (o : Nat) : Prop := ∃ t, t < n ∧ f 9 o = nI t ∧ f 5 t = 4 ∧ f 7 t = nI o ∧ lv f t = 0
/-- the tree -/
def q_tree (n : Nat) (f : Nat → Nat → Int32) : Prop := n ≤ 96 ∧ (∀ g, g < n → f 5 g = 4 → q_tab n f g) ∧ ∀ o, o < n → f 5 o = 2 → q_root n f o
theorem spn_v (k : Nat) (h : k ≤ 3) : (k = 0 ∧ spn k = 512) ∨ (k = 1 ∧ spn k = 64) ∨ (k = 2 ∧ spn k = 8) ∨ (k = 3 ∧ spn k = 1) := by
  rcases (show k = 0 ∨ k = 1 ∨ k = 2 ∨ k = 3 by omega) with rfl | rfl | rfl | rfl <;> simp [spn]
theorem spn_s (k : Nat) (h : k < 3) : spn k = 8 * spn (k + 1) := by
  rcases (show k = 0 ∨ k = 1 ∨ k = 2 by omega) with rfl | rfl | rfl <;> rfl
/-- what a base says of its parent's -/
theorem al_eq {s b c e d : Nat} (hs : 0 < s) (hb : b % (8 * s) = 0) (hc : c % (8 * s) = 0) (he : e < 8) (hd : d < 8) (h : b + e * s = c + d * s) : b = c ∧ e = d := by
  obtain ⟨x, rfl⟩ := Nat.dvd_of_mod_eq_zero hb
  obtain ⟨y, rfl⟩ := Nat.dvd_of_mod_eq_zero hc
  have h1 : s * (8 * x + e) = s * (8 * y + d) := by
    rw [Nat.mul_add, Nat.mul_add]
    have e1 : 8 * s * x = s * (8 * x) := by rw [Nat.mul_comm 8 s, Nat.mul_assoc]
    have e2 : 8 * s * y = s * (8 * y) := by rw [Nat.mul_comm 8 s, Nat.mul_assoc]
    rw [e1, e2, Nat.mul_comm e s, Nat.mul_comm d s] at h
    exact h
  have h2 := Nat.eq_of_mul_eq_mul_left hs h1
  have h3 : x = y ∧ e = d := by omega
  exact ⟨by rw [h3.1], h3.2⟩
theorem nI_inj {a b : Nat} (ha : a < 2 ^ 31) (hb : b < 2 ^ 31) (h : nI a = nI b) : a = b := (nI_eq ha hb).mp h
/-- one table of an owner, a level, a base -/
theorem q_uniq {n : Nat} {f : Nat → Nat → Int32} (hT : q_tree n f) : ∀ (k g g' : Nat), g < n → g' < n → f 5 g = 4 → f 5 g' = 4 → f 7 g = f 7 g' → lv f g = k → lv f g' = k → bs f g = bs f g' → g = g' := by
  obtain ⟨hN, hT, -⟩ := hT
  intro k
  induction k with
  | zero =>
    intro g g' h1 h2 h3 h4 h5 h6 h7 h8
    have a1 := (hT g h1 h3).2.1.2.2.1 h6
    have a2 := (hT g' h2 h4).2.1.2.2.1 h7
    have e : ow f g = ow f g' := by unfold ow; rw [h5]
    rw [e, a2] at a1
    exact (nI_inj (by omega) (by omega) a1).symm
  | succ k ih =>
    intro g g' h1 h2 h3 h4 h5 h6 h7 h8
    obtain ⟨p, e, p1, p2, p3, p4, p5, p6, p7, p8⟩ := (hT g h1 h3).2.1.2.2.2 (by omega)
    obtain ⟨p', e', p1', p2', p3', p4', p5', p6', p7', p8'⟩ := (hT g' h2 h4).2.1.2.2.2 (by omega)
    have l1 : lv f p = k := by omega
    have l2 : lv f p' = k := by omega
    have b1 := (hT p p1 p3).2.1.2.1.2.2
    have b2 := (hT p' p1' p3').2.1.2.1.2.2
    rw [l1] at b1 p8
    rw [l2] at b2 p8'
    obtain ⟨e1, e2⟩ := al_eq (spn_pos k).1 b1 b2 p2 p2' (by omega)
    have e3 := ih p p' p1 p1' p3 p3' (by rw [p4, p4', h5]) l1 l2 e1
    subst e3; subst e2
    rw [p7] at p7'
    exact nI_inj (by omega) (by omega) p7'
/-- the table of a level that covers a page -/
def cv (n : Nat) (f : Nat → Nat → Int32) (o P k g : Nat) : Prop := g < n ∧ f 5 g = 4 ∧ f 7 g = nI o ∧ lv f g = k ∧ bs f g ≤ P ∧ P < bs f g + 8 * spn k
theorem cv_base {s b P : Nat} (hs : 0 < s) (hb : b % (8 * s) = 0) (h1 : b ≤ P) (h2 : P < b + 8 * s) : b = P / (8 * s) * (8 * s) := by
  obtain ⟨x, rfl⟩ := Nat.dvd_of_mod_eq_zero hb
  have h3 : P / (8 * s) = x := by
    apply Nat.div_eq_of_lt_le
    · rw [Nat.mul_comm]; exact h1
    · rw [Nat.succ_mul, Nat.mul_comm x]; omega
  rw [h3, Nat.mul_comm]
theorem cv_uniq {n : Nat} {f : Nat → Nat → Int32} (hT : q_tree n f) {o P k g g' : Nat} (h : cv n f o P k g) (h' : cv n f o P k g') : g = g' := by
  obtain ⟨a1, a2, a3, a4, a5, a6⟩ := h
  obtain ⟨b1, b2, b3, b4, b5, b6⟩ := h'
  have c1 := (hT.2.1 g a1 a2).2.1.2.1.2.2
  have c2 := (hT.2.1 g' b1 b2).2.1.2.1.2.2
  rw [a4] at c1
  rw [b4] at c2
  exact q_uniq hT k g g' a1 b1 a2 b2 (by rw [a3, b3]) a4 b4 (by rw [cv_base (spn_pos k).1 c1 a5 a6, cv_base (spn_pos k).1 c2 b5 b6])
theorem cv_up {n : Nat} {f : Nat → Nat → Int32} (hT : q_tree n f) {o P k g : Nat} (h : cv n f o P (k + 1) g) : ∃ p, cv n f o P k p ∧ f 14 (8 * p + (P - bs f p) / spn k) = 2 ∧ f 15 (8 * p + (P - bs f p) / spn k) = nI g := by
  obtain ⟨a1, a2, a3, a4, a5, a6⟩ := h
  obtain ⟨p, e, p1, p2, p3, p4, p5, p6, p7, p8⟩ := (hT.2.1 g a1 a2).2.1.2.2.2 (by omega)
  have l3 := (hT.2.1 g a1 a2).2.1.1.2
  have l1 : lv f p = k := by omega
  rw [l1] at p8
  have hs := spn_s k (by omega)
  have hp := (spn_pos k).1
  have he : (P - bs f p) / spn k = e := by
    apply Nat.div_eq_of_lt_le
    · omega
    · rw [Nat.succ_mul]; omega
  have hm : e * spn k ≤ 7 * spn k := Nat.mul_le_mul_right _ (by omega)
  refine ⟨p, ⟨p1, p3, by rw [p4, a3], l1, by omega, by omega⟩, ?_, ?_⟩
  · rw [he]; exact p6
  · rw [he]; exact p7
theorem cv_ix {n : Nat} {f : Nat → Nat → Int32} {o P k g : Nat} (h : cv n f o P k g) : (P - bs f g) / spn k < 8 := by
  obtain ⟨a1, a2, a3, a4, a5, a6⟩ := h
  exact (Nat.div_lt_iff_lt_mul (spn_pos k).1).mpr (by omega)
theorem cv_dn {n : Nat} {f : Nat → Nat → Int32} (hT : q_tree n f) {o P k p : Nat} (h : cv n f o P k p) (hk : f 14 (8 * p + (P - bs f p) / spn k) = 2) : cv n f o P (k + 1) (tg f (8 * p + (P - bs f p) / spn k)) ∧ f 15 (8 * p + (P - bs f p) / spn k) = nI (tg f (8 * p + (P - bs f p) / spn k)) ∧ k < 3 := by
  have hi := cv_ix h
  obtain ⟨a1, a2, a3, a4, a5, a6⟩ := h
  rcases ((hT.2.1 p a1 a2).2.2 _ hi).1 with ⟨c, -⟩ | ⟨c, -⟩ | ⟨c1, c2, c3, c4, c5, c6, c7, c8, c9⟩
  · rw [hk] at c; exact absurd c (by decide)
  · rw [hk] at c; exact absurd c (by decide)
  · rw [a4] at c2 c7 c8
    have hs := spn_s k c2
    have hp := (spn_pos k).1
    have h1 := Nat.div_mul_le_self (P - bs f p) (spn k)
    have h2 := Nat.lt_div_mul_add hp (a := P - bs f p)
    exact ⟨⟨c3, c5, by rw [c6, a3], c7, by omega, by omega⟩, c4, c2⟩
theorem cv_root {n : Nat} {f : Nat → Nat → Int32} (hT : q_tree n f) {o P : Nat} (ho : o < n) (h2 : f 5 o = 2) (hP : P < 4096) : ∃ t, cv n f o P 0 t ∧ f 9 o = nI t ∧ bs f t = 0 := by
  obtain ⟨t, t1, t2, t3, t4, t5⟩ := hT.2.2 o ho h2
  have hb := (hT.2.1 t t1 t3).2.1.2.1
  rw [t5] at hb
  have h0 : bs f t = 0 := by
    have : spn 0 = 512 := rfl
    rw [this] at hb
    omega
  exact ⟨t, ⟨t1, t3, t4, t5, by omega, by rw [h0]; show P < 0 + 8 * 512; omega⟩, t2, h0⟩
theorem cov_iff {n : Nat} {f : Nat → Nat → Int32} (hT : q_tree n f) {o P k g : Nat} (hg : g < n) (hk : k ≤ 3) : cov f (nI o) P k g = true ↔ cv n f o P k g := by
  unfold cov cv bs
  rw [decide_eq_true_eq]
  constructor
  · rintro ⟨h1, h2, h3, h4, h5⟩
    exact ⟨hg, h1, h2, by unfold lv; rw [h3]; exact i_c (by omega), h4, h5⟩
  · rintro ⟨-, h1, h2, h3, h4, h5⟩
    refine ⟨h1, h2, ?_, h4, h5⟩
    rw [((hT.2.1 g hg h1).2.1.1.1), h3]
theorem ent_some {n : Nat} {f : Nat → Nat → Int32} (hT : q_tree n f) {o P k g : Nat} (hk : k ≤ 3) (h : cv n f o P k g) : ent f n (nI o) P k = nI (8 * g + (P - bs f g) / spn k) := by
  unfold ent
  cases hf : fnd (cov f (nI o) P k) 0 n with
  | none =>
    have := fnd_none hf g (Nat.zero_le _) (by have := h.1; omega)
    rw [(cov_iff hT h.1 hk).mpr h] at this
    cases this
  | some g' =>
    obtain ⟨-, h1, h2⟩ := fnd_some hf
    have h3 := (cov_iff hT (by omega) hk).mp h2
    rw [cv_uniq hT h3 h]
    rfl
theorem ent_none {n : Nat} {f : Nat → Nat → Int32} (hT : q_tree n f) {o P k : Nat} (hk : k ≤ 3) (h : ∀ g, ¬ cv n f o P k g) : ent f n (nI o) P k = -1 := by
  unfold ent
  cases hf : fnd (cov f (nI o) P k) 0 n with
  | none => rfl
  | some g' =>
    obtain ⟨-, h1, h2⟩ := fnd_some hf
    exact absurd ((cov_iff hT (by omega) hk).mp h2) (h g')
theorem nI_m1 {a : Nat} (h : a < 2 ^ 31) : ¬ nI a = -1 := fun e => by
  have := nI_pos' h
  rw [e] at this
  exact absurd this (by decide)
/-- no table deeper than where the way ends -/
theorem cv_end {n : Nat} {f : Nat → Nat → Int32} (hT : q_tree n f) {o P m g : Nat} (h : cv n f o P m g) (hk : ¬ f 14 (8 * g + (P - bs f g) / spn m) = 2) : ∀ (d g' : Nat), ¬ cv n f o P (m + 1 + d) g' := by
  intro d
  induction d with
  | zero =>
    intro g' h'
    obtain ⟨p, h1, h2, -⟩ := cv_up hT h'
    rw [cv_uniq hT h1 h] at h2
    exact hk h2
  | succ d ih =>
    intro g' h'
    obtain ⟨p, h1, -⟩ := cv_up hT h'
    exact ih p h1
/-- the reference's walk is the way down the tree -/
theorem wkd_at {n : Nat} {f : Nat → Nat → Int32} (hT : q_tree n f) {o P m g : Nat} (h : cv n f o P m g) : ∀ (d : Nat), m + d ≤ 3 → (d = 0 ∨ ¬ f 14 (8 * g + (P - bs f g) / spn m) = 2) → wkd f n (nI o) P (m + d) = nI (8 * g + (P - bs f g) / spn m) := by
  have hN := hT.1
  have hi := cv_ix h
  have hg := h.1
  intro d
  induction d with
  | zero =>
    intro h3 _
    have e := ent_some hT (by omega) h
    cases m with
    | zero => exact e
    | succ m => rw [Nat.add_zero, wkd, e, if_neg (nI_m1 (by omega))]
  | succ d ih =>
    intro h3 hk
    have hk' : ¬ f 14 (8 * g + (P - bs f g) / spn m) = 2 := hk.resolve_left (by omega)
    have e := ent_none hT (o := o) (P := P) (k := m + d + 1) (by omega) (fun g' q => cv_end hT h hk' d g' (by rw [show m + 1 + d = m + d + 1 by omega]; exact q))
    rw [show m + (d + 1) = m + d + 1 by omega, wkd, if_pos e]
    exact ih (by omega) (Or.inr hk')
