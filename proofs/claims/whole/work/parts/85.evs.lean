def evI (s : se_S) (id a b c t : Int32) : Nat → Nat → Int32 := if c == -1 then up2 (up2 (up2 (up2 (up2 (up2 (up2 s.2 14 (s.1 3) id) 16 (s.1 3) t) 15 (3 * s.1 3) a) 15 (3 * s.1 3 + 1) b) 15 (3 * s.1 3 + 2) c) 6 a.toNatClampNeg (nI (s.1 3 + 1))) 6 b.toNatClampNeg (nI (s.1 3 + 1)) else up2 (up2 (up2 (up2 (up2 (up2 (up2 (up2 s.2 14 (s.1 3) id) 16 (s.1 3) t) 15 (3 * s.1 3) a) 15 (3 * s.1 3 + 1) b) 15 (3 * s.1 3 + 2) c) 6 a.toNatClampNeg (nI (s.1 3 + 1))) 6 b.toNatClampNeg (nI (s.1 3 + 1))) 6 c.toNatClampNeg (nI (s.1 3 + 1))
def evC (s : se_S) (id a b c t : Int32) : Bool := !(!(s.2 0 0 == 0) || s.1 3 == 2 || !se_wi id 0 59 || se_tk s id || !se_wi t 0 2) && !(!se_free s a || !se_free s b || (!(c == -1) && !se_free s c) || !se_fit s a b) && !(!(c == -1) && (!se_fit s a c || !se_fit s b c))
theorem se_event_t {s : se_S} {id a b c t : Int32} (h : evC s id a b c t = true) : se_event s id a b c t = (nI (s.1 3), va_up s.1 3 (s.1 3 + 1), evI s id a b c t) := by
  unfold evC at h
  simp only [Bool.and_eq_true, Bool.not_eq_true'] at h
  unfold se_event
  rw [if_neg (by rw [h.1.1]; decide), if_neg (by rw [h.1.2]; decide), if_neg (by rw [h.2]; decide)]
  rfl
theorem se_event_f {s : se_S} {id a b c t : Int32} (h : evC s id a b c t = false) : se_event s id a b c t = (-1, s) := by
  unfold evC at h
  unfold se_event
  by_cases h1 : (!(s.2 0 0 == 0) || s.1 3 == 2 || !se_wi id 0 59 || se_tk s id || !se_wi t 0 2) = true
  · rw [if_pos h1]
  · rw [if_neg h1]
    by_cases h2 : (!se_free s a || !se_free s b || (!(c == -1) && !se_free s c) || !se_fit s a b) = true
    · rw [if_pos h2]
    · rw [if_neg h2]
      by_cases h3 : (!(c == -1) && (!se_fit s a c || !se_fit s b c)) = true
      · rw [if_pos h3]
      · rw [Bool.not_eq_true] at h1 h2 h3
        rw [h1, h2, h3] at h
        cases h
theorem evI_row (s : se_S) (id a b c t : Int32) (q : Nat) (h6 : q ≠ 6) (h14 : q ≠ 14) (h15 : q ≠ 15) (h16 : q ≠ 16) : evI s id a b c t q = s.2 q := by
  unfold evI
  split
  · rw [up2_k _ _ h6, up2_k _ _ h6, up2_k _ _ h15, up2_k _ _ h15, up2_k _ _ h15, up2_k _ _ h16, up2_k _ _ h14]
  · rw [up2_k _ _ h6, up2_k _ _ h6, up2_k _ _ h6, up2_k _ _ h15, up2_k _ _ h15, up2_k _ _ h15, up2_k _ _ h16, up2_k _ _ h14]
theorem evI_14 (s : se_S) (id a b c t : Int32) : evI s id a b c t 14 = up2 s.2 14 (s.1 3) id 14 := by
  unfold evI
  split
  · rw [up2_k _ _ (show (14 : Nat) ≠ 6 by decide), up2_k _ _ (show (14 : Nat) ≠ 6 by decide), up2_k _ _ (show (14 : Nat) ≠ 15 by decide), up2_k _ _ (show (14 : Nat) ≠ 15 by decide), up2_k _ _ (show (14 : Nat) ≠ 15 by decide), up2_k _ _ (show (14 : Nat) ≠ 16 by decide)]
  · rw [up2_k _ _ (show (14 : Nat) ≠ 6 by decide), up2_k _ _ (show (14 : Nat) ≠ 6 by decide), up2_k _ _ (show (14 : Nat) ≠ 6 by decide), up2_k _ _ (show (14 : Nat) ≠ 15 by decide), up2_k _ _ (show (14 : Nat) ≠ 15 by decide), up2_k _ _ (show (14 : Nat) ≠ 15 by decide), up2_k _ _ (show (14 : Nat) ≠ 16 by decide)]
theorem evI_16 (s : se_S) (id a b c t : Int32) : evI s id a b c t 16 = up2 s.2 16 (s.1 3) t 16 := by
  have key : up2 (up2 s.2 14 (s.1 3) id) 16 (s.1 3) t 16 = up2 s.2 16 (s.1 3) t 16 := by
    rw [up2_row, up2_row, up2_k _ _ (show (16 : Nat) ≠ 14 by decide)]
  unfold evI
  split
  · rw [up2_k _ _ (show (16 : Nat) ≠ 6 by decide), up2_k _ _ (show (16 : Nat) ≠ 6 by decide), up2_k _ _ (show (16 : Nat) ≠ 15 by decide), up2_k _ _ (show (16 : Nat) ≠ 15 by decide), up2_k _ _ (show (16 : Nat) ≠ 15 by decide), key]
  · rw [up2_k _ _ (show (16 : Nat) ≠ 6 by decide), up2_k _ _ (show (16 : Nat) ≠ 6 by decide), up2_k _ _ (show (16 : Nat) ≠ 6 by decide), up2_k _ _ (show (16 : Nat) ≠ 15 by decide), up2_k _ _ (show (16 : Nat) ≠ 15 by decide), up2_k _ _ (show (16 : Nat) ≠ 15 by decide), key]
theorem evI_15 (s : se_S) (id a b c t : Int32) : evI s id a b c t 15 = r3 s.2 15 (s.1 3) a b c 15 := by
  unfold r3 evI
  split
  · rw [up2_k _ _ (show (15 : Nat) ≠ 6 by decide), up2_k _ _ (show (15 : Nat) ≠ 6 by decide)]
    simp only [up2_row, up2_k _ _ (show (15 : Nat) ≠ 16 by decide), up2_k _ _ (show (15 : Nat) ≠ 14 by decide)]
  · rw [up2_k _ _ (show (15 : Nat) ≠ 6 by decide), up2_k _ _ (show (15 : Nat) ≠ 6 by decide), up2_k _ _ (show (15 : Nat) ≠ 6 by decide)]
    simp only [up2_row, up2_k _ _ (show (15 : Nat) ≠ 16 by decide), up2_k _ _ (show (15 : Nat) ≠ 14 by decide)]
theorem evI_6 (s : se_S) (id a b c t : Int32) (f : Nat) : evI s id a b c t 6 f = if f = a.toNatClampNeg ∨ f = b.toNatClampNeg ∨ (¬ c = -1 ∧ f = c.toNatClampNeg) then nI (s.1 3 + 1) else s.2 6 f := by
  unfold evI
  by_cases hc : c = -1
  · rw [if_pos (by simpa using hc)]
    by_cases h1 : f = a.toNatClampNeg <;> by_cases h2 : f = b.toNatClampNeg <;> simp [up2, h1, h2, hc]
  · rw [if_neg (by simpa using hc)]
    by_cases h1 : f = a.toNatClampNeg <;> by_cases h2 : f = b.toNatClampNeg <;> by_cases h3 : f = c.toNatClampNeg <;> simp [up2, h1, h2, h3, hc]
theorem r3_at (r : Nat → Nat → Int32) (k g : Nat) (a b c : Int32) : r3 r k g a b c k (3 * g) = a ∧ r3 r k g a b c k (3 * g + 1) = b ∧ r3 r k g a b c k (3 * g + 2) = c ∧ ∀ i, i < 3 * g → r3 r k g a b c k i = r k i := by
  unfold r3
  refine ⟨?_, ?_, up2_self _ _ _ _, fun i hi => ?_⟩
  · rw [up2_ne _ _ (by omega), up2_ne _ _ (by omega), up2_self]
  · rw [up2_ne _ _ (by omega), up2_self]
  · rw [up2_ne _ _ (by omega), up2_ne _ _ (by omega), up2_ne _ _ (by omega)]
theorem free_nI {s : se_S} (h : GA s) {a : Int32} (e : se_free s a = true) : ∃ j, j < s.1 0 ∧ a = nI j ∧ ∀ b, b < 8 → se_bt s (nI j) (nI b) = false := by
  unfold se_free at e
  simp only [Bool.and_eq_true, Bool.not_eq_true'] at e
  obtain ⟨j, hj, ej⟩ := se_ex_nI h e.1.1.1
  refine ⟨j, hj, ej, fun b hb => ?_⟩
  have e2 := e.2
  rw [ej] at e2
  cases hz : se_bt s (nI j) (nI b) with
  | false => rfl
  | true =>
    have := (se_any_iff (fun b => se_bt s (nI j) (nI b)) 8).mpr ⟨b, hb, hz⟩
    rw [e2] at this
    cases this
theorem fit_facts {s : se_S} {a b : Int32} (e : se_fit s a b = true) : ¬ a = b ∧ s.2 3 a.toNatClampNeg = s.2 3 b.toNatClampNeg ∧ s.2 4 a.toNatClampNeg = s.2 4 b.toNatClampNeg := by
  unfold se_fit at e
  simp only [Bool.and_eq_true, Bool.not_eq_true', beq_iff_eq, beq_eq_false_iff_ne, ne_eq] at e
  exact ⟨fun z => e.1.1 (by rw [z]), e.1.2, e.2⟩
/-- what an accepted event call has for its members -/
abbrev evF (s : se_S) (id a b c t : Int32) (i a0 b0 t0 : Nat) : Prop := (s.2 0 0 = 0) ∧ (s.1 3 < 2) ∧ (i < 60) ∧ (id = nI i) ∧ (se_tk s id = false) ∧ (t0 < 3) ∧ (t = nI t0) ∧ (a0 < s.1 0) ∧ (a = nI a0) ∧ (∀ b, b < 8 → se_bt s (nI a0) (nI b) = false) ∧ (b0 < s.1 0) ∧ (b = nI b0) ∧ (∀ b, b < 8 → se_bt s (nI b0) (nI b) = false) ∧ (c = -1 ∨ ∃ c0, c0 < s.1 0 ∧ c = nI c0 ∧ ∀ b, b < 8 → se_bt s (nI c0) (nI b) = false) ∧ (¬ a = b ∧ s.2 3 a.toNatClampNeg = s.2 3 b.toNatClampNeg ∧ s.2 4 a.toNatClampNeg = s.2 4 b.toNatClampNeg) ∧ (¬ c = -1 → (¬ a = c ∧ s.2 3 a.toNatClampNeg = s.2 3 c.toNatClampNeg ∧ s.2 4 a.toNatClampNeg = s.2 4 c.toNatClampNeg) ∧ (¬ b = c ∧ s.2 3 b.toNatClampNeg = s.2 3 c.toNatClampNeg ∧ s.2 4 b.toNatClampNeg = s.2 4 c.toNatClampNeg))
theorem evF.h0 {s : se_S} {id a b c t : Int32} {i a0 b0 t0 : Nat} (h : evF s id a b c t i a0 b0 t0) : s.2 0 0 = 0 := h.1
theorem evF.h3 {s : se_S} {id a b c t : Int32} {i a0 b0 t0 : Nat} (h : evF s id a b c t i a0 b0 t0) : s.1 3 < 2 := h.2.1
theorem evF.hi {s : se_S} {id a b c t : Int32} {i a0 b0 t0 : Nat} (h : evF s id a b c t i a0 b0 t0) : i < 60 := h.2.2.1
theorem evF.ei {s : se_S} {id a b c t : Int32} {i a0 b0 t0 : Nat} (h : evF s id a b c t i a0 b0 t0) : id = nI i := h.2.2.2.1
theorem evF.htk {s : se_S} {id a b c t : Int32} {i a0 b0 t0 : Nat} (h : evF s id a b c t i a0 b0 t0) : se_tk s id = false := h.2.2.2.2.1
theorem evF.ht {s : se_S} {id a b c t : Int32} {i a0 b0 t0 : Nat} (h : evF s id a b c t i a0 b0 t0) : t0 < 3 := h.2.2.2.2.2.1
theorem evF.et {s : se_S} {id a b c t : Int32} {i a0 b0 t0 : Nat} (h : evF s id a b c t i a0 b0 t0) : t = nI t0 := h.2.2.2.2.2.2.1
theorem evF.ha {s : se_S} {id a b c t : Int32} {i a0 b0 t0 : Nat} (h : evF s id a b c t i a0 b0 t0) : a0 < s.1 0 := h.2.2.2.2.2.2.2.1
theorem evF.ea {s : se_S} {id a b c t : Int32} {i a0 b0 t0 : Nat} (h : evF s id a b c t i a0 b0 t0) : a = nI a0 := h.2.2.2.2.2.2.2.2.1
theorem evF.fa {s : se_S} {id a b c t : Int32} {i a0 b0 t0 : Nat} (h : evF s id a b c t i a0 b0 t0) : ∀ b, b < 8 → se_bt s (nI a0) (nI b) = false := h.2.2.2.2.2.2.2.2.2.1
theorem evF.hb {s : se_S} {id a b c t : Int32} {i a0 b0 t0 : Nat} (h : evF s id a b c t i a0 b0 t0) : b0 < s.1 0 := h.2.2.2.2.2.2.2.2.2.2.1
theorem evF.eb {s : se_S} {id a b c t : Int32} {i a0 b0 t0 : Nat} (h : evF s id a b c t i a0 b0 t0) : b = nI b0 := h.2.2.2.2.2.2.2.2.2.2.2.1
theorem evF.fb {s : se_S} {id a b c t : Int32} {i a0 b0 t0 : Nat} (h : evF s id a b c t i a0 b0 t0) : ∀ b, b < 8 → se_bt s (nI b0) (nI b) = false := h.2.2.2.2.2.2.2.2.2.2.2.2.1
theorem evF.hc {s : se_S} {id a b c t : Int32} {i a0 b0 t0 : Nat} (h : evF s id a b c t i a0 b0 t0) : c = -1 ∨ ∃ c0, c0 < s.1 0 ∧ c = nI c0 ∧ ∀ b, b < 8 → se_bt s (nI c0) (nI b) = false := h.2.2.2.2.2.2.2.2.2.2.2.2.2.1
theorem evF.ab {s : se_S} {id a b c t : Int32} {i a0 b0 t0 : Nat} (h : evF s id a b c t i a0 b0 t0) : ¬ a = b ∧ s.2 3 a.toNatClampNeg = s.2 3 b.toNatClampNeg ∧ s.2 4 a.toNatClampNeg = s.2 4 b.toNatClampNeg := h.2.2.2.2.2.2.2.2.2.2.2.2.2.2.1
theorem evF.ac {s : se_S} {id a b c t : Int32} {i a0 b0 t0 : Nat} (h : evF s id a b c t i a0 b0 t0) : ¬ c = -1 → (¬ a = c ∧ s.2 3 a.toNatClampNeg = s.2 3 c.toNatClampNeg ∧ s.2 4 a.toNatClampNeg = s.2 4 c.toNatClampNeg) ∧ (¬ b = c ∧ s.2 3 b.toNatClampNeg = s.2 3 c.toNatClampNeg ∧ s.2 4 b.toNatClampNeg = s.2 4 c.toNatClampNeg) := h.2.2.2.2.2.2.2.2.2.2.2.2.2.2.2
theorem evF.mk {s : se_S} {id a b c t : Int32} {i a0 b0 t0 : Nat} (x0 : s.2 0 0 = 0) (x1 : s.1 3 < 2) (x2 : i < 60) (x3 : id = nI i) (x4 : se_tk s id = false) (x5 : t0 < 3) (x6 : t = nI t0) (x7 : a0 < s.1 0) (x8 : a = nI a0) (x9 : ∀ b, b < 8 → se_bt s (nI a0) (nI b) = false) (x10 : b0 < s.1 0) (x11 : b = nI b0) (x12 : ∀ b, b < 8 → se_bt s (nI b0) (nI b) = false) (x13 : c = -1 ∨ ∃ c0, c0 < s.1 0 ∧ c = nI c0 ∧ ∀ b, b < 8 → se_bt s (nI c0) (nI b) = false) (x14 : ¬ a = b ∧ s.2 3 a.toNatClampNeg = s.2 3 b.toNatClampNeg ∧ s.2 4 a.toNatClampNeg = s.2 4 b.toNatClampNeg) (x15 : ¬ c = -1 → (¬ a = c ∧ s.2 3 a.toNatClampNeg = s.2 3 c.toNatClampNeg ∧ s.2 4 a.toNatClampNeg = s.2 4 c.toNatClampNeg) ∧ (¬ b = c ∧ s.2 3 b.toNatClampNeg = s.2 3 c.toNatClampNeg ∧ s.2 4 b.toNatClampNeg = s.2 4 c.toNatClampNeg)) : evF s id a b c t i a0 b0 t0 := ⟨x0, x1, x2, x3, x4, x5, x6, x7, x8, x9, x10, x11, x12, x13, x14, x15⟩
theorem evF_of {s : se_S} (h : GI s) {id a b c t : Int32} (hc : evC s id a b c t = true) : ∃ i a0 b0 t0, evF s id a b c t i a0 b0 t0 := by
  unfold evC at hc
  simp only [Bool.and_eq_true, Bool.not_eq_true', Bool.or_eq_false_iff, Bool.and_eq_false_iff, Bool.not_eq_false', beq_iff_eq, beq_eq_false_iff_ne, ne_eq] at hc
  obtain ⟨⟨⟨⟨⟨⟨h0, h3⟩, h59⟩, htk⟩, ht⟩, ⟨⟨⟨fa, fb⟩, fc⟩, ab⟩⟩, ac⟩ := hc
  have c3 := h.a.c3
  obtain ⟨i, _, hi, ei⟩ := se_wi_c (a := 0) (b := 59) h59 rfl rfl (by decide) (by decide)
  obtain ⟨t0, _, ht0, et⟩ := se_wi_c (a := 0) (b := 2) ht rfl rfl (by decide) (by decide)
  obtain ⟨a0, ha0, ea, fa⟩ := free_nI h.a fa
  obtain ⟨b0, hb0, eb, fb⟩ := free_nI h.a fb
  refine ⟨i, a0, b0, t0, h0, by omega, by omega, ei, htk, by omega, et, ha0, ea, fa, hb0, eb, fb, ?_, fit_facts ab, fun hn => ?_⟩
  · rcases fc with z | z
    · exact Or.inl z
    · exact Or.inr (free_nI h.a z)
  · have := ac.resolve_left hn
    exact ⟨fit_facts this.1, fit_facts this.2⟩
theorem ev_alike {s : se_S} {id a b c t : Int32} {i a0 b0 t0 : Nat} (F : evF s id a b c t i a0 b0 t0) {r : Nat → Int32} {e : Nat} (n0 : r (3 * e) = a) (n1 : r (3 * e + 1) = b) (n2 : r (3 * e + 2) = c) : ∀ q q', q < 3 → q' < 3 → q ≠ q' → ¬ r (3 * e + q) = -1 → ¬ r (3 * e + q') = -1 → ¬ r (3 * e + q) = r (3 * e + q') ∧ s.2 3 (r (3 * e + q)).toNatClampNeg = s.2 3 (r (3 * e + q')).toNatClampNeg ∧ s.2 4 (r (3 * e + q)).toNatClampNeg = s.2 4 (r (3 * e + q')).toNatClampNeg := by
  intro q q' hq hq' hne h1 h2
  have sy : ∀ {x y : Int32}, (¬ x = y ∧ s.2 3 x.toNatClampNeg = s.2 3 y.toNatClampNeg ∧ s.2 4 x.toNatClampNeg = s.2 4 y.toNatClampNeg) → (¬ y = x ∧ s.2 3 y.toNatClampNeg = s.2 3 x.toNatClampNeg ∧ s.2 4 y.toNatClampNeg = s.2 4 x.toNatClampNeg) := fun z => ⟨fun w => z.1 w.symm, z.2.1.symm, z.2.2.symm⟩
  have n0' : r (3 * e + 0) = a := n0
  match q, q', hq, hq' with
  | 0, 0, _, _ => exact absurd rfl hne
  | 0, 1, _, _ => rw [n0', n1]; exact F.ab
  | 0, 2, _, _ => rw [n2] at h2; rw [n0', n2]; exact (F.ac h2).1
  | 1, 0, _, _ => rw [n0', n1]; exact sy F.ab
  | 1, 1, _, _ => exact absurd rfl hne
  | 1, 2, _, _ => rw [n2] at h2; rw [n1, n2]; exact (F.ac h2).2
  | 2, 0, _, _ => rw [n2] at h1; rw [n0', n2]; exact sy (F.ac h1).1
  | 2, 1, _, _ => rw [n2] at h1; rw [n1, n2]; exact sy (F.ac h1).2
  | 2, 2, _, _ => exact absurd rfl hne
theorem GI_event' {s : se_S} (h : GI s) {id a b c t : Int32} {i a0 b0 t0 : Nat} (F : evF s id a b c t i a0 b0 t0) : GI (va_up s.1 3 (s.1 3 + 1), evI s id a b c t) := by
  have h0 := h.a.c0
  obtain ⟨n0, n1, n2, no⟩ := r3_at s.2 15 (s.1 3) a b c
  rw [← evI_15 s id a b c t] at n0 n1 n2 no
  refine ⟨?_, GC_grow h.c (va_le s.1 3) (evI_row s id a b c t 0 (by decide) (by decide) (by decide) (by decide)) (evI_row s id a b c t 5 (by decide) (by decide) (by decide) (by decide)) (evI_row s id a b c t 12 (by decide) (by decide) (by decide) (by decide)) (evI_row s id a b c t 20 (by decide) (by decide) (by decide) (by decide)), GT_grow h.t (va_le s.1 3) (evI_row s id a b c t 0 (by decide) (by decide) (by decide) (by decide)) F.h0⟩
  refine GA_event (s' := (va_up s.1 3 (s.1 3 + 1), evI s id a b c t)) h.a F.h3 rfl (fun q hq => va_up_ne _ _ hq) (fun q h6 h14 h15 h16 => evI_row s id a b c t q h6 h14 h15 h16) (fun e he => ?_) F.hi ?_ (fun e he => ?_) F.ht ?_ no ?_ (ev_alike F n0 n1 n2) (fun f => ?_)
  · show evI s id a b c t 14 e = _
    rw [evI_14, up2_ne _ _ (fun z => he z.2)]
  · show evI s id a b c t 14 (s.1 3) = _
    rw [evI_14, up2_self]
    exact F.ei
  · show evI s id a b c t 16 e = _
    rw [evI_16, up2_ne _ _ (fun z => he z.2)]
  · show evI s id a b c t 16 (s.1 3) = _
    rw [evI_16, up2_self]
    exact F.et
  · show gm (evI s id a b c t 15) (s.1 0) (s.1 3)
    unfold gm
    rw [n0, n1, n2]
    refine ⟨⟨a0, F.ha, F.ea⟩, ⟨b0, F.hb, F.eb⟩, ?_⟩
    rcases F.hc with z | ⟨c0, hc0, ec, _⟩
    · exact Or.inl z
    · exact Or.inr ⟨c0, hc0, ec⟩
  · show evI s id a b c t 6 f = s.2 6 f ∨ (f < s.1 0 ∧ evI s id a b c t 6 f = nI (s.1 3 + 1) ∧ _)
    rw [evI_6]
    have ha := F.ha
    have hb := F.hb
    split
    · rename_i hm
      right
      rw [F.ea, F.eb, nI_clamp (by omega), nI_clamp (by omega)] at hm
      rcases hm with z | z | ⟨z1, z⟩
      · rw [z]; exact ⟨F.ha, rfl, F.fa⟩
      · rw [z]; exact ⟨F.hb, rfl, F.fb⟩
      · obtain ⟨c0, hc0, ec, fc⟩ := F.hc.resolve_left z1
        rw [ec, nI_clamp (by omega)] at z
        rw [z]; exact ⟨hc0, rfl, fc⟩
    · exact Or.inl rfl
theorem GI_event {s : se_S} (h : GI s) (id a b c t : Int32) : GI (se_event s id a b c t).2 := by
  cases hc : evC s id a b c t with
  | false => rw [se_event_f hc]; exact h
  | true =>
    obtain ⟨i, a0, b0, t0, F⟩ := evF_of h hc
    rw [se_event_t hc]
    exact GI_event' h F
theorem JX_event2 {s : se_S} {x : xX} (h : GI s) (hJ : JX s x) {id a b t : Int32} {i a0 b0 t0 L : Nat} (F : evF s id a b (-1) t i a0 b0 t0) : JX (va_up s.1 3 (s.1 3 + 1), evI s id a b (-1) t) (up2 (xev (xas (xas x a0) b0) (s.1 3) L (sf_grd (nI i))).1 3 i 1, (xev (xas (xas x a0) b0) (s.1 3) L (sf_grd (nI i))).2) := by
  have h0 := h.a.c0
  have ha := F.ha
  have hb := F.hb
  have hab : a0 ≠ b0 := fun z => F.ab.1 (by rw [F.ea, F.eb, z])
  have h9 : ¬ 0 < s.2 0 9 := by rw [(h.t.ns F.h0).2]; decide
  refine JX_event (s' := (va_up s.1 3 (s.1 3 + 1), evI s id a b (-1) t)) h.a hJ F.h3 rfl (fun q hq => va_up_ne _ _ hq) (fun q h6 h14 h15 h16 => evI_row s id a b (-1) t q h6 h14 h15 h16) (fun e he => ?_) F.hi ?_ h9 rfl (fun e he => ?_) ?_ (fun k hk => ?_) ?_ rfl (fun f hf => ?_)
  · show evI s id a b (-1) t 14 e = _
    rw [evI_14, up2_ne _ _ (fun z => he z.2)]
  · show evI s id a b (-1) t 14 (s.1 3) = _
    rw [evI_14, up2_self]
    exact F.ei
  · show up2 (up2 (up2 x.1 0 3 (x.1 0 3 + 1)) 2 (s.1 3) (sf_grd (nI i))) 3 i 1 2 e = _
    rw [up2_ne _ _ (by omega), up2_ne _ _ (fun z => he z.2), up2_ne _ _ (by omega)]
  · show up2 (up2 (up2 x.1 0 3 (x.1 0 3 + 1)) 2 (s.1 3) (sf_grd (nI i))) 3 i 1 2 (s.1 3) = _
    rw [up2_ne _ _ (by omega), up2_self]
  · show up2 (up2 (up2 x.1 0 3 (x.1 0 3 + 1)) 2 (s.1 3) (sf_grd (nI i))) 3 i 1 3 k = _
    rw [up2_ne _ _ (fun z => hk z.2), up2_ne _ _ (by omega), up2_ne _ _ (by omega)]
  · show up2 (up2 (up2 x.1 0 3 (x.1 0 3 + 1)) 2 (s.1 3) (sf_grd (nI i))) 3 i 1 3 i = _
    rw [up2_self]
  · have e6 : evI s id a b (-1) t 6 f = if f = a0 ∨ f = b0 then nI (s.1 3 + 1) else s.2 6 f := by
      rw [evI_6, F.ea, F.eb, nI_clamp (by omega), nI_clamp (by omega)]
      simp
    show (((xas (xas x a0) b0).2.1 0 f = x.2.1 0 f ∧ (xas (xas x a0) b0).2.1 1 f = x.2.1 1 f ∧ evI s id a b (-1) t 6 f = s.2 6 f)) ∨ ((xas (xas x a0) b0).2.1 0 f = (x.2.1 0 f &&& (-256)) ||| (x.1 1 f).toInt64 ∧ (xas (xas x a0) b0).2.1 1 f = x.2.1 1 f ||| 255 ∧ evI s id a b (-1) t 6 f = nI (s.1 3 + 1))
    rw [e6]
    by_cases z1 : f = a0
    · right
      subst z1
      rw [if_pos (Or.inl rfl)]
      refine ⟨?_, ?_, rfl⟩ <;> simp [xas, up2, hab]
    · by_cases z2 : f = b0
      · right
        subst z2
        rw [if_pos (Or.inr rfl)]
        refine ⟨?_, ?_, rfl⟩ <;> simp [xas, up2, z1]
      · left
        rw [if_neg (by omega)]
        refine ⟨?_, ?_, rfl⟩ <;> simp [xas, up2, z1, z2]
theorem JX_event3 {s : se_S} {x : xX} (h : GI s) (hJ : JX s x) {id a b t : Int32} {i a0 b0 d0 t0 L : Nat} (hd : d0 < s.1 0) (F : evF s id a b (nI d0) t i a0 b0 t0) : JX (va_up s.1 3 (s.1 3 + 1), evI s id a b (nI d0) t) (up2 (xev (xas (xas (xas x a0) b0) d0) (s.1 3) L (sf_grd (nI i))).1 3 i 1, (xev (xas (xas (xas x a0) b0) d0) (s.1 3) L (sf_grd (nI i))).2) := by
  have h0 := h.a.c0
  have ha := F.ha
  have hb := F.hb
  have hn1 : ¬ nI d0 = -1 := fun z => by
    have a := nI_pos' (n := d0) (by omega)
    rw [z] at a
    exact absurd a (by decide)
  have hab : a0 ≠ b0 := fun z => F.ab.1 (by rw [F.ea, F.eb, z])
  have had : a0 ≠ d0 := fun z => (F.ac hn1).1.1 (by rw [F.ea, z])
  have hbd : b0 ≠ d0 := fun z => (F.ac hn1).2.1 (by rw [F.eb, z])
  have h9 : ¬ 0 < s.2 0 9 := by rw [(h.t.ns F.h0).2]; decide
  refine JX_event (s' := (va_up s.1 3 (s.1 3 + 1), evI s id a b (nI d0) t)) h.a hJ F.h3 rfl (fun q hq => va_up_ne _ _ hq) (fun q h6 h14 h15 h16 => evI_row s id a b (nI d0) t q h6 h14 h15 h16) (fun e he => ?_) F.hi ?_ h9 rfl (fun e he => ?_) ?_ (fun k hk => ?_) ?_ rfl (fun f hf => ?_)
  · show evI s id a b (nI d0) t 14 e = _
    rw [evI_14, up2_ne _ _ (fun z => he z.2)]
  · show evI s id a b (nI d0) t 14 (s.1 3) = _
    rw [evI_14, up2_self]
    exact F.ei
  · show up2 (up2 (up2 x.1 0 3 (x.1 0 3 + 1)) 2 (s.1 3) (sf_grd (nI i))) 3 i 1 2 e = _
    rw [up2_ne _ _ (by omega), up2_ne _ _ (fun z => he z.2), up2_ne _ _ (by omega)]
  · show up2 (up2 (up2 x.1 0 3 (x.1 0 3 + 1)) 2 (s.1 3) (sf_grd (nI i))) 3 i 1 2 (s.1 3) = _
    rw [up2_ne _ _ (by omega), up2_self]
  · show up2 (up2 (up2 x.1 0 3 (x.1 0 3 + 1)) 2 (s.1 3) (sf_grd (nI i))) 3 i 1 3 k = _
    rw [up2_ne _ _ (fun z => hk z.2), up2_ne _ _ (by omega), up2_ne _ _ (by omega)]
  · show up2 (up2 (up2 x.1 0 3 (x.1 0 3 + 1)) 2 (s.1 3) (sf_grd (nI i))) 3 i 1 3 i = _
    rw [up2_self]
  · have e6 : evI s id a b (nI d0) t 6 f = if f = a0 ∨ f = b0 ∨ f = d0 then nI (s.1 3 + 1) else s.2 6 f := by
      rw [evI_6, F.ea, F.eb, nI_clamp (by omega), nI_clamp (by omega), nI_clamp (by omega)]
      simp [hn1]
    show (((xas (xas (xas x a0) b0) d0).2.1 0 f = x.2.1 0 f ∧ (xas (xas (xas x a0) b0) d0).2.1 1 f = x.2.1 1 f ∧ evI s id a b (nI d0) t 6 f = s.2 6 f)) ∨ ((xas (xas (xas x a0) b0) d0).2.1 0 f = (x.2.1 0 f &&& (-256)) ||| (x.1 1 f).toInt64 ∧ (xas (xas (xas x a0) b0) d0).2.1 1 f = x.2.1 1 f ||| 255 ∧ evI s id a b (nI d0) t 6 f = nI (s.1 3 + 1))
    rw [e6]
    by_cases z1 : f = a0
    · right
      subst z1
      rw [if_pos (Or.inl rfl)]
      refine ⟨?_, ?_, rfl⟩ <;> simp [xas, up2, hab, had]
    · by_cases z2 : f = b0
      · right
        subst z2
        rw [if_pos (Or.inr (Or.inl rfl))]
        refine ⟨?_, ?_, rfl⟩ <;> simp [xas, up2, z1, hbd]
      · by_cases z3 : f = d0
        · right
          subst z3
          rw [if_pos (Or.inr (Or.inr rfl))]
          refine ⟨?_, ?_, rfl⟩ <;> simp [xas, up2, z1, z2]
        · left
          rw [if_neg (by omega)]
          refine ⟨?_, ?_, rfl⟩ <;> simp [xas, up2, z1, z2, z3]
