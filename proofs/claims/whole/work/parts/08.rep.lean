/-! Worlds by components: component (k, i) lies at the address ad k i and holds V k i. -/
def up2 {α : Type} (f : Nat → Nat → α) (k i : Nat) (v : α) : Nat → Nat → α := fun k' i' => if k' = k ∧ i' = i then v else f k' i'
theorem up2_self {α : Type} (f : Nat → Nat → α) (k i : Nat) (v : α) : up2 f k i v k i = v := by simp [up2]
theorem up2_ne {α : Type} (f : Nat → Nat → α) {k i k' i' : Nat} (v : α) (h : ¬ (k' = k ∧ i' = i)) : up2 f k i v k' i' = f k' i' := by simp [up2, h]
theorem up2_k {α : Type} (f : Nat → Nat → α) {k i k' : Nat} (v : α) (h : k' ≠ k) : up2 f k i v k' = f k' := by
  funext i'
  simp [up2, h]
theorem up2_row (f : Nat → Nat → Int32) (k i : Nat) (v : Int32) : up2 f k i v k = upd (f k) i v := by
  funext i'
  simp [up2, upd]
def rp (h : mx_H) (lv : Nat → Nat → Prop) (ad : Nat → Nat → Nat) (V : Nat → Nat → mx_E) : Prop := (∀ k i, lv k i → h (ad k i) = some (V k i)) ∧ ∀ k i k' i', lv k i → lv k' i' → ad k i = ad k' i' → k = k' ∧ i = i'
theorem rp_up {h : mx_H} {lv : Nat → Nat → Prop} {ad : Nat → Nat → Nat} {V : Nat → Nat → mx_E} (r : rp h lv ad V) {k i : Nat} (hl : lv k i) (e : mx_E) : rp (va_up h (ad k i) (some e)) lv ad (up2 V k i e) := by
  refine ⟨fun k' i' hl' => ?_, r.2⟩
  by_cases he : ad k' i' = ad k i
  · obtain ⟨h1, h2⟩ := r.2 k' i' k i hl' hl he
    subst h1
    subst h2
    rw [va_up_self, up2_self]
  · rw [va_up_ne _ _ he, up2_ne _ _ (fun z => he (by rw [z.1, z.2]))]
    exact r.1 k' i' hl'
theorem rp_new {h : mx_H} {lv : Nat → Nat → Prop} {ad : Nat → Nat → Nat} {V : Nat → Nat → mx_E} (r : rp h lv ad V) {k i q : Nat} (hq : h q = none) (hn : ¬ lv k i) (e : mx_E) : rp (va_up h q (some e)) (fun k' i' => lv k' i' ∨ (k' = k ∧ i' = i)) (up2 ad k i q) (up2 V k i e) := by
  have hne : ∀ k' i', lv k' i' → ad k' i' ≠ q := fun k' i' hl he => by
    have := r.1 k' i' hl
    rw [he, hq] at this
    cases this
  have hki : ∀ k' i', lv k' i' → ¬ (k' = k ∧ i' = i) := fun k' i' hl he => hn (by rw [← he.1, ← he.2]; exact hl)
  refine ⟨fun k' i' hl' => ?_, fun k1 i1 k2 i2 h1 h2 he => ?_⟩
  · rcases hl' with hl' | ⟨rfl, rfl⟩
    · rw [up2_ne _ _ (hki k' i' hl'), up2_ne _ _ (hki k' i' hl'), va_up_ne _ _ (hne k' i' hl')]
      exact r.1 k' i' hl'
    · rw [up2_self, up2_self, va_up_self]
  · rcases h1 with h1 | ⟨rfl, rfl⟩
    · rcases h2 with h2 | ⟨rfl, rfl⟩
      · rw [up2_ne _ _ (hki k1 i1 h1), up2_ne _ _ (hki k2 i2 h2)] at he
        exact r.2 k1 i1 k2 i2 h1 h2 he
      · rw [up2_ne _ _ (hki k1 i1 h1), up2_self] at he
        exact absurd he (hne k1 i1 h1)
    · rcases h2 with h2 | ⟨rfl, rfl⟩
      · rw [up2_self, up2_ne _ _ (hki k2 i2 h2)] at he
        exact absurd he.symm (hne k2 i2 h2)
      · exact ⟨rfl, rfl⟩
theorem rp_as {h : mx_H} {lv lv' : Nat → Nat → Prop} {ad ad' : Nat → Nat → Nat} {V V' : Nat → Nat → mx_E} (r : rp h lv ad V) (hl : ∀ k i, lv' k i → lv k i) (ha : ∀ k i, lv' k i → ad' k i = ad k i) (hV : ∀ k i, lv' k i → V' k i = V k i) : rp h lv' ad' V' :=
  ⟨fun k i h1 => by rw [ha k i h1, hV k i h1]; exact r.1 k i (hl k i h1), fun k i k' i' h1 h2 e => r.2 k i k' i' (hl k i h1) (hl k' i' h2) (by rw [← ha k i h1, ← ha k' i' h2]; exact e)⟩
theorem rp_ne {h : mx_H} {lv : Nat → Nat → Prop} {ad : Nat → Nat → Nat} {V : Nat → Nat → mx_E} (r : rp h lv ad V) {k i k' i' : Nat} (h1 : lv k i) (h2 : lv k' i') (hne : ¬ (k = k' ∧ i = i')) : ad k i ≠ ad k' i' := fun e => hne (r.2 k i k' i' h1 h2 e)
