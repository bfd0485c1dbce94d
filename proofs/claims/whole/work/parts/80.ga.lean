/-- c is one of signal j's places in its frame -/
def cvr (s : se_S) (j c : Nat) : Prop := (s.2 8 j).toNatClampNeg ≤ c ∧ c < (s.2 8 j).toNatClampNeg + (s.2 9 j).toNatClampNeg
abbrev GA (s : se_S) : Prop := (s.1 0 ≤ 8) ∧ (s.1 1 ≤ 16) ∧ (s.1 2 ≤ 2) ∧ (s.1 3 ≤ 2) ∧ (∀ t, s.1 (4 + t) ≤ 8) ∧ (∀ f, f < s.1 0 → ∃ i, i < 60 ∧ s.2 1 f = nI i) ∧ (∀ f f', f < s.1 0 → f' < s.1 0 → s.2 1 f = s.2 1 f' → f = f') ∧ (∀ f, f < s.1 0 → ∃ n, 1 ≤ n ∧ n ≤ 8 ∧ s.2 3 f = nI n) ∧ (∀ f, ∃ k, k ≤ 2 ∧ s.2 6 f = nI k) ∧ (∀ f, s.1 0 ≤ f → s.2 6 f = 0) ∧ (∀ j, j < s.1 1 → ∃ f o w n, f < s.1 0 ∧ 1 ≤ w ∧ w ≤ 16 ∧ s.2 7 j = nI f ∧ s.2 8 j = nI o ∧ s.2 9 j = nI w ∧ s.2 3 f = nI n ∧ n ≤ 8 ∧ o + w ≤ 8 * n) ∧ (∀ j j', j < s.1 1 → j' < s.1 1 → s.2 7 j = s.2 7 j' → j ≠ j' → ∀ c, ¬ (cvr s j c ∧ cvr s j' c)) ∧ (∀ j f, j < s.1 1 → s.2 7 j = nI f → f < s.1 0 → 0 < s.2 6 f → ∀ c, cvr s j c → 8 ≤ c) ∧ (∀ g, g < s.1 2 → gm (s.2 13) (s.1 0) g) ∧ (∀ e, e < s.1 3 → gm (s.2 15) (s.1 0) e) ∧ (∀ e, e < s.1 3 → ∃ i, i < 60 ∧ s.2 14 e = nI i) ∧ (∀ e, e < s.1 3 → ∃ t, t < 3 ∧ s.2 16 e = nI t) ∧ (∀ e, e < s.1 3 → ∀ q q', q < 3 → q' < 3 → q ≠ q' → ¬ s.2 15 (3 * e + q) = -1 → ¬ s.2 15 (3 * e + q') = -1 → ¬ s.2 15 (3 * e + q) = s.2 15 (3 * e + q') ∧ s.2 3 (s.2 15 (3 * e + q)).toNatClampNeg = s.2 3 (s.2 15 (3 * e + q')).toNatClampNeg ∧ s.2 4 (s.2 15 (3 * e + q)).toNatClampNeg = s.2 4 (s.2 15 (3 * e + q')).toNatClampNeg) ∧ (∀ t j, t < 3 → j < s.1 (4 + t) → (s.2 17 (8 * t + j) = 0 ∧ ∃ f, f < s.1 0 ∧ s.2 18 (8 * t + j) = nI f) ∨ (s.2 17 (8 * t + j) = 1 ∧ ∃ g, g < s.1 2 ∧ s.2 18 (8 * t + j) = nI g) ∨ (s.2 17 (8 * t + j) = 2 ∧ ∃ e, e < s.1 3 ∧ s.2 18 (8 * t + j) = nI e))
theorem GA.c0 {s : se_S} (h : GA s) : s.1 0 ≤ 8 := h.1
theorem GA.c1 {s : se_S} (h : GA s) : s.1 1 ≤ 16 := h.2.1
theorem GA.c2 {s : se_S} (h : GA s) : s.1 2 ≤ 2 := h.2.2.1
theorem GA.c3 {s : se_S} (h : GA s) : s.1 3 ≤ 2 := h.2.2.2.1
theorem GA.c4 {s : se_S} (h : GA s) : ∀ t, t < 3 → s.1 (4 + t) ≤ 8 := fun t _ => h.2.2.2.2.1 t
theorem GA.c5 {s : se_S} (h : GA s) : ∀ t, s.1 (4 + t) ≤ 8 := h.2.2.2.2.1
theorem GA.nm {s : se_S} (h : GA s) : ∀ f, f < s.1 0 → ∃ i, i < 60 ∧ s.2 1 f = nI i := h.2.2.2.2.2.1
theorem GA.dj {s : se_S} (h : GA s) : ∀ f f', f < s.1 0 → f' < s.1 0 → s.2 1 f = s.2 1 f' → f = f' := h.2.2.2.2.2.2.1
theorem GA.ln {s : se_S} (h : GA s) : ∀ f, f < s.1 0 → ∃ n, 1 ≤ n ∧ n ≤ 8 ∧ s.2 3 f = nI n := h.2.2.2.2.2.2.2.1
theorem GA.pt {s : se_S} (h : GA s) : ∀ f, ∃ k, k ≤ 2 ∧ s.2 6 f = nI k := h.2.2.2.2.2.2.2.2.1
theorem GA.pz {s : se_S} (h : GA s) : ∀ f, s.1 0 ≤ f → s.2 6 f = 0 := h.2.2.2.2.2.2.2.2.2.1
theorem GA.sg {s : se_S} (h : GA s) : ∀ j, j < s.1 1 → ∃ f o w n, f < s.1 0 ∧ 1 ≤ w ∧ w ≤ 16 ∧ s.2 7 j = nI f ∧ s.2 8 j = nI o ∧ s.2 9 j = nI w ∧ s.2 3 f = nI n ∧ n ≤ 8 ∧ o + w ≤ 8 * n := h.2.2.2.2.2.2.2.2.2.2.1
theorem GA.ap {s : se_S} (h : GA s) : ∀ j j', j < s.1 1 → j' < s.1 1 → s.2 7 j = s.2 7 j' → j ≠ j' → ∀ c, ¬ (cvr s j c ∧ cvr s j' c) := h.2.2.2.2.2.2.2.2.2.2.2.1
theorem GA.a8 {s : se_S} (h : GA s) : ∀ j f, j < s.1 1 → s.2 7 j = nI f → f < s.1 0 → 0 < s.2 6 f → ∀ c, cvr s j c → 8 ≤ c := h.2.2.2.2.2.2.2.2.2.2.2.2.1
theorem GA.gg {s : se_S} (h : GA s) : ∀ g, g < s.1 2 → gm (s.2 13) (s.1 0) g := h.2.2.2.2.2.2.2.2.2.2.2.2.2.1
theorem GA.ge {s : se_S} (h : GA s) : ∀ e, e < s.1 3 → gm (s.2 15) (s.1 0) e := h.2.2.2.2.2.2.2.2.2.2.2.2.2.2.1
theorem GA.en {s : se_S} (h : GA s) : ∀ e, e < s.1 3 → ∃ i, i < 60 ∧ s.2 14 e = nI i := h.2.2.2.2.2.2.2.2.2.2.2.2.2.2.2.1
theorem GA.rs {s : se_S} (h : GA s) : ∀ e, e < s.1 3 → ∃ t, t < 3 ∧ s.2 16 e = nI t := h.2.2.2.2.2.2.2.2.2.2.2.2.2.2.2.2.1
theorem GA.al {s : se_S} (h : GA s) : ∀ e, e < s.1 3 → ∀ q q', q < 3 → q' < 3 → q ≠ q' → ¬ s.2 15 (3 * e + q) = -1 → ¬ s.2 15 (3 * e + q') = -1 → ¬ s.2 15 (3 * e + q) = s.2 15 (3 * e + q') ∧ s.2 3 (s.2 15 (3 * e + q)).toNatClampNeg = s.2 3 (s.2 15 (3 * e + q')).toNatClampNeg ∧ s.2 4 (s.2 15 (3 * e + q)).toNatClampNeg = s.2 4 (s.2 15 (3 * e + q')).toNatClampNeg := h.2.2.2.2.2.2.2.2.2.2.2.2.2.2.2.2.2.1
theorem GA.ek {s : se_S} (h : GA s) : ∀ t j, t < 3 → j < s.1 (4 + t) → (s.2 17 (8 * t + j) = 0 ∧ ∃ f, f < s.1 0 ∧ s.2 18 (8 * t + j) = nI f) ∨ (s.2 17 (8 * t + j) = 1 ∧ ∃ g, g < s.1 2 ∧ s.2 18 (8 * t + j) = nI g) ∨ (s.2 17 (8 * t + j) = 2 ∧ ∃ e, e < s.1 3 ∧ s.2 18 (8 * t + j) = nI e) := h.2.2.2.2.2.2.2.2.2.2.2.2.2.2.2.2.2.2
theorem GA.mk {s : se_S} (x0 : s.1 0 ≤ 8) (x1 : s.1 1 ≤ 16) (x2 : s.1 2 ≤ 2) (x3 : s.1 3 ≤ 2) (x4 : ∀ t, s.1 (4 + t) ≤ 8) (x5 : ∀ f, f < s.1 0 → ∃ i, i < 60 ∧ s.2 1 f = nI i) (x6 : ∀ f f', f < s.1 0 → f' < s.1 0 → s.2 1 f = s.2 1 f' → f = f') (x7 : ∀ f, f < s.1 0 → ∃ n, 1 ≤ n ∧ n ≤ 8 ∧ s.2 3 f = nI n) (x8 : ∀ f, ∃ k, k ≤ 2 ∧ s.2 6 f = nI k) (x9 : ∀ f, s.1 0 ≤ f → s.2 6 f = 0) (x10 : ∀ j, j < s.1 1 → ∃ f o w n, f < s.1 0 ∧ 1 ≤ w ∧ w ≤ 16 ∧ s.2 7 j = nI f ∧ s.2 8 j = nI o ∧ s.2 9 j = nI w ∧ s.2 3 f = nI n ∧ n ≤ 8 ∧ o + w ≤ 8 * n) (x11 : ∀ j j', j < s.1 1 → j' < s.1 1 → s.2 7 j = s.2 7 j' → j ≠ j' → ∀ c, ¬ (cvr s j c ∧ cvr s j' c)) (x12 : ∀ j f, j < s.1 1 → s.2 7 j = nI f → f < s.1 0 → 0 < s.2 6 f → ∀ c, cvr s j c → 8 ≤ c) (x13 : ∀ g, g < s.1 2 → gm (s.2 13) (s.1 0) g) (x14 : ∀ e, e < s.1 3 → gm (s.2 15) (s.1 0) e) (x15 : ∀ e, e < s.1 3 → ∃ i, i < 60 ∧ s.2 14 e = nI i) (x16 : ∀ e, e < s.1 3 → ∃ t, t < 3 ∧ s.2 16 e = nI t) (x17 : ∀ e, e < s.1 3 → ∀ q q', q < 3 → q' < 3 → q ≠ q' → ¬ s.2 15 (3 * e + q) = -1 → ¬ s.2 15 (3 * e + q') = -1 → ¬ s.2 15 (3 * e + q) = s.2 15 (3 * e + q') ∧ s.2 3 (s.2 15 (3 * e + q)).toNatClampNeg = s.2 3 (s.2 15 (3 * e + q')).toNatClampNeg ∧ s.2 4 (s.2 15 (3 * e + q)).toNatClampNeg = s.2 4 (s.2 15 (3 * e + q')).toNatClampNeg) (x18 : ∀ t j, t < 3 → j < s.1 (4 + t) → (s.2 17 (8 * t + j) = 0 ∧ ∃ f, f < s.1 0 ∧ s.2 18 (8 * t + j) = nI f) ∨ (s.2 17 (8 * t + j) = 1 ∧ ∃ g, g < s.1 2 ∧ s.2 18 (8 * t + j) = nI g) ∨ (s.2 17 (8 * t + j) = 2 ∧ ∃ e, e < s.1 3 ∧ s.2 18 (8 * t + j) = nI e)) : GA s := ⟨x0, x1, x2, x3, x4, x5, x6, x7, x8, x9, x10, x11, x12, x13, x14, x15, x16, x17, x18⟩
theorem cvr_as {s s' : se_S} (e8 : s'.2 8 = s.2 8) (e9 : s'.2 9 = s.2 9) (j c : Nat) : cvr s' j c = cvr s j c := by
  unfold cvr
  rw [e8, e9]
/-- the row k of a state that is not what a slot changes -/
def cfg (k : Nat) : Prop := k = 1 ∨ k = 3 ∨ k = 4 ∨ k = 6 ∨ k = 7 ∨ k = 8 ∨ k = 9 ∨ k = 13 ∨ k = 14 ∨ k = 15 ∨ k = 16 ∨ k = 17 ∨ k = 18
theorem GA_as {s s' : se_S} (h : GA s) (e : s'.1 = s.1) (er : ∀ k, cfg k → s'.2 k = s.2 k) : GA s' := by
  have e1 := er 1 (by simp [cfg])
  have e3 := er 3 (by simp [cfg])
  have e4 := er 4 (by simp [cfg])
  have e6 := er 6 (by simp [cfg])
  have e7 := er 7 (by simp [cfg])
  have e8 := er 8 (by simp [cfg])
  have e9 := er 9 (by simp [cfg])
  have e13 := er 13 (by simp [cfg])
  have e14 := er 14 (by simp [cfg])
  have e15 := er 15 (by simp [cfg])
  have e16 := er 16 (by simp [cfg])
  have e17 := er 17 (by simp [cfg])
  have e18 := er 18 (by simp [cfg])
  refine GA.mk ?_ ?_ ?_ ?_ ?_ ?_ ?_ ?_ ?_ ?_ ?_ ?_ ?_ ?_ ?_ ?_ ?_ ?_ ?_
  · rw [e]; exact h.c0
  · rw [e]; exact h.c1
  · rw [e]; exact h.c2
  · rw [e]; exact h.c3
  · rw [e]; exact h.c5
  · rw [e, e1]; exact h.nm
  · rw [e, e1]; exact h.dj
  · rw [e, e3]; exact h.ln
  · rw [e6]; exact h.pt
  · rw [e, e6]; exact h.pz
  · rw [e, e3, e7, e8, e9]; exact h.sg
  · intro j j' h1 h2 h3 h4 c
    rw [cvr_as e8 e9, cvr_as e8 e9]
    rw [e7] at h3
    rw [e] at h1 h2
    exact h.ap j j' h1 h2 h3 h4 c
  · intro j f h1 h2 h3 h4 c
    rw [cvr_as e8 e9]
    rw [e7] at h2
    rw [e] at h1 h3
    rw [e6] at h4
    exact h.a8 j f h1 h2 h3 h4 c
  · rw [e, e13]; exact h.gg
  · rw [e, e15]; exact h.ge
  · rw [e, e14]; exact h.en
  · rw [e, e16]; exact h.rs
  · rw [e, e15, e3, e4]; exact h.al
  · rw [e, e17, e18]; exact h.ek
theorem gm_mono {r : Nat → Int32} {n n' g : Nat} (h : gm r n g) (hn : n ≤ n') : gm r n' g := by
  obtain ⟨⟨a, ha, ea⟩, ⟨b, hb, eb⟩, hc⟩ := h
  refine ⟨⟨a, by omega, ea⟩, ⟨b, by omega, eb⟩, ?_⟩
  rcases hc with hc | ⟨c, hc, ec⟩
  · exact Or.inl hc
  · exact Or.inr ⟨c, by omega, ec⟩
theorem se_tk_f {s : se_S} {id : Int32} (h : se_tk s id = false) : (∀ f, f < s.1 0 → ¬ s.2 1 f = id) ∧ ∀ e, e < s.1 3 → ¬ s.2 14 e = id := by
  unfold se_tk at h
  rw [Bool.or_eq_false_iff] at h
  refine ⟨fun f hf e => ?_, fun f hf e => ?_⟩
  · have := (se_any_iff (fun f => s.2 1 f == id) (s.1 0)).mpr ⟨f, hf, by simpa using e⟩
    rw [h.1] at this
    cases this
  · have := (se_any_iff (fun f => s.2 14 f == id) (s.1 3)).mpr ⟨f, hf, by simpa using e⟩
    rw [h.2] at this
    cases this
theorem GA_frame {s : se_S} (h : GA s) (h0 : s.1 0 < 8) {id node len more : Int32} {i n : Nat} (hi : i < 60) (eid : id = nI i) (htk : se_tk s id = false) (hn1 : 1 ≤ n) (hn8 : n ≤ 8) (en : len = nI n) : GA (va_up s.1 0 (s.1 0 + 1), up2 (up2 (up2 (up2 s.2 1 (s.1 0) id) 2 (s.1 0) node) 3 (s.1 0) len) 4 (s.1 0) more) := by
  have k0 : va_up s.1 0 (s.1 0 + 1) 0 = s.1 0 + 1 := rfl
  have kq : ∀ q, q ≠ 0 → va_up s.1 0 (s.1 0 + 1) q = s.1 q := fun q hq => va_up_ne _ _ hq
  have o1 : ∀ f, f ≠ s.1 0 → up2 (up2 (up2 (up2 s.2 1 (s.1 0) id) 2 (s.1 0) node) 3 (s.1 0) len) 4 (s.1 0) more 1 f = s.2 1 f := fun f hf => by simp [up2, hf]
  have o1' : up2 (up2 (up2 (up2 s.2 1 (s.1 0) id) 2 (s.1 0) node) 3 (s.1 0) len) 4 (s.1 0) more 1 (s.1 0) = id := by simp [up2]
  have o3 : ∀ f, f ≠ s.1 0 → up2 (up2 (up2 (up2 s.2 1 (s.1 0) id) 2 (s.1 0) node) 3 (s.1 0) len) 4 (s.1 0) more 3 f = s.2 3 f := fun f hf => by simp [up2, hf]
  have o3' : up2 (up2 (up2 (up2 s.2 1 (s.1 0) id) 2 (s.1 0) node) 3 (s.1 0) len) 4 (s.1 0) more 3 (s.1 0) = len := by simp [up2]
  have o4 : ∀ f, f ≠ s.1 0 → up2 (up2 (up2 (up2 s.2 1 (s.1 0) id) 2 (s.1 0) node) 3 (s.1 0) len) 4 (s.1 0) more 4 f = s.2 4 f := fun f hf => by simp [up2, hf]
  obtain ⟨t1, t2⟩ := se_tk_f htk
  refine GA.mk ?_ ?_ ?_ ?_ ?_ ?_ ?_ ?_ ?_ ?_ ?_ ?_ ?_ ?_ ?_ ?_ ?_ ?_ ?_
  · show va_up s.1 0 (s.1 0 + 1) 0 ≤ 8
    rw [k0]; omega
  · exact h.c1
  · exact h.c2
  · exact h.c3
  · intro t
    show va_up s.1 0 (s.1 0 + 1) (4 + t) ≤ 8
    rw [kq _ (by omega)]
    exact h.c5 t
  · intro f hf
    have hf : f < s.1 0 + 1 := hf
    show ∃ i, i < 60 ∧ up2 (up2 (up2 (up2 s.2 1 (s.1 0) id) 2 (s.1 0) node) 3 (s.1 0) len) 4 (s.1 0) more 1 f = nI i
    by_cases e : f = s.1 0
    · rw [e, o1']; exact ⟨i, hi, eid⟩
    · rw [o1 f e]; exact h.nm f (by omega)
  · intro f f' hf hf' e
    have hf : f < s.1 0 + 1 := hf
    have hf' : f' < s.1 0 + 1 := hf'
    have e : up2 (up2 (up2 (up2 s.2 1 (s.1 0) id) 2 (s.1 0) node) 3 (s.1 0) len) 4 (s.1 0) more 1 f = up2 (up2 (up2 (up2 s.2 1 (s.1 0) id) 2 (s.1 0) node) 3 (s.1 0) len) 4 (s.1 0) more 1 f' := e
    by_cases e1 : f = s.1 0 <;> by_cases e2 : f' = s.1 0
    · omega
    · rw [e1, o1', o1 f' e2] at e
      exact absurd e.symm (t1 f' (by omega))
    · rw [e2, o1', o1 f e1] at e
      exact absurd e (t1 f (by omega))
    · rw [o1 f e1, o1 f' e2] at e
      exact h.dj f f' (by omega) (by omega) e
  · intro f hf
    have hf : f < s.1 0 + 1 := hf
    show ∃ n, 1 ≤ n ∧ n ≤ 8 ∧ up2 (up2 (up2 (up2 s.2 1 (s.1 0) id) 2 (s.1 0) node) 3 (s.1 0) len) 4 (s.1 0) more 3 f = nI n
    by_cases e : f = s.1 0
    · rw [e, o3']; exact ⟨n, hn1, hn8, en⟩
    · rw [o3 f e]; exact h.ln f (by omega)
  · exact h.pt
  · intro f hf
    have hf : s.1 0 + 1 ≤ f := hf
    exact h.pz f (by omega)
  · intro j hj
    obtain ⟨f, o, w, n', hf, r⟩ := h.sg j hj
    refine ⟨f, o, w, n', show f < s.1 0 + 1 by omega, ?_⟩
    show 1 ≤ w ∧ w ≤ 16 ∧ s.2 7 j = nI f ∧ s.2 8 j = nI o ∧ s.2 9 j = nI w ∧ up2 (up2 (up2 (up2 s.2 1 (s.1 0) id) 2 (s.1 0) node) 3 (s.1 0) len) 4 (s.1 0) more 3 f = nI n' ∧ n' ≤ 8 ∧ o + w ≤ 8 * n'
    rw [o3 f (by omega)]
    exact r
  · exact h.ap
  · intro j f hj e7 hf h6 c
    have hf : f < s.1 0 + 1 := hf
    have h6 : 0 < s.2 6 f := h6
    have e7 : s.2 7 j = nI f := e7
    by_cases e : f = s.1 0
    · rw [e, h.pz _ (Nat.le_refl _)] at h6
      exact absurd h6 (by decide)
    · exact h.a8 j f hj e7 (by omega) h6 c
  · intro g hg
    exact gm_mono (h.gg g hg) (show s.1 0 ≤ s.1 0 + 1 by omega)
  · intro e he
    exact gm_mono (h.ge e he) (show s.1 0 ≤ s.1 0 + 1 by omega)
  · exact h.en
  · exact h.rs
  · intro e he q q' hq hq' hne n1 n2
    have key : ∀ q, q < 3 → ¬ s.2 15 (3 * e + q) = -1 → (s.2 15 (3 * e + q)).toNatClampNeg ≠ s.1 0 := fun q hq n1 => by
      obtain ⟨m0, m1, m2⟩ := h.ge e he
      have : ∃ f, f < s.1 0 ∧ s.2 15 (3 * e + q) = nI f := by
        match q, hq with
        | 0, _ => exact m0
        | 1, _ => exact m1
        | 2, _ => exact m2.resolve_left n1
      obtain ⟨f, hf, ef⟩ := this
      rw [ef, nI_clamp (by omega)]
      omega
    show ¬ s.2 15 (3 * e + q) = s.2 15 (3 * e + q') ∧ up2 (up2 (up2 (up2 s.2 1 (s.1 0) id) 2 (s.1 0) node) 3 (s.1 0) len) 4 (s.1 0) more 3 (s.2 15 (3 * e + q)).toNatClampNeg = up2 (up2 (up2 (up2 s.2 1 (s.1 0) id) 2 (s.1 0) node) 3 (s.1 0) len) 4 (s.1 0) more 3 (s.2 15 (3 * e + q')).toNatClampNeg ∧ up2 (up2 (up2 (up2 s.2 1 (s.1 0) id) 2 (s.1 0) node) 3 (s.1 0) len) 4 (s.1 0) more 4 (s.2 15 (3 * e + q)).toNatClampNeg = up2 (up2 (up2 (up2 s.2 1 (s.1 0) id) 2 (s.1 0) node) 3 (s.1 0) len) 4 (s.1 0) more 4 (s.2 15 (3 * e + q')).toNatClampNeg
    rw [o3 _ (key q hq n1), o3 _ (key q' hq' n2), o4 _ (key q hq n1), o4 _ (key q' hq' n2)]
    exact h.al e he q q' hq hq' hne n1 n2
  · intro t j ht hj
    have hj : j < va_up s.1 0 (s.1 0 + 1) (4 + t) := hj
    rw [kq _ (by omega)] at hj
    rcases h.ek t j ht hj with ⟨a, f, hf, ef⟩ | ⟨a, f, hf, ef⟩ | ⟨a, f, hf, ef⟩
    · exact Or.inl ⟨a, f, show f < s.1 0 + 1 by omega, ef⟩
    · exact Or.inr (Or.inl ⟨a, f, hf, ef⟩)
    · exact Or.inr (Or.inr ⟨a, f, hf, ef⟩)
theorem cov_cvr {s : se_S} {j o w : Nat} (e8 : s.2 8 j = nI o) (e9 : s.2 9 j = nI w) (ho : o + w ≤ 64) {c : Nat} (hc : c < 64) : se_cov s j (nI c) = true ↔ cvr s j c := by
  unfold se_cov cvr
  rw [e8, e9, nI_add, nI_clamp (by omega), nI_clamp (by omega), Bool.and_eq_true, decide_eq_true_iff, decide_eq_true_iff, nI_leI (by omega) (by omega), nI_ltI (by omega) (by omega)]
theorem bt_cvr {s : se_S} (h : GA s) (f : Nat) {c : Nat} (hc : c < 64) : se_bt s (nI f) (nI c) = true ↔ ∃ j, j < s.1 1 ∧ s.2 7 j = nI f ∧ cvr s j c := by
  unfold se_bt
  rw [se_any_iff]
  constructor
  · rintro ⟨j, hj, e⟩
    obtain ⟨_, o, w, n, _, _, _, _, e8, e9, _, _, _⟩ := h.sg j hj
    simp only [Bool.and_eq_true, beq_iff_eq] at e
    exact ⟨j, hj, e.1, (cov_cvr e8 e9 (by omega) hc).mp e.2⟩
  · rintro ⟨j, hj, e7, ec⟩
    obtain ⟨_, o, w, n, _, _, _, _, e8, e9, _, _, _⟩ := h.sg j hj
    refine ⟨j, hj, ?_⟩
    simp only [Bool.and_eq_true, beq_iff_eq]
    exact ⟨e7, (cov_cvr e8 e9 (by omega) hc).mpr ec⟩
theorem GA_signal {s : se_S} (h : GA s) {fr off w v : Int32} {f o w0 n : Nat} (hf : f < s.1 0) (efr : fr = nI f) (eo : off = nI o) (ew : w = nI w0) (h1 : 1 ≤ w0) (h16 : w0 ≤ 16) (en : s.2 3 f = nI n) (hn : n ≤ 8) (how : o + w0 ≤ 8 * n) (hs : s.1 1 < 16) (h6 : ¬ (0 < s.2 6 f ∧ o < 8)) (hfree : se_any (fun j => se_bt s (nI f) (nI o + nI j)) w0 = false) : GA (va_up s.1 1 (s.1 1 + 1), up2 (up2 (up2 (up2 (up2 s.2 7 (s.1 1) fr) 8 (s.1 1) off) 9 (s.1 1) w) 10 (s.1 1) v) 11 (s.1 1) v) := by
  generalize hs' : ((va_up s.1 1 (s.1 1 + 1), up2 (up2 (up2 (up2 (up2 s.2 7 (s.1 1) fr) 8 (s.1 1) off) 9 (s.1 1) w) 10 (s.1 1) v) 11 (s.1 1) v) : se_S) = s'
  have k1 : s'.1 1 = s.1 1 + 1 := by rw [← hs']; rfl
  have kq : ∀ q, q ≠ 1 → s'.1 q = s.1 q := fun q hq => by rw [← hs']; exact va_up_ne _ _ hq
  have rq : ∀ q, q ≠ 7 → q ≠ 8 → q ≠ 9 → q ≠ 10 → q ≠ 11 → s'.2 q = s.2 q := fun q a1 a2 a3 a4 a5 => by
    rw [← hs']
    show up2 (up2 (up2 (up2 (up2 s.2 7 (s.1 1) fr) 8 (s.1 1) off) 9 (s.1 1) w) 10 (s.1 1) v) 11 (s.1 1) v q = _
    rw [up2_k _ _ a5, up2_k _ _ a4, up2_k _ _ a3, up2_k _ _ a2, up2_k _ _ a1]
  have o7 : ∀ j, j ≠ s.1 1 → s'.2 7 j = s.2 7 j := fun j hj => by rw [← hs']; simp [up2, hj]
  have o8 : ∀ j, j ≠ s.1 1 → s'.2 8 j = s.2 8 j := fun j hj => by rw [← hs']; simp [up2, hj]
  have o9 : ∀ j, j ≠ s.1 1 → s'.2 9 j = s.2 9 j := fun j hj => by rw [← hs']; simp [up2, hj]
  have n7 : s'.2 7 (s.1 1) = nI f := by rw [← hs', ← efr]; simp [up2]
  have n8 : s'.2 8 (s.1 1) = nI o := by rw [← hs', ← eo]; simp [up2]
  have n9 : s'.2 9 (s.1 1) = nI w0 := by rw [← hs', ← ew]; simp [up2]
  have cv : ∀ j c, j ≠ s.1 1 → (cvr s' j c ↔ cvr s j c) := fun j c hj => by unfold cvr; rw [o8 j hj, o9 j hj]
  have cvn : ∀ c, cvr s' (s.1 1) c ↔ o ≤ c ∧ c < o + w0 := fun c => by unfold cvr; rw [n8, n9, nI_clamp (by omega), nI_clamp (by omega)]
  have free : ∀ j c, j < s.1 1 → s.2 7 j = nI f → cvr s j c → ¬ (o ≤ c ∧ c < o + w0) := fun j c hj e7 hcv hc => by
    have : se_any (fun j => se_bt s (nI f) (nI o + nI j)) w0 = true := (se_any_iff _ _).mpr ⟨c - o, by omega, by
      show se_bt s (nI f) (nI o + nI (c - o)) = true
      rw [nI_add, show o + (c - o) = c by omega]
      exact (bt_cvr h f (by omega)).mpr ⟨j, hj, e7, hcv⟩⟩
    rw [hfree] at this
    cases this
  have e1 := rq 1 (by decide) (by decide) (by decide) (by decide) (by decide)
  have e3 := rq 3 (by decide) (by decide) (by decide) (by decide) (by decide)
  have e4 := rq 4 (by decide) (by decide) (by decide) (by decide) (by decide)
  have e6 := rq 6 (by decide) (by decide) (by decide) (by decide) (by decide)
  have e13 := rq 13 (by decide) (by decide) (by decide) (by decide) (by decide)
  have e14 := rq 14 (by decide) (by decide) (by decide) (by decide) (by decide)
  have e15 := rq 15 (by decide) (by decide) (by decide) (by decide) (by decide)
  have e16 := rq 16 (by decide) (by decide) (by decide) (by decide) (by decide)
  have e17 := rq 17 (by decide) (by decide) (by decide) (by decide) (by decide)
  have e18 := rq 18 (by decide) (by decide) (by decide) (by decide) (by decide)
  have c0 := kq 0 (by decide)
  have c2 := kq 2 (by decide)
  have c3 := kq 3 (by decide)
  refine GA.mk ?_ ?_ ?_ ?_ ?_ ?_ ?_ ?_ ?_ ?_ ?_ ?_ ?_ ?_ ?_ ?_ ?_ ?_ ?_
  · rw [c0]; exact h.c0
  · rw [k1]; omega
  · rw [c2]; exact h.c2
  · rw [c3]; exact h.c3
  · intro t
    rw [kq _ (by omega)]; exact h.c5 t
  · rw [c0, e1]; exact h.nm
  · rw [c0, e1]; exact h.dj
  · rw [c0, e3]; exact h.ln
  · rw [e6]; exact h.pt
  · rw [c0, e6]; exact h.pz
  · intro j hj
    rw [k1] at hj
    rw [c0, e3]
    by_cases ej : j = s.1 1
    · rw [ej, n7, n8, n9]
      exact ⟨f, o, w0, n, hf, h1, h16, rfl, rfl, rfl, en, hn, how⟩
    · rw [o7 j ej, o8 j ej, o9 j ej]
      exact h.sg j (by omega)
  · intro j j' hj hj' e7 hne c hc
    rw [k1] at hj hj'
    by_cases ej : j = s.1 1
    · have ej' : j' ≠ s.1 1 := by omega
      rw [ej, n7, o7 j' ej'] at e7
      rw [ej, cvn, cv j' c ej'] at hc
      exact free j' c (by omega) e7.symm hc.2 hc.1
    · by_cases ej' : j' = s.1 1
      · rw [ej', n7, o7 j ej] at e7
        rw [ej', cvn, cv j c ej] at hc
        exact free j c (by omega) e7 hc.1 hc.2
      · rw [o7 j ej, o7 j' ej'] at e7
        rw [cv j c ej, cv j' c ej'] at hc
        exact h.ap j j' (by omega) (by omega) e7 hne c hc
  · intro j f' hj e7 hf' hp c hc
    rw [k1] at hj
    rw [c0] at hf'
    rw [e6] at hp
    by_cases ej : j = s.1 1
    · rw [ej, n7, nI_eq (by have := h.c0; omega) (by have := h.c0; omega)] at e7
      rw [ej, cvn] at hc
      rw [← e7] at hp
      have : ¬ o < 8 := fun z => h6 ⟨hp, z⟩
      omega
    · rw [o7 j ej] at e7
      rw [cv j c ej] at hc
      exact h.a8 j f' (by omega) e7 hf' hp c hc
  · rw [c0, c2, e13]; exact h.gg
  · rw [c0, c3, e15]; exact h.ge
  · rw [c3, e14]; exact h.en
  · rw [c3, e16]; exact h.rs
  · rw [c3, e15, e3, e4]; exact h.al
  · intro t j ht hj
    rw [kq _ (by omega)] at hj
    rw [e17, e18, c0, c2, c3]
    exact h.ek t j ht hj
theorem GA_sporadic {s : se_S} (h : GA s) (h2 : s.1 2 < 2) {a b c : Int32} {a0 b0 : Nat} (ha : a0 < s.1 0) (hb : b0 < s.1 0) (ea : a = nI a0) (eb : b = nI b0) (hc : c = -1 ∨ ∃ c0, c0 < s.1 0 ∧ c = nI c0) : GA (va_up s.1 2 (s.1 2 + 1), r3 s.2 13 (s.1 2) a b c) := by
  generalize hs' : ((va_up s.1 2 (s.1 2 + 1), r3 s.2 13 (s.1 2) a b c) : se_S) = s'
  have k1 : s'.1 2 = s.1 2 + 1 := by rw [← hs']; rfl
  have kq : ∀ q, q ≠ 2 → s'.1 q = s.1 q := fun q hq => by rw [← hs']; exact va_up_ne _ _ hq
  have rq : ∀ q, q ≠ 13 → s'.2 q = s.2 q := fun q a1 => by
    rw [← hs']
    show up2 (up2 (up2 s.2 13 (3 * s.1 2) a) 13 (3 * s.1 2 + 1) b) 13 (3 * s.1 2 + 2) c q = _
    rw [up2_k _ _ a1, up2_k _ _ a1, up2_k _ _ a1]
  have o13 : ∀ k, k < 3 * s.1 2 → s'.2 13 k = s.2 13 k := fun k hk => by
    rw [← hs']
    show up2 (up2 (up2 s.2 13 (3 * s.1 2) a) 13 (3 * s.1 2 + 1) b) 13 (3 * s.1 2 + 2) c 13 k = _
    rw [up2_ne _ _ (by omega), up2_ne _ _ (by omega), up2_ne _ _ (by omega)]
  have n0 : s'.2 13 (3 * s.1 2) = a := by
    rw [← hs']
    show up2 (up2 (up2 s.2 13 (3 * s.1 2) a) 13 (3 * s.1 2 + 1) b) 13 (3 * s.1 2 + 2) c 13 (3 * s.1 2) = _
    rw [up2_ne _ _ (by omega), up2_ne _ _ (by omega), up2_self]
  have n1 : s'.2 13 (3 * s.1 2 + 1) = b := by
    rw [← hs']
    show up2 (up2 (up2 s.2 13 (3 * s.1 2) a) 13 (3 * s.1 2 + 1) b) 13 (3 * s.1 2 + 2) c 13 (3 * s.1 2 + 1) = _
    rw [up2_ne _ _ (by omega), up2_self]
  have n2 : s'.2 13 (3 * s.1 2 + 2) = c := by
    rw [← hs']
    show up2 (up2 (up2 s.2 13 (3 * s.1 2) a) 13 (3 * s.1 2 + 1) b) 13 (3 * s.1 2 + 2) c 13 (3 * s.1 2 + 2) = _
    rw [up2_self]
  have e1 := rq 1 (by decide)
  have e3 := rq 3 (by decide)
  have e4 := rq 4 (by decide)
  have e6 := rq 6 (by decide)
  have e7 := rq 7 (by decide)
  have e8 := rq 8 (by decide)
  have e9 := rq 9 (by decide)
  have e14 := rq 14 (by decide)
  have e15 := rq 15 (by decide)
  have e16 := rq 16 (by decide)
  have e17 := rq 17 (by decide)
  have e18 := rq 18 (by decide)
  have c0 := kq 0 (by decide)
  have c1 := kq 1 (by decide)
  have c3 := kq 3 (by decide)
  refine GA.mk ?_ ?_ ?_ ?_ ?_ ?_ ?_ ?_ ?_ ?_ ?_ ?_ ?_ ?_ ?_ ?_ ?_ ?_ ?_
  · rw [c0]; exact h.c0
  · rw [c1]; exact h.c1
  · rw [k1]; omega
  · rw [c3]; exact h.c3
  · intro t
    rw [kq _ (by omega)]; exact h.c5 t
  · rw [c0, e1]; exact h.nm
  · rw [c0, e1]; exact h.dj
  · rw [c0, e3]; exact h.ln
  · rw [e6]; exact h.pt
  · rw [c0, e6]; exact h.pz
  · rw [c0, c1, e3, e7, e8, e9]; exact h.sg
  · intro j j' hj hj' e hne c
    rw [cvr_as e8 e9, cvr_as e8 e9]
    rw [c1] at hj hj'
    rw [e7] at e
    exact h.ap j j' hj hj' e hne c
  · intro j f h1 h2 h3 h4 c
    rw [cvr_as e8 e9]
    rw [e7] at h2
    rw [c1] at h1
    rw [c0] at h3
    rw [e6] at h4
    exact h.a8 j f h1 h2 h3 h4 c
  · intro g hg
    rw [k1] at hg
    rw [c0]
    by_cases e : g = s.1 2
    · subst e
      unfold gm
      rw [n0, n1, n2]
      exact ⟨⟨a0, ha, ea⟩, ⟨b0, hb, eb⟩, hc⟩
    · have := h.gg g (by omega)
      unfold gm at this ⊢
      rw [o13 _ (by omega), o13 _ (by omega), o13 _ (by omega)]
      exact this
  · rw [c0, c3, e15]; exact h.ge
  · rw [c3, e14]; exact h.en
  · rw [c3, e16]; exact h.rs
  · rw [c3, e15, e3, e4]; exact h.al
  · intro t j ht hj
    rw [kq _ (by omega)] at hj
    rw [e17, e18, c0, k1, c3]
    rcases h.ek t j ht hj with z | ⟨z, g, hg, eg⟩ | z
    · exact Or.inl z
    · exact Or.inr (Or.inl ⟨z, g, by omega, eg⟩)
    · exact Or.inr (Or.inr z)
theorem GA_event {s s' : se_S} (h : GA s) (h3 : s.1 3 < 2) (k1 : s'.1 3 = s.1 3 + 1) (kq : ∀ q, q ≠ 3 → s'.1 q = s.1 q) (rq : ∀ q, q ≠ 6 → q ≠ 14 → q ≠ 15 → q ≠ 16 → s'.2 q = s.2 q) (o14 : ∀ e, e ≠ s.1 3 → s'.2 14 e = s.2 14 e) {i : Nat} (hi : i < 60) (n14 : s'.2 14 (s.1 3) = nI i) (o16 : ∀ e, e ≠ s.1 3 → s'.2 16 e = s.2 16 e) {t : Nat} (ht : t < 3) (n16 : s'.2 16 (s.1 3) = nI t) (o15 : ∀ k, k < 3 * s.1 3 → s'.2 15 k = s.2 15 k) (m15 : gm (s'.2 15) (s.1 0) (s.1 3)) (a15 : ∀ q q', q < 3 → q' < 3 → q ≠ q' → ¬ s'.2 15 (3 * s.1 3 + q) = -1 → ¬ s'.2 15 (3 * s.1 3 + q') = -1 → ¬ s'.2 15 (3 * s.1 3 + q) = s'.2 15 (3 * s.1 3 + q') ∧ s.2 3 (s'.2 15 (3 * s.1 3 + q)).toNatClampNeg = s.2 3 (s'.2 15 (3 * s.1 3 + q')).toNatClampNeg ∧ s.2 4 (s'.2 15 (3 * s.1 3 + q)).toNatClampNeg = s.2 4 (s'.2 15 (3 * s.1 3 + q')).toNatClampNeg) (e6 : ∀ f, s'.2 6 f = s.2 6 f ∨ (f < s.1 0 ∧ s'.2 6 f = nI (s.1 3 + 1) ∧ ∀ b, b < 8 → se_bt s (nI f) (nI b) = false)) : GA s' := by
  have e1 := rq 1 (by decide) (by decide) (by decide) (by decide)
  have e3 := rq 3 (by decide) (by decide) (by decide) (by decide)
  have e4 := rq 4 (by decide) (by decide) (by decide) (by decide)
  have e7 := rq 7 (by decide) (by decide) (by decide) (by decide)
  have e8 := rq 8 (by decide) (by decide) (by decide) (by decide)
  have e9 := rq 9 (by decide) (by decide) (by decide) (by decide)
  have e13 := rq 13 (by decide) (by decide) (by decide) (by decide)
  have e17 := rq 17 (by decide) (by decide) (by decide) (by decide)
  have e18 := rq 18 (by decide) (by decide) (by decide) (by decide)
  have c0 := kq 0 (by decide)
  have c1 := kq 1 (by decide)
  have c2 := kq 2 (by decide)
  refine GA.mk ?_ ?_ ?_ ?_ ?_ ?_ ?_ ?_ ?_ ?_ ?_ ?_ ?_ ?_ ?_ ?_ ?_ ?_ ?_
  · rw [c0]; exact h.c0
  · rw [c1]; exact h.c1
  · rw [c2]; exact h.c2
  · rw [k1]; omega
  · intro t
    rw [kq _ (by omega)]; exact h.c5 t
  · rw [c0, e1]; exact h.nm
  · rw [c0, e1]; exact h.dj
  · rw [c0, e3]; exact h.ln
  · intro f
    rcases e6 f with z | ⟨_, z, _⟩
    · rw [z]; exact h.pt f
    · exact ⟨s.1 3 + 1, by omega, z⟩
  · intro f hf
    rw [c0] at hf
    rcases e6 f with z | ⟨z, _⟩
    · rw [z]; exact h.pz f hf
    · omega
  · rw [c0, c1, e3, e7, e8, e9]; exact h.sg
  · intro j j' hj hj' e hne c
    rw [cvr_as e8 e9, cvr_as e8 e9]
    rw [c1] at hj hj'
    rw [e7] at e
    exact h.ap j j' hj hj' e hne c
  · intro j f h1 h2 h3 h4 c hc
    rw [cvr_as e8 e9] at hc
    rw [e7] at h2
    rw [c1] at h1
    rw [c0] at h3
    rcases e6 f with z | ⟨_, _, z⟩
    · rw [z] at h4
      exact h.a8 j f h1 h2 h3 h4 c hc
    · apply Classical.byContradiction
      intro h8
      have := (bt_cvr h f (c := c) (by omega)).mpr ⟨j, h1, h2, hc⟩
      rw [z c (by omega)] at this
      cases this
  · rw [c0, c2, e13]; exact h.gg
  · intro e he
    rw [k1] at he
    rw [c0]
    by_cases ee : e = s.1 3
    · rw [ee]; exact m15
    · have := h.ge e (by omega)
      unfold gm at this ⊢
      rw [o15 _ (by omega), o15 _ (by omega), o15 _ (by omega)]
      exact this
  · intro e he
    rw [k1] at he
    by_cases ee : e = s.1 3
    · rw [ee]; exact ⟨i, hi, n14⟩
    · rw [o14 e ee]; exact h.en e (by omega)
  · intro e he
    rw [k1] at he
    by_cases ee : e = s.1 3
    · rw [ee]; exact ⟨t, ht, n16⟩
    · rw [o16 e ee]; exact h.rs e (by omega)
  · intro e he
    rw [k1] at he
    rw [e3, e4]
    by_cases ee : e = s.1 3
    · rw [ee]; exact a15
    · intro q q' hq hq'
      rw [o15 _ (by omega), o15 _ (by omega)]
      exact h.al e (by omega) q q' hq hq'
  · intro t j ht hj
    rw [kq _ (by omega)] at hj
    rw [e17, e18, c0, c2, k1]
    rcases h.ek t j ht hj with z | z | ⟨z, g, hg, eg⟩
    · exact Or.inl z
    · exact Or.inr (Or.inl z)
    · exact Or.inr (Or.inr ⟨z, g, by omega, eg⟩)
theorem GA_entry {s : se_S} (h : GA s) {t0 : Nat} (ht0 : t0 < 3) (h8 : s.1 (4 + t0) < 8) {kind num d : Int32} (hk : (kind = 0 ∧ ∃ f, f < s.1 0 ∧ num = nI f) ∨ (kind = 1 ∧ ∃ f, f < s.1 2 ∧ num = nI f) ∨ (kind = 2 ∧ ∃ f, f < s.1 3 ∧ num = nI f)) : GA (va_up s.1 (4 + t0) (s.1 (4 + t0) + 1), up2 (up2 (up2 s.2 17 (8 * t0 + s.1 (4 + t0)) kind) 18 (8 * t0 + s.1 (4 + t0)) num) 19 (8 * t0 + s.1 (4 + t0)) d) := by
  generalize hs' : ((va_up s.1 (4 + t0) (s.1 (4 + t0) + 1), up2 (up2 (up2 s.2 17 (8 * t0 + s.1 (4 + t0)) kind) 18 (8 * t0 + s.1 (4 + t0)) num) 19 (8 * t0 + s.1 (4 + t0)) d) : se_S) = s'
  have k1 : s'.1 (4 + t0) = s.1 (4 + t0) + 1 := by rw [← hs']; exact va_up_self _ _ _
  have kq : ∀ q, q ≠ 4 + t0 → s'.1 q = s.1 q := fun q hq => by rw [← hs']; exact va_up_ne _ _ hq
  have rq : ∀ q, q ≠ 17 → q ≠ 18 → q ≠ 19 → s'.2 q = s.2 q := fun q a1 a2 a3 => by
    rw [← hs']
    show up2 (up2 (up2 s.2 17 (8 * t0 + s.1 (4 + t0)) kind) 18 (8 * t0 + s.1 (4 + t0)) num) 19 (8 * t0 + s.1 (4 + t0)) d q = _
    rw [up2_k _ _ a3, up2_k _ _ a2, up2_k _ _ a1]
  have o17 : ∀ k, k ≠ 8 * t0 + s.1 (4 + t0) → s'.2 17 k = s.2 17 k := fun k hk => by rw [← hs']; simp [up2, hk]
  have o18 : ∀ k, k ≠ 8 * t0 + s.1 (4 + t0) → s'.2 18 k = s.2 18 k := fun k hk => by rw [← hs']; simp [up2, hk]
  have n17 : s'.2 17 (8 * t0 + s.1 (4 + t0)) = kind := by rw [← hs']; simp [up2]
  have n18 : s'.2 18 (8 * t0 + s.1 (4 + t0)) = num := by rw [← hs']; simp [up2]
  have e1 := rq 1 (by decide) (by decide) (by decide)
  have e3 := rq 3 (by decide) (by decide) (by decide)
  have e4 := rq 4 (by decide) (by decide) (by decide)
  have e6 := rq 6 (by decide) (by decide) (by decide)
  have e7 := rq 7 (by decide) (by decide) (by decide)
  have e8 := rq 8 (by decide) (by decide) (by decide)
  have e9 := rq 9 (by decide) (by decide) (by decide)
  have e13 := rq 13 (by decide) (by decide) (by decide)
  have e14 := rq 14 (by decide) (by decide) (by decide)
  have e15 := rq 15 (by decide) (by decide) (by decide)
  have e16 := rq 16 (by decide) (by decide) (by decide)
  have c0 := kq 0 (by omega)
  have c1 := kq 1 (by omega)
  have c2 := kq 2 (by omega)
  have c3 := kq 3 (by omega)
  refine GA.mk ?_ ?_ ?_ ?_ ?_ ?_ ?_ ?_ ?_ ?_ ?_ ?_ ?_ ?_ ?_ ?_ ?_ ?_ ?_
  · rw [c0]; exact h.c0
  · rw [c1]; exact h.c1
  · rw [c2]; exact h.c2
  · rw [c3]; exact h.c3
  · intro t
    by_cases e : t = t0
    · rw [e, k1]; omega
    · rw [kq _ (by omega)]; exact h.c5 t
  · rw [c0, e1]; exact h.nm
  · rw [c0, e1]; exact h.dj
  · rw [c0, e3]; exact h.ln
  · rw [e6]; exact h.pt
  · rw [c0, e6]; exact h.pz
  · rw [c0, c1, e3, e7, e8, e9]; exact h.sg
  · intro j j' hj hj' e hne c
    rw [cvr_as e8 e9, cvr_as e8 e9]
    rw [c1] at hj hj'
    rw [e7] at e
    exact h.ap j j' hj hj' e hne c
  · intro j f h1 h2 h3 h4 c
    rw [cvr_as e8 e9]
    rw [e7] at h2
    rw [c1] at h1
    rw [c0] at h3
    rw [e6] at h4
    exact h.a8 j f h1 h2 h3 h4 c
  · rw [c0, c2, e13]; exact h.gg
  · rw [c0, c3, e15]; exact h.ge
  · rw [c3, e14]; exact h.en
  · rw [c3, e16]; exact h.rs
  · rw [c3, e15, e3, e4]; exact h.al
  · intro t j ht hj
    rw [c0, c2, c3]
    by_cases e : t = t0
    · subst e
      rw [k1] at hj
      by_cases ej : j = s.1 (4 + t)
      · rw [ej, n17, n18]; exact hk
      · rw [o17 _ (by omega), o18 _ (by omega)]
        exact h.ek t j ht (by omega)
    · rw [kq _ (by omega)] at hj
      have := h.c4 t ht
      rw [o17 _ (by omega), o18 _ (by omega)]
      exact h.ek t j ht hj
