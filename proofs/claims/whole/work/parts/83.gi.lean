/-- what a slot may change -/
abbrev GC (s : se_S) : Prop := (∀ f, s.2 5 f = 0 ∨ s.2 5 f = 1) ∧ (∀ f, s.1 0 ≤ f → s.2 5 f = 0) ∧ (∀ j, s.2 12 j = 0 ∨ s.2 12 j = 1) ∧ (∀ j, s.1 1 ≤ j → s.2 12 j = 0) ∧ (s.2 0 9 = 0 ∨ ∃ e, e < s.1 3 ∧ s.2 0 9 = nI (e + 1)) ∧ (∃ n, n ≤ 10 ∧ s.2 0 10 = nI n) ∧ (¬ s.2 0 11 = 0 → ∃ a, a ≤ 8 ∧ s.2 0 12 = nI a) ∧ (∃ m, m < 256 ∧ s.2 0 13 = nI m) ∧ (∀ k, ∃ b, b < 256 ∧ s.2 20 k = nI b)
theorem GC.wt {s : se_S} (h : GC s) : ∀ f, s.2 5 f = 0 ∨ s.2 5 f = 1 := h.1
theorem GC.wz {s : se_S} (h : GC s) : ∀ f, s.1 0 ≤ f → s.2 5 f = 0 := h.2.1
theorem GC.nw {s : se_S} (h : GC s) : ∀ j, s.2 12 j = 0 ∨ s.2 12 j = 1 := h.2.2.1
theorem GC.nz {s : se_S} (h : GC s) : ∀ j, s.1 1 ≤ j → s.2 12 j = 0 := h.2.2.2.1
theorem GC.p9 {s : se_S} (h : GC s) : s.2 0 9 = 0 ∨ ∃ e, e < s.1 3 ∧ s.2 0 9 = nI (e + 1) := h.2.2.2.2.1
theorem GC.pb {s : se_S} (h : GC s) : ∃ n, n ≤ 10 ∧ s.2 0 10 = nI n := h.2.2.2.2.2.1
theorem GC.pn {s : se_S} (h : GC s) : ¬ s.2 0 11 = 0 → ∃ a, a ≤ 8 ∧ s.2 0 12 = nI a := h.2.2.2.2.2.2.1
theorem GC.pm {s : se_S} (h : GC s) : ∃ m, m < 256 ∧ s.2 0 13 = nI m := h.2.2.2.2.2.2.2.1
theorem GC.li {s : se_S} (h : GC s) : ∀ k, ∃ b, b < 256 ∧ s.2 20 k = nI b := h.2.2.2.2.2.2.2.2
theorem GC.mk {s : se_S} (x0 : ∀ f, s.2 5 f = 0 ∨ s.2 5 f = 1) (x1 : ∀ f, s.1 0 ≤ f → s.2 5 f = 0) (x2 : ∀ j, s.2 12 j = 0 ∨ s.2 12 j = 1) (x3 : ∀ j, s.1 1 ≤ j → s.2 12 j = 0) (x4 : s.2 0 9 = 0 ∨ ∃ e, e < s.1 3 ∧ s.2 0 9 = nI (e + 1)) (x5 : ∃ n, n ≤ 10 ∧ s.2 0 10 = nI n) (x6 : ¬ s.2 0 11 = 0 → ∃ a, a ≤ 8 ∧ s.2 0 12 = nI a) (x7 : ∃ m, m < 256 ∧ s.2 0 13 = nI m) (x8 : ∀ k, ∃ b, b < 256 ∧ s.2 20 k = nI b) : GC s := ⟨x0, x1, x2, x3, x4, x5, x6, x7, x8⟩
/-- where the schedule stands -/
abbrev GT (s : se_S) : Prop := (∃ t x, t < 3 ∧ x ≤ s.1 (4 + t) ∧ s.2 0 3 = nI t ∧ s.2 0 4 = nI x) ∧ (∃ t x, t < 3 ∧ x ≤ s.1 (4 + t) ∧ s.2 0 6 = nI t ∧ s.2 0 7 = nI x) ∧ (s.2 0 8 = -1 ∨ ∃ t, t < 3 ∧ 0 < s.1 (4 + t) ∧ s.2 0 8 = nI t) ∧ (s.2 0 0 = 0 → s.2 0 5 = 0 ∧ s.2 0 9 = 0) ∧ (¬ s.2 0 0 = 0 → ∀ t, t < 3 → s.2 0 3 = nI t → 0 < s.1 (4 + t)) ∧ (¬ s.2 0 0 = 0 → ¬ s.2 0 5 = 0 → ∀ t, t < 3 → s.2 0 6 = nI t → 0 < s.1 (4 + t)) ∧ (¬ s.2 0 0 = 0 → ∀ e t, e < s.1 3 → t < 3 → s.2 16 e = nI t → 0 < s.1 (4 + t))
theorem GT.p3 {s : se_S} (h : GT s) : ∃ t x, t < 3 ∧ x ≤ s.1 (4 + t) ∧ s.2 0 3 = nI t ∧ s.2 0 4 = nI x := h.1
theorem GT.p6 {s : se_S} (h : GT s) : ∃ t x, t < 3 ∧ x ≤ s.1 (4 + t) ∧ s.2 0 6 = nI t ∧ s.2 0 7 = nI x := h.2.1
theorem GT.p8 {s : se_S} (h : GT s) : s.2 0 8 = -1 ∨ ∃ t, t < 3 ∧ 0 < s.1 (4 + t) ∧ s.2 0 8 = nI t := h.2.2.1
theorem GT.ns {s : se_S} (h : GT s) : s.2 0 0 = 0 → s.2 0 5 = 0 ∧ s.2 0 9 = 0 := h.2.2.2.1
theorem GT.r3 {s : se_S} (h : GT s) : ¬ s.2 0 0 = 0 → ∀ t, t < 3 → s.2 0 3 = nI t → 0 < s.1 (4 + t) := h.2.2.2.2.1
theorem GT.r6 {s : se_S} (h : GT s) : ¬ s.2 0 0 = 0 → ¬ s.2 0 5 = 0 → ∀ t, t < 3 → s.2 0 6 = nI t → 0 < s.1 (4 + t) := h.2.2.2.2.2.1
theorem GT.r9 {s : se_S} (h : GT s) : ¬ s.2 0 0 = 0 → ∀ e t, e < s.1 3 → t < 3 → s.2 16 e = nI t → 0 < s.1 (4 + t) := h.2.2.2.2.2.2
theorem GT.mk {s : se_S} (x0 : ∃ t x, t < 3 ∧ x ≤ s.1 (4 + t) ∧ s.2 0 3 = nI t ∧ s.2 0 4 = nI x) (x1 : ∃ t x, t < 3 ∧ x ≤ s.1 (4 + t) ∧ s.2 0 6 = nI t ∧ s.2 0 7 = nI x) (x2 : s.2 0 8 = -1 ∨ ∃ t, t < 3 ∧ 0 < s.1 (4 + t) ∧ s.2 0 8 = nI t) (x3 : s.2 0 0 = 0 → s.2 0 5 = 0 ∧ s.2 0 9 = 0) (x4 : ¬ s.2 0 0 = 0 → ∀ t, t < 3 → s.2 0 3 = nI t → 0 < s.1 (4 + t)) (x5 : ¬ s.2 0 0 = 0 → ¬ s.2 0 5 = 0 → ∀ t, t < 3 → s.2 0 6 = nI t → 0 < s.1 (4 + t)) (x6 : ¬ s.2 0 0 = 0 → ∀ e t, e < s.1 3 → t < 3 → s.2 16 e = nI t → 0 < s.1 (4 + t)) : GT s := ⟨x0, x1, x2, x3, x4, x5, x6⟩
theorem GC_grow {s s' : se_S} (h : GC s) (c : ∀ q, s.1 q ≤ s'.1 q) (e0 : s'.2 0 = s.2 0) (e5 : s'.2 5 = s.2 5) (e12 : s'.2 12 = s.2 12) (e20 : s'.2 20 = s.2 20) : GC s' := by
  refine GC.mk ?_ ?_ ?_ ?_ ?_ ?_ ?_ ?_ ?_
  · rw [e5]; exact h.wt
  · intro f hf
    rw [e5]; exact h.wz f (Nat.le_trans (c 0) hf)
  · rw [e12]; exact h.nw
  · intro f hf
    rw [e12]; exact h.nz f (Nat.le_trans (c 1) hf)
  · rw [e0]
    rcases h.p9 with z | ⟨e, he, z⟩
    · exact Or.inl z
    · exact Or.inr ⟨e, Nat.lt_of_lt_of_le he (c 3), z⟩
  · rw [e0]; exact h.pb
  · rw [e0]; exact h.pn
  · rw [e0]; exact h.pm
  · rw [e20]; exact h.li
theorem GT_grow {s s' : se_S} (h : GT s) (c : ∀ q, s.1 q ≤ s'.1 q) (e0 : s'.2 0 = s.2 0) (h0 : s.2 0 0 = 0) : GT s' := by
  refine GT.mk ?_ ?_ ?_ ?_ ?_ ?_ ?_
  · obtain ⟨t, x, ht, hx, r⟩ := h.p3
    rw [e0]; exact ⟨t, x, ht, Nat.le_trans hx (c _), r⟩
  · obtain ⟨t, x, ht, hx, r⟩ := h.p6
    rw [e0]; exact ⟨t, x, ht, Nat.le_trans hx (c _), r⟩
  · rw [e0]
    rcases h.p8 with z | ⟨t, ht, hx, r⟩
    · exact Or.inl z
    · exact Or.inr ⟨t, ht, Nat.lt_of_lt_of_le hx (c _), r⟩
  · rw [e0]; exact h.ns
  · rw [e0]; exact fun z => absurd h0 z
  · rw [e0]; exact fun z => absurd h0 z
  · rw [e0]; exact fun z => absurd h0 z
theorem GC_as {s s' : se_S} (h : GC s) (c : s'.1 = s.1) (e9 : s'.2 0 9 = s.2 0 9 ∨ s'.2 0 9 = 0) (e10 : s'.2 0 10 = s.2 0 10) (e11 : s'.2 0 11 = s.2 0 11) (e12' : s'.2 0 12 = s.2 0 12) (e13 : s'.2 0 13 = s.2 0 13) (e5 : s'.2 5 = s.2 5) (e12 : s'.2 12 = s.2 12) (e20 : s'.2 20 = s.2 20) : GC s' := by
  refine GC.mk ?_ ?_ ?_ ?_ ?_ ?_ ?_ ?_ ?_
  · rw [e5]; exact h.wt
  · rw [c, e5]; exact h.wz
  · rw [e12]; exact h.nw
  · rw [c, e12]; exact h.nz
  · rw [c]
    rcases e9 with z | z
    · rw [z]; exact h.p9
    · exact Or.inl z
  · rw [e10]; exact h.pb
  · rw [e11, e12']; exact h.pn
  · rw [e13]; exact h.pm
  · rw [e20]; exact h.li
theorem GT_as {s s' : se_S} (h : GT s) (c : s'.1 = s.1) (e0 : ∀ j, j = 0 ∨ j = 3 ∨ j = 4 ∨ j = 5 ∨ j = 6 ∨ j = 7 ∨ j = 8 → s'.2 0 j = s.2 0 j) (e9 : s.2 0 0 = 0 → s'.2 0 9 = s.2 0 9) (e16 : s'.2 16 = s.2 16) : GT s' := by
  have z0 := e0 0 (by simp)
  have z3 := e0 3 (by simp)
  have z4 := e0 4 (by simp)
  have z5 := e0 5 (by simp)
  have z6 := e0 6 (by simp)
  have z7 := e0 7 (by simp)
  have z8 := e0 8 (by simp)
  refine GT.mk ?_ ?_ ?_ ?_ ?_ ?_ ?_
  · rw [c, z3, z4]; exact h.p3
  · rw [c, z6, z7]; exact h.p6
  · rw [c, z8]; exact h.p8
  · intro w
    rw [z0] at w
    rw [z5, e9 w]
    exact h.ns w
  · rw [c, z0, z3]; exact h.r3
  · rw [c, z0, z5, z6]; exact h.r6
  · rw [c, z0, e16]; exact h.r9
theorem GC.line {s : se_S} (h : GC s) (k : Nat) {b : Nat} (hb : b < 256) {v : Int32} (ev : v = nI b) : GC (s.1, up2 s.2 20 k v) := by
  refine ⟨h.wt, h.wz, h.nw, h.nz, h.p9, h.pb, h.pn, h.pm, fun i => ?_⟩
  show ∃ b, b < 256 ∧ up2 s.2 20 k v 20 i = nI b
  by_cases e : i = k
  · rw [e, up2_self]; exact ⟨b, hb, ev⟩
  · rw [up2_ne _ _ (fun z => e z.2)]; exact h.li i
theorem GC.used {s : se_S} (h : GC s) {n : Nat} (hn : n ≤ 10) {v : Int32} (ev : v = nI n) : GC (s.1, up2 s.2 0 10 v) :=
  ⟨h.wt, h.wz, h.nw, h.nz, h.p9, ⟨n, hn, ev⟩, h.pn, h.pm, h.li⟩
theorem GC.noi {s : se_S} (h : GC s) : GC (s.1, up2 s.2 0 11 0) :=
  ⟨h.wt, h.wz, h.nw, h.nz, h.p9, h.pb, fun z => absurd rfl z, h.pm, h.li⟩
theorem GC.trb {s : se_S} (h : GC s) {e : Nat} (he : e < s.1 3) : GC (s.1, up2 s.2 0 9 (nI (e + 1))) :=
  ⟨h.wt, h.wz, h.nw, h.nz, Or.inr ⟨e, he, rfl⟩, h.pb, h.pn, h.pm, h.li⟩
theorem GC.pend {s : se_S} (h : GC s) {f : Nat} {v : Int32} (hv : v = 0 ∨ (v = 1 ∧ f < s.1 0)) : GC (s.1, up2 s.2 5 f v) := by
  refine ⟨fun i => ?_, fun i hi => ?_, h.nw, h.nz, h.p9, h.pb, h.pn, h.pm, h.li⟩
  · show up2 s.2 5 f v 5 i = 0 ∨ up2 s.2 5 f v 5 i = 1
    by_cases e : i = f
    · rw [e, up2_self]
      rcases hv with z | z
      · exact Or.inl z
      · exact Or.inr z.1
    · rw [up2_ne _ _ (fun z => e z.2)]; exact h.wt i
  · have hi : s.1 0 ≤ i := hi
    show up2 s.2 5 f v 5 i = 0
    by_cases e : i = f
    · rw [e, up2_self]
      rcases hv with z | z
      · exact z
      · omega
    · rw [up2_ne _ _ (fun z => e z.2)]; exact h.wz i hi
theorem GC.neu {s : se_S} (h : GC s) {f : Nat} {v : Int32} (hv : v = 0 ∨ (v = 1 ∧ f < s.1 1)) : GC (s.1, up2 s.2 12 f v) := by
  refine ⟨h.wt, h.wz, fun i => ?_, fun i hi => ?_, h.p9, h.pb, h.pn, h.pm, h.li⟩
  · show up2 s.2 12 f v 12 i = 0 ∨ up2 s.2 12 f v 12 i = 1
    by_cases e : i = f
    · rw [e, up2_self]
      rcases hv with z | z
      · exact Or.inl z
      · exact Or.inr z.1
    · rw [up2_ne _ _ (fun z => e z.2)]; exact h.nw i
  · have hi : s.1 1 ≤ i := hi
    show up2 s.2 12 f v 12 i = 0
    by_cases e : i = f
    · rw [e, up2_self]
      rcases hv with z | z
      · exact z
      · omega
    · rw [up2_ne _ _ (fun z => e z.2)]; exact h.nz i hi
theorem GC.rcd {s : se_S} (h : GC s) (f : Nat) (v : Int32) : GC (s.1, up2 s.2 11 f v) :=
  ⟨h.wt, h.wz, h.nw, h.nz, h.p9, h.pb, h.pn, h.pm, h.li⟩
theorem xor256 : ∀ m n : Nat, m < 256 → n < 256 → nI m ^^^ nI n = nI (m ^^^ n) := fun m n hm hn => by
  apply ib_ext
  intro c hc
  rw [ib_nI (Nat.lt_of_lt_of_le (Nat.xor_lt_two_pow (n := 8) hm hn) (by decide)), Nat.testBit_xor, ← ib_nI (show m < 2 ^ 32 by omega), ← ib_nI (show n < 2 ^ 32 by omega)]
  unfold ib
  rw [Int32.toBitVec_xor, BitVec.getLsbD_xor]
theorem GC.dist {s : se_S} (h : GC s) : GC (s.1, se_dist s.2) := by
  unfold se_dist
  obtain ⟨m, hm, em⟩ := h.pm
  split
  · obtain ⟨b, hb, eb⟩ := h.li (s.2 0 12 + 1).toNatClampNeg
    exact GC.noi (s := (s.1, up2 s.2 20 (s.2 0 12 + 1).toNatClampNeg (s.2 20 (s.2 0 12 + 1).toNatClampNeg ^^^ s.2 0 13))) (h.line _ (Nat.xor_lt_two_pow (n := 8) hb hm) (by rw [eb, em, xor256 b m hb hm]))
  · exact h.noi
theorem GC.rc {s : se_S} (h : GC s) (f : Int32) : ∀ n, n ≤ s.1 1 → GC (s.1, sf_rc s f n)
  | 0, _ => h
  | n + 1, hn => by
    unfold sf_rc
    have ih := h.rc f n (by omega)
    split
    · exact GC.neu (s := (s.1, up2 (sf_rc s f n) 11 n (sf_tk s.2 n (s.2 9 n).toNatClampNeg))) (ih.rcd _ _) (Or.inr ⟨rfl, hn⟩)
    · exact ih
theorem GC.recv {s : se_S} (h : GC s) (f : Int32) : GC (s.1, sf_recv s f) := by
  unfold sf_recv
  exact GC.pend (s := (s.1, sf_rc s f (s.1 1))) (h.rc f _ (Nat.le_refl _)) (Or.inl rfl)
theorem sm_lt {s : se_S} (hG : GA s) (h : GC s) {f n : Nat} (hf : f < s.1 0) (hn : n ≤ 8) : ∃ T, T ≤ 255 * 9 ∧ sf_sm s (nI f) n = nI T := by
  obtain ⟨b0, hb0, eb0⟩ := h.li 0
  have h0 : ∃ t0, t0 ≤ 255 ∧ (if s.2 4 (nI f).toNatClampNeg = 0 then 0 else s.2 20 0) = nI t0 := by
    split
    · exact ⟨0, by decide, rfl⟩
    · exact ⟨b0, by omega, eb0⟩
  obtain ⟨t0, ht0, et0⟩ := h0
  have hex : ∀ k, ∃ m, m < 256 ∧ (k < 8 → sf_byte s (nI f) (nI k) = nI m) := fun k => by
    by_cases hk : k < 8
    · obtain ⟨m, hm, em, _⟩ := sf_byte_lt hG hf hk
      exact ⟨m, hm, fun _ => em⟩
    · exact ⟨0, by decide, fun z => absurd z hk⟩
  refine ⟨bs (fun k => (hex k).choose) t0 n, ?_, sf_sm_bs et0 n (fun k hk => (hex k).choose_spec.2 (by omega))⟩
  have := bs_le (g := fun k => (hex k).choose) ht0 (fun k => by have := (hex k).choose_spec.1; omega) n
  omega
theorem GC.rI {s : se_S} (hG : GA s) (h : GC s) {f : Nat} (hf : f < s.1 0) : ∀ n, n ≤ 8 → GC (s.1, sf_rI s (nI f) n)
  | 0, _ => h
  | n + 1, hn => by
    unfold sf_rI
    obtain ⟨m, hm, em, _⟩ := sf_byte_lt hG hf (show n < 8 by omega)
    exact GC.used (s := (s.1, up2 (sf_rI s (nI f) n) 20 (n + 1) (sf_byte s (nI f) (nI n)))) ((GC.rI hG h hf n (by omega)).line (n + 1) hm em) (show n + 2 ≤ 10 by omega) rfl
theorem GC.resp {s : se_S} (hG : GA s) (h : GC s) {f : Nat} (hf : f < s.1 0) : GC (s.1, sf_resp s (nI f)) := by
  obtain ⟨n, hn1, hn, en⟩ := hG.ln f hf
  have hcf : (nI f).toNatClampNeg = f := nI_clamp (by have := hG.c0; omega)
  have hcn : (nI n).toNatClampNeg = n := nI_clamp (by omega)
  unfold sf_resp
  rw [hcf, en, hcn]
  obtain ⟨T, hT, eT⟩ := sm_lt hG h hf hn
  exact GC.used (s := (s.1, up2 (sf_rI s (nI f) n) 20 (n + 1) (se_chk (sf_sm s (nI f) n)))) ((GC.rI hG h hf n hn).line (n + 1) (b := 255 - cn T) (by omega) (by rw [eT, se_chk_cn (by omega)])) (show n + 2 ≤ 10 by omega) rfl
theorem GT_t1 {s : se_S} (hA : GA s) (hC : GC s) (h : GT s) (h0 : ¬ s.2 0 0 = 0) : GT (s.1, sf_t1 s) := by
  unfold sf_t1
  split
  · rename_i h9
    have : ∃ e, e < s.1 3 ∧ s.2 0 9 = nI (e + 1) := by
      rcases hC.p9 with z | z
      · rw [z] at h9; exact absurd h9 (by decide)
      · exact z
    obtain ⟨e, he, e9⟩ := this
    have h3 := hA.c3
    have hce : (s.2 0 9 - 1).toNatClampNeg = e := by rw [e9, nI_pred, nI_clamp (by omega)]
    obtain ⟨t, ht, et⟩ := hA.rs e he
    rw [hce]
    refine GT.mk ?_ ?_ ?_ ?_ ?_ ?_ ?_
    · exact ⟨t, 0, ht, Nat.zero_le _, et, rfl⟩
    · exact h.p3
    · exact h.p8
    · exact fun z => absurd z h0
    · intro _ t' ht' et'
      exact h.r9 h0 e t' he ht' et'
    · intro _ _
      exact h.r3 h0
    · exact h.r9
  · split
    · rename_i h9 h5
      refine GT.mk ?_ ?_ ?_ ?_ ?_ ?_ ?_
      · exact h.p6
      · exact h.p6
      · exact h.p8
      · exact fun z => absurd z h0
      · intro _
        exact h.r6 h0 h5.1
      · exact fun _ z => absurd rfl z
      · exact h.r9
    · exact h
theorem GT_t2 {c : Nat → Nat} {I : Nat → Nat → Int32} (h : GT (c, I)) (h0 : ¬ I 0 0 = 0) : GT (c, sf_t2 I) := by
  unfold sf_t2
  split
  · rename_i h5
    have : ∃ t, t < 3 ∧ 0 < c (4 + t) ∧ I 0 8 = nI t := by
      rcases h.p8 with z | z
      · have z : I 0 8 = -1 := z
        rw [z] at h5
        exact absurd (by decide) h5.2
      · exact z
    obtain ⟨t, ht, hx, et⟩ := this
    refine GT.mk ?_ ?_ ?_ ?_ ?_ ?_ ?_
    · exact ⟨t, 0, ht, Nat.zero_le _, et, rfl⟩
    · exact h.p6
    · exact Or.inl rfl
    · exact fun z => absurd z h0
    · intro _ t' ht' et'
      have et' : I 0 8 = nI t' := et'
      rw [et, nI_eq (by omega) (by omega)] at et'
      rw [← et']; exact hx
    · exact h.r6
    · exact h.r9
  · exact h
theorem sf_t1_00 (s : se_S) : sf_t1 s 0 0 = s.2 0 0 := by
  unfold sf_t1
  split
  · rfl
  · split <;> rfl
theorem turn_at {s : se_S} (hA : GA s) (hC : GC s) (h : GT s) (h0 : ¬ s.2 0 0 = 0) : ∃ t x, t < 3 ∧ x < s.1 (4 + t) ∧ sf_turn s 0 3 = nI t ∧ sf_turn s 0 4 = nI x ∧ GT (s.1, sf_t2 (sf_t1 s)) := by
  have g1 := GT_t1 hA hC h h0
  have g2 := GT_t2 g1 (by rw [sf_t1_00]; exact h0)
  have g00 : ¬ sf_t2 (sf_t1 s) 0 0 = 0 := by
    have : sf_t2 (sf_t1 s) 0 0 = s.2 0 0 := by
      rw [← sf_t1_00]
      unfold sf_t2
      split <;> rfl
    rw [this]; exact h0
  obtain ⟨t, x, ht, hx, e3, e4⟩ := g2.p3
  have e3 : sf_t2 (sf_t1 s) 0 3 = nI t := e3
  have e4 : sf_t2 (sf_t1 s) 0 4 = nI x := e4
  have hx : x ≤ s.1 (4 + t) := hx
  have h8 := hA.c4 t ht
  have hpos : 0 < s.1 (4 + t) := g2.r3 g00 t ht e3
  have ct : (nI t).toNatClampNeg = t := nI_clamp (by omega)
  unfold sf_turn sf_t3
  by_cases ex : x = s.1 (4 + t)
  · refine ⟨t, 0, ht, hpos, e3, ?_, g2⟩
    rw [up2_self, e3, e4, ct, if_pos (by rw [ex])]
    rfl
  · refine ⟨t, x, ht, by omega, e3, ?_, g2⟩
    rw [up2_self, e3, e4, ct, if_neg (fun z => ex ((nI_eq (by omega) (by omega)).mp z))]
theorem GT_run {s : se_S} (hA : GA s) (hC : GC s) (h : GT s) (h0 : ¬ s.2 0 0 = 0) : GT (sf_run s) := by
  obtain ⟨t, x, ht, hx, e3, e4, g⟩ := turn_at hA hC h h0
  have e0 : sf_turn s 0 0 = s.2 0 0 := sf_turn_0 s 0 (by simp)
  have q : ∀ j, j ≠ 4 → sf_turn s 0 j = sf_t2 (sf_t1 s) 0 j := fun j hj => up2_ne _ _ (fun z => hj z.2)
  have q16 : sf_turn s 16 = sf_t2 (sf_t1 s) 16 := by
    unfold sf_turn sf_t3
    exact up2_k _ _ (by decide)
  refine GT.mk ?_ ?_ ?_ ?_ ?_ ?_ ?_
  · exact ⟨t, x + 1, ht, hx, e3, show sf_turn s 0 4 + 1 = nI (x + 1) by rw [e4, nI_1]⟩
  · show ∃ t x, t < 3 ∧ x ≤ s.1 (4 + t) ∧ sf_turn s 0 6 = nI t ∧ sf_turn s 0 7 = nI x
    rw [q 6 (by decide), q 7 (by decide)]
    exact g.p6
  · show sf_turn s 0 8 = -1 ∨ ∃ t, t < 3 ∧ 0 < s.1 (4 + t) ∧ sf_turn s 0 8 = nI t
    rw [q 8 (by decide)]
    exact g.p8
  · intro z
    have z : sf_turn s 0 0 = 0 := z
    rw [e0] at z
    exact absurd z h0
  · intro z t' ht' et'
    have z : ¬ sf_turn s 0 0 = 0 := z
    have et' : sf_turn s 0 3 = nI t' := et'
    rw [e3, nI_eq (by omega) (by omega)] at et'
    show 0 < s.1 (4 + t')
    rw [← et']; omega
  · show ¬ sf_turn s 0 0 = 0 → ¬ sf_turn s 0 5 = 0 → ∀ t, t < 3 → sf_turn s 0 6 = nI t → 0 < s.1 (4 + t)
    rw [q 0 (by decide), q 5 (by decide), q 6 (by decide)]
    exact g.r6
  · show ¬ sf_turn s 0 0 = 0 → ∀ e t, e < s.1 3 → t < 3 → sf_turn s 16 e = nI t → 0 < s.1 (4 + t)
    rw [q 0 (by decide), q16]
    exact g.r9
theorem run_row {s : se_S} (q : Nat) (h0 : q ≠ 0) : (sf_run s).2 q = s.2 q := by
  show up2 (up2 (up2 (up2 (sf_turn s) 0 4 _) 0 2 _) 0 9 0) 0 10 0 q = _
  rw [up2_k _ _ h0, up2_k _ _ h0, up2_k _ _ h0, up2_k _ _ h0, sf_turn_row _ _ h0]
theorem run_0 {s : se_S} (j : Nat) (hj : j = 0 ∨ j = 1 ∨ 11 ≤ j) : (sf_run s).2 0 j = s.2 0 j := by
  show up2 (up2 (up2 (up2 (sf_turn s) 0 4 _) 0 2 _) 0 9 0) 0 10 0 0 j = _
  rw [up2_ne _ _ (by omega), up2_ne _ _ (by omega), up2_ne _ _ (by omega), up2_ne _ _ (by omega), sf_turn_0 _ _ (by omega)]
theorem GC_run {s : se_S} (hC : GC s) : GC (sf_run s) := by
  refine GC.mk ?_ ?_ ?_ ?_ ?_ ?_ ?_ ?_ ?_
  · rw [run_row 5 (by decide)]; exact hC.wt
  · rw [run_row 5 (by decide)]; exact hC.wz
  · rw [run_row 12 (by decide)]; exact hC.nw
  · rw [run_row 12 (by decide)]; exact hC.nz
  · exact Or.inl rfl
  · exact ⟨0, by decide, rfl⟩
  · rw [run_0 11 (by omega), run_0 12 (by omega)]; exact hC.pn
  · rw [run_0 13 (by omega)]; exact hC.pm
  · rw [run_row 20 (by decide)]; exact hC.li
theorem GA_run {s : se_S} (hA : GA s) : GA (sf_run s) := GA_as hA rfl (fun k hk => run_row k (by unfold cfg at hk; omega))
/-- what a slot leaves as it is -/
abbrev kp (s : se_S) (I : Nat → Nat → Int32) : Prop := (∀ q, q ≠ 0 → q ≠ 5 → q ≠ 11 → q ≠ 12 → q ≠ 20 → I q = s.2 q) ∧ (∀ j, j ≠ 9 → j ≠ 10 → j ≠ 11 → I 0 j = s.2 0 j)
theorem kp.r {s : se_S} {I : Nat → Nat → Int32} (h : kp s I) : ∀ q, q ≠ 0 → q ≠ 5 → q ≠ 11 → q ≠ 12 → q ≠ 20 → I q = s.2 q := h.1
theorem kp.z {s : se_S} {I : Nat → Nat → Int32} (h : kp s I) : ∀ j, j ≠ 9 → j ≠ 10 → j ≠ 11 → I 0 j = s.2 0 j := h.2
theorem kp.mk {s : se_S} {I : Nat → Nat → Int32} (x0 : ∀ q, q ≠ 0 → q ≠ 5 → q ≠ 11 → q ≠ 12 → q ≠ 20 → I q = s.2 q) (x1 : ∀ j, j ≠ 9 → j ≠ 10 → j ≠ 11 → I 0 j = s.2 0 j) : kp s I := ⟨x0, x1⟩
theorem kp_refl (s : se_S) : kp s s.2 := ⟨fun _ _ _ _ _ _ => rfl, fun _ _ _ _ => rfl⟩
theorem kp_trans {s : se_S} {I J : Nat → Nat → Int32} (h : kp s I) (h2 : kp (s.1, I) J) : kp s J :=
  ⟨fun q a b c d e => (h2.r q a b c d e).trans (h.r q a b c d e), fun j a b c => (h2.z j a b c).trans (h.z j a b c)⟩
theorem kp_row {s : se_S} {I : Nat → Nat → Int32} (h : kp s I) (k : Nat) (hk : k = 5 ∨ k = 11 ∨ k = 12 ∨ k = 20) (i : Nat) (v : Int32) : kp s (up2 I k i v) :=
  ⟨fun q a b c d e => by rw [up2_k _ _ (by omega)]; exact h.r q a b c d e, fun j a b c => by rw [up2_ne _ _ (by omega)]; exact h.z j a b c⟩
theorem kp_0 {s : se_S} {I : Nat → Nat → Int32} (h : kp s I) (k : Nat) (hk : k = 9 ∨ k = 10 ∨ k = 11) (v : Int32) : kp s (up2 I 0 k v) :=
  ⟨fun q a b c d e => by rw [up2_k _ _ a]; exact h.r q a b c d e, fun j a b c => by rw [up2_ne _ _ (by omega)]; exact h.z j a b c⟩
theorem kp_dist {s : se_S} {I : Nat → Nat → Int32} (h : kp s I) : kp s (se_dist I) := by
  unfold se_dist
  split
  · exact kp_0 (kp_row h 20 (by simp) _ _) 11 (by simp) _
  · exact kp_0 h 11 (by simp) _
theorem kp_rc {s : se_S} (f : Int32) : ∀ n, kp s (sf_rc s f n)
  | 0 => kp_refl s
  | n + 1 => by
    unfold sf_rc
    split
    · exact kp_row (kp_row (kp_rc f n) 11 (by simp) _ _) 12 (by simp) _ _
    · exact kp_rc f n
theorem kp_recv {s : se_S} (f : Int32) : kp s (sf_recv s f) := kp_row (kp_rc f _) 5 (by simp) _ _
theorem kp_resp {s : se_S} (f : Int32) : kp s (sf_resp s f) :=
  ⟨fun q a _ _ _ e => sf_resp_row s f q a e, fun j _ b _ => sf_resp_0 s f j b⟩
theorem GA_kp {s : se_S} {I : Nat → Nat → Int32} (hA : GA s) (h : kp s I) : GA (s.1, I) := GA_as hA rfl (fun k hk => h.r k (by unfold cfg at hk; omega) (by unfold cfg at hk; omega) (by unfold cfg at hk; omega) (by unfold cfg at hk; omega) (by unfold cfg at hk; omega))
theorem own_inv {s : se_S} (hA : GA s) (hC : GC s) {f : Nat} (hf : f < s.1 0) : GC (s.1, (sf_own s (nI f)).2) ∧ kp s (sf_own s (nI f)).2 := by
  have hcf : (nI f).toNatClampNeg = f := nI_clamp (by have := hA.c0; omega)
  obtain ⟨i, hi, ei⟩ := hA.nm f hf
  obtain ⟨m, hm, em⟩ := grd_lt hi
  have a1 : kp s (up2 (up2 s.2 20 0 (sf_grd (s.2 1 f))) 0 10 1) := kp_0 (kp_row (kp_refl s) 20 (by simp) _ _) 10 (by simp) _
  have g1 : GC (s.1, up2 (up2 s.2 20 0 (sf_grd (s.2 1 f))) 0 10 1) := GC.used (s := (s.1, up2 s.2 20 0 (sf_grd (s.2 1 f)))) (hC.line 0 hm (by rw [ei, em])) (n := 1) (by decide) rfl
  have g2 := GC.dist (GC.resp (GA_kp hA a1) g1 hf)
  have a2 := kp_dist (kp_trans a1 (kp_resp (nI f)))
  unfold sf_own
  rw [hcf]
  split
  · exact ⟨GC.recv g2 (nI f), kp_trans a2 (kp_recv (nI f))⟩
  · exact ⟨g2, a2⟩
theorem gv_of {s : se_S} {g : Nat} (h : gm (s.2 13) (s.1 0) g) : gv s g := by
  intro q hq
  obtain ⟨m0, m1, m2⟩ := h
  match q, hq with
  | 0, _ => exact Or.inr m0
  | 1, _ => exact Or.inr m1
  | 2, _ => exact m2
theorem cv_of {s : se_S} {e : Nat} (h : gm (s.2 15) (s.1 0) e) : cv s e := by
  obtain ⟨m0, m1, m2⟩ := h
  refine ⟨m0, fun q hq => ?_⟩
  match q, hq with
  | 0, _ => exact Or.inr m0
  | 1, _ => exact Or.inr m1
  | 2, _ => exact m2
theorem pend_nI {s : se_S} {v : Int32} (hv : v = -1 ∨ ∃ f, f < s.1 0 ∧ v = nI f) (h : se_pend s v = true) : ∃ f, f < s.1 0 ∧ v = nI f := by
  rcases hv with z | z
  · rw [z] at h
    unfold se_pend at h
    simp at h
  · exact z
theorem spo_inv {s : se_S} (hA : GA s) (hC : GC s) {g : Nat} (hg : g < s.1 2) : GC (s.1, (sf_spo s g).2) ∧ kp s (sf_spo s g).2 := by
  have hv := gv_of (hA.gg g hg)
  have key : ∀ q, q < 3 → se_pend s (s.2 13 (3 * g + q)) = true → GC (s.1, (sf_own s (s.2 13 (3 * g + q))).2) ∧ kp s (sf_own s (s.2 13 (3 * g + q))).2 := fun q hq hp => by
    obtain ⟨f, hf, ef⟩ := pend_nI (hv q hq) hp
    rw [ef]
    exact own_inv hA hC hf
  unfold sf_spo
  split
  · rename_i hp
    exact key 0 (by decide) hp
  · split
    · rename_i hp
      exact key 1 (by decide) hp
    · split
      · rename_i hp
        exact key 2 (by decide) hp
      · exact ⟨hC, kp_refl s⟩
theorem and255 {m n : Nat} (hm : m < 256) (hn : n < 256) : nI m &&& nI n = nI (m &&& n) := by
  apply ib_ext
  intro c hc
  have : m &&& n ≤ m := Nat.and_le_left
  rw [ib_and, ib_nI (show m &&& n < 2 ^ 32 by omega), Nat.testBit_and, ib_nI (show m < 2 ^ 32 by omega), ib_nI (show n < 2 ^ 32 by omega)]
theorem all_lt {s : se_S} (hA : GA s) {e : Nat} (he : e < s.1 3) : ∀ q, q ≤ 3 → ∃ m, m < 256 ∧ sf_all s e q = nI m
  | 0, _ => ⟨255, by decide, show (255 : Int32) = nI 255 by decide⟩
  | q + 1, hq => by
    obtain ⟨m, hm, em⟩ := all_lt hA he q (by omega)
    unfold sf_all
    split
    · rename_i hp
      obtain ⟨f, hf, ef⟩ := pend_nI ((cv_of (hA.ge e he)).2 q (by omega)) hp
      obtain ⟨i, hi, ei⟩ := hA.nm f hf
      obtain ⟨k, hk, ek⟩ := grd_lt hi
      have := hA.c0
      rw [em, ef, nI_clamp (by omega), ei, ek, and255 hm hk]
      exact ⟨m &&& k, Nat.lt_of_le_of_lt Nat.and_le_left hm, rfl⟩
    · exact ⟨m, hm, em⟩
theorem e2_inv {s : se_S} (hA : GA s) (hC : GC s) {e : Nat} (he : e < s.1 3) : GC (s.1, sf_e2 s e) ∧ kp s (sf_e2 s e) ∧ GC (sf_e1 s e) ∧ kp s (sf_e1 s e).2 := by
  obtain ⟨i, hi, ei⟩ := hA.en e he
  obtain ⟨m, hm, em⟩ := grd_lt hi
  have a1 : kp s (sf_e1 s e).2 := kp_0 (kp_row (kp_refl s) 20 (by simp) _ _) 10 (by simp) _
  have g1 : GC (sf_e1 s e) := GC.used (s := (s.1, up2 s.2 20 0 (sf_grd (s.2 14 e)))) (hC.line 0 hm (by rw [ei, em])) (n := 1) (by decide) rfl
  refine ⟨?_, ?_, g1, a1⟩
  · unfold sf_e2
    have key : ∀ I, GC (s.1, I) → GC (s.1, se_dist I) := fun I h => GC.dist h
    refine key _ ?_
    split
    · obtain ⟨k, hk, ek⟩ := all_lt hA he 3 (Nat.le_refl _)
      exact GC.used (s := (s.1, up2 (sf_e1 s e).2 20 1 (sf_all s e 3))) (GC.line g1 1 hk ek) (n := 2) (by decide) rfl
    · rename_i hn
      obtain ⟨f, hf, ef⟩ := (sf_al_in (cv_of (hA.ge e he)) (sf_all s e 3) 3 (Nat.le_refl _)).resolve_left (fun z => hn (by rw [z]; decide))
      rw [ef]
      exact GC.resp (s := sf_e1 s e) (GA_kp hA a1) g1 hf
  · unfold sf_e2
    refine kp_dist ?_
    split
    · exact kp_0 (kp_row a1 20 (by simp) _ _) 10 (by simp) _
    · exact kp_trans a1 (kp_resp (s := sf_e1 s e) _)
theorem evt_inv {s : se_S} (hA : GA s) (hC : GC s) {e : Nat} (he : e < s.1 3) : GC (s.1, (sf_evt s e).2) ∧ kp s (sf_evt s e).2 := by
  obtain ⟨g2, a2, g1, a1⟩ := e2_inv hA hC he
  unfold sf_evt
  split
  · exact ⟨g1, a1⟩
  · split
    · split
      · exact ⟨GC.recv g2 _, kp_trans a2 (kp_recv (s := (s.1, sf_e2 s e)) _)⟩
      · split
        · exact ⟨GC.recv g2 _, kp_trans a2 (kp_recv (s := (s.1, sf_e2 s e)) _)⟩
        · split
          · exact ⟨GC.recv g2 _, kp_trans a2 (kp_recv (s := (s.1, sf_e2 s e)) _)⟩
          · exact ⟨GC.trb (s := (s.1, sf_e2 s e)) g2 he, kp_0 a2 9 (by simp) _⟩
    · exact ⟨GC.trb (s := (s.1, sf_e2 s e)) g2 he, kp_0 a2 9 (by simp) _⟩
theorem slot_inv {s : se_S} (hA : GA s) (hC : GC s) {t j : Nat} (ht : t < 3) (hj : j < s.1 (4 + t)) : GC (s.1, (sf_slot s (8 * t + j)).2) ∧ kp s (sf_slot s (8 * t + j)).2 := by
  have h2 := hA.c2
  have h3 := hA.c3
  unfold sf_slot
  rcases hA.ek t j ht hj with ⟨z, f, hf, ef⟩ | ⟨z, f, hf, ef⟩ | ⟨z, f, hf, ef⟩
  · rw [if_pos z, ef]; exact own_inv hA hC hf
  · rw [z, if_neg (by decide), if_pos rfl, ef, nI_clamp (by omega)]; exact spo_inv hA hC hf
  · rw [z, if_neg (by decide), if_neg (by decide), ef, nI_clamp (by omega)]; exact evt_inv hA hC hf
abbrev GI (s : se_S) : Prop := (GA s) ∧ (GC s) ∧ (GT s)
theorem GI.a {s : se_S} (h : GI s) : GA s := h.1
theorem GI.c {s : se_S} (h : GI s) : GC s := h.2.1
theorem GI.t {s : se_S} (h : GI s) : GT s := h.2.2
theorem GI.mk {s : se_S} (x0 : GA s) (x1 : GC s) (x2 : GT s) : GI s := ⟨x0, x1, x2⟩
theorem GT_kp {s : se_S} {I : Nat → Nat → Int32} (h : GT s) (hk : kp s I) (h0 : ¬ s.2 0 0 = 0) : GT (s.1, I) :=
  GT_as h rfl (fun j hj => hk.z j (by omega) (by omega) (by omega)) (fun z => absurd z h0) (hk.r 16 (by decide) (by decide) (by decide) (by decide) (by decide))
theorem GI_tick {s : se_S} (h : GI s) : GI (sf_tick s).2 := by
  unfold sf_tick
  split
  · exact h
  · rename_i hst
    have h0 : ¬ s.2 0 0 = 0 := fun z => hst (Or.inl z)
    split
    · refine ⟨GA_as h.a rfl (fun k hk => up2_k _ _ (by unfold cfg at hk; omega)), GC_as h.c rfl (Or.inl rfl) rfl rfl rfl rfl rfl rfl rfl, GT_as h.t rfl (fun j hj => up2_ne _ _ (by omega)) (fun _ => rfl) rfl⟩
    · obtain ⟨t, x, ht, hx, e3, e4, _⟩ := turn_at h.a h.c h.t h0
      have h8 := h.a.c4 t ht
      have hix : (8 * sf_turn s 0 3 + sf_turn s 0 4).toNatClampNeg = 8 * t + x := by rw [e3, e4, nI_8, pk_mul, nI_add, nI_clamp (by omega)]
      rw [hix]
      obtain ⟨g, k⟩ := slot_inv (GA_run h.a) (GC_run h.c) ht hx
      have r0 : ¬ (sf_run s).2 0 0 = 0 := by rw [run_0 0 (by omega)]; exact h0
      have gT := GT_kp (GT_run h.a h.c h.t h0) k r0
      have gA := GA_kp (GA_run h.a) k
      refine ⟨GA_as gA rfl (fun k hk => up2_k _ _ (by unfold cfg at hk; omega)), GC_as g rfl (Or.inl rfl) rfl rfl rfl rfl rfl rfl rfl, GT_as gT rfl (fun j hj => rfl) (fun _ => rfl) rfl⟩
