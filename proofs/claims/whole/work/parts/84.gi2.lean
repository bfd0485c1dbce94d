theorem ite_GI {c : Prop} [Decidable c] {a b : Int32 × se_S} (h1 : c → GI a.2) (h2 : ¬ c → GI b.2) : GI (if c then a else b).2 := by
  split
  · exact h1 ‹_›
  · exact h2 ‹_›
theorem va_le (c : Nat → Nat) (k : Nat) (q : Nat) : c q ≤ va_up c k (c k + 1) q := by
  by_cases e : q = k
  · rw [e, va_up_self]; omega
  · rw [va_up_ne _ _ e]; exact Nat.le_refl _
theorem GI_frame {s : se_S} (h : GI s) (id node len more : Int32) : GI (se_frame s id node len more).2 := by
  unfold se_frame
  split
  · exact h
  · rename_i hc
    simp only [Bool.or_eq_true, Bool.not_eq_true', not_or, Bool.not_eq_false, beq_iff_eq, beq_eq_false_iff_ne, ne_eq, Bool.not_eq_true, Decidable.not_not] at hc
    obtain ⟨⟨⟨⟨⟨h0, h8⟩, h59⟩, htk⟩, _⟩, hl⟩ := hc
    have c0 := h.a.c0
    obtain ⟨i, _, hi, ei⟩ := se_wi_c (a := 0) (b := 59) h59 rfl rfl (by decide) (by decide)
    obtain ⟨n, hn1, hn, en⟩ := se_wi_c (a := 1) (b := 8) hl rfl rfl (by decide) (by decide)
    exact ⟨GA_frame h.a (by omega) (show i < 60 by omega) ei htk hn1 hn en, GC_grow h.c (va_le s.1 0) rfl rfl rfl rfl, GT_grow h.t (va_le s.1 0) rfl h0⟩
theorem se_ex_nI {s : se_S} (h : GA s) {a : Int32} (e : se_ex s a = true) : ∃ j, j < s.1 0 ∧ a = nI j := se_wi_nI e (by have := h.c0; omega)
theorem GI_signal {s : se_S} (h : GI s) (f off w v : Int32) : GI (se_signal s f off w v).2 := by
  unfold se_signal
  refine ite_GI (fun _ => h) (fun hc => ite_GI (fun _ => h) (fun hc2 => ite_GI (fun _ => h) (fun hc3 => ?_)))
  simp only [Bool.or_eq_true, Bool.not_eq_true', not_or, Bool.not_eq_false, beq_iff_eq, beq_eq_false_iff_ne, ne_eq, Decidable.not_not] at hc hc2
  simp only [Bool.not_eq_true] at hc3
  obtain ⟨⟨⟨h0, h16⟩, hf⟩, hw⟩ := hc
  have c0 := h.a.c0
  have c1 := h.a.c1
  obtain ⟨f0, hf0, ef⟩ := se_wi_nI hf (by omega)
  obtain ⟨w0, hw1, hw16, ew⟩ := se_wi_c (a := 1) (b := 16) hw rfl rfl (by decide) (by decide)
  obtain ⟨n, hn1, hn, en⟩ := h.a.ln f0 hf0
  have hcf : f.toNatClampNeg = f0 := by rw [ef, nI_clamp (by omega)]
  have hcw : w.toNatClampNeg = w0 := by rw [ew, nI_clamp (by omega)]
  rw [hcf, en] at hc2
  rw [hcw] at hc3
  have hex : ∃ o, off = nI o ∧ o + w0 ≤ 8 * n ∧ ¬ (0 < s.2 6 f0 ∧ o < 8) := by
    have h1 := hc2.1
    unfold se_wi at h1
    simp only [Bool.and_eq_true, Bool.not_eq_true', decide_eq_false_iff_not] at h1
    have hn0 : ¬ off < 0 := fun z => h1.1 (by
      split
      · rw [Int32.lt_iff_toInt_lt] at z ⊢
        have a : (0 : Int32).toInt = 0 := by decide
        have b : (8 : Int32).toInt = 8 := by decide
        omega
      · exact z)
    obtain ⟨o, ho, eo⟩ := nI_of hn0
    have h2 := h1.2
    rw [ew, nI_8, pk_mul, eo, Int32.lt_iff_toInt_lt, Int32.toInt_sub, nI_toInt (by omega), nI_toInt (by omega), nI_toInt ho] at h2
    have hb : ((8 * n : Nat) - (w0 : Nat) : Int).bmod (2 ^ 32) = (8 * n : Nat) - (w0 : Nat) := Int.bmod_eq_of_le (by omega) (by omega)
    rw [hb] at h2
    refine ⟨o, eo, by omega, fun z => h1.1 ?_⟩
    rw [if_pos z.1, eo, nI_8]
    exact nI_lt z.2 (by decide)
  obtain ⟨o, eo, how, h6⟩ := hex
  have hfr : se_any (fun j => se_bt s (nI f0) (nI o + nI j)) w0 = false := by
    rw [← ef, ← eo]
    exact hc3
  exact ⟨GA_signal h.a hf0 ef eo ew hw1 hw16 en hn how (by omega) h6 hfr, GC_grow h.c (va_le s.1 1) rfl rfl rfl rfl, GT_grow h.t (va_le s.1 1) rfl h0⟩
theorem GI_sporadic {s : se_S} (h : GI s) (a b c : Int32) : GI (se_sporadic s a b c).2 := by
  unfold se_sporadic
  split
  · exact h
  · rename_i hc
    split
    · exact h
    · simp only [Bool.or_eq_true, Bool.and_eq_true, Bool.not_eq_true', not_or, not_and, Bool.not_eq_false, beq_iff_eq, beq_eq_false_iff_ne, ne_eq, Decidable.not_not] at hc
      obtain ⟨⟨⟨⟨⟨⟨⟨h0, h2⟩, ha⟩, hb⟩, hcc⟩, _⟩, _⟩, _⟩ := hc
      have c2 := h.a.c2
      obtain ⟨a0, ha0, ea⟩ := se_ex_nI h.a ha
      obtain ⟨b0, hb0, eb⟩ := se_ex_nI h.a hb
      refine ⟨GA_sporadic h.a (by omega) ha0 hb0 ea eb ?_, GC_grow h.c (va_le s.1 2) rfl rfl rfl rfl, GT_grow h.t (va_le s.1 2) rfl h0⟩
      by_cases ec : c = -1
      · exact Or.inl ec
      · exact Or.inr (se_ex_nI h.a (hcc ec))
theorem GI_entry {s : se_S} (h : GI s) (t kind num d : Int32) : GI (se_entry s t kind num d).2 := by
  unfold se_entry
  refine ite_GI (fun _ => h) (fun hc => ite_GI (fun _ => h) (fun hc2 => ?_))
  simp only [Bool.or_eq_true, Bool.not_eq_true', not_or, Bool.not_eq_false, beq_iff_eq, beq_eq_false_iff_ne, ne_eq, Decidable.not_not] at hc hc2
  obtain ⟨⟨⟨⟨h0, ht⟩, h8⟩, hk⟩, _⟩ := hc
  obtain ⟨t0, _, ht0, et⟩ := se_wi_c (a := 0) (b := 2) ht rfl rfl (by decide) (by decide)
  have hct : t.toNatClampNeg = t0 := by rw [et, nI_clamp (by omega)]
  have c4 := h.a.c4 t0 (by omega)
  have c0 := h.a.c0
  have c2 := h.a.c2
  have c3 := h.a.c3
  rw [hct] at h8
  show GI (va_up s.1 (4 + t.toNatClampNeg) (s.1 (4 + t.toNatClampNeg) + 1), up2 (up2 (up2 s.2 17 (8 * t.toNatClampNeg + s.1 (4 + t.toNatClampNeg)) kind) 18 (8 * t.toNatClampNeg + s.1 (4 + t.toNatClampNeg)) num) 19 (8 * t.toNatClampNeg + s.1 (4 + t.toNatClampNeg)) d)
  rw [hct]
  refine ⟨GA_entry h.a (show t0 < 3 by omega) (by omega) ?_, GC_grow h.c (va_le s.1 (4 + t0)) rfl rfl rfl rfl, GT_grow h.t (va_le s.1 (4 + t0)) rfl h0⟩
  obtain ⟨k0, _, hk0, ek⟩ := se_wi_c (a := 0) (b := 2) hk rfl rfl (by decide) (by decide)
  subst ek
  match k0, hk0 with
  | 0, _ =>
    left
    exact ⟨rfl, se_wi_nI (n := s.1 0) hc2 (by omega)⟩
  | 1, _ =>
    right; left
    exact ⟨rfl, se_wi_nI (n := s.1 2) hc2 (by omega)⟩
  | 2, _ =>
    right; right
    exact ⟨rfl, se_wi_nI (n := s.1 3) hc2 (by omega)⟩
theorem GI_write {s : se_S} (h : GI s) (g v : Int32) : GI (se_write s g v).2 := by
  unfold se_write
  split
  · exact h
  · rename_i hc
    simp only [Bool.or_eq_true, Bool.not_eq_true', not_or, Bool.not_eq_false] at hc
    have c0 := h.a.c0
    have c1 := h.a.c1
    obtain ⟨j, hj, ej⟩ := se_wi_nI hc.1 (by omega)
    obtain ⟨f, _, _, _, hf, _, _, ef, _⟩ := h.a.sg j hj
    have hcj : g.toNatClampNeg = j := by rw [ej, nI_clamp (by omega)]
    have hcf : (s.2 7 j).toNatClampNeg = f := by rw [ef, nI_clamp (by omega)]
    rw [hcj, hcf]
    refine ⟨GA_as h.a rfl (fun k hk => ?_), ?_, GT_as h.t rfl (fun j hj => rfl) (fun _ => rfl) rfl⟩
    · show up2 (up2 s.2 10 j v) 5 f 1 k = s.2 k
      rw [up2_k _ _ (by unfold cfg at hk; omega), up2_k _ _ (by unfold cfg at hk; omega)]
    · exact GC.pend (s := (s.1, up2 s.2 10 j v)) (GC_as h.c rfl (Or.inl rfl) rfl rfl rfl rfl rfl rfl rfl) (Or.inr ⟨rfl, hf⟩)
theorem GI_fresh {s : se_S} (h : GI s) (g : Int32) : GI (se_fresh s g).2 := by
  unfold se_fresh
  split
  · exact h
  · exact ⟨GA_as h.a rfl (fun k hk => up2_k _ _ (by unfold cfg at hk; omega)), h.c.neu (Or.inl rfl), GT_as h.t rfl (fun j hj => rfl) (fun _ => rfl) rfl⟩
theorem GI_request {s : se_S} (h : GI s) (t : Int32) : GI (se_request s t).2 := by
  unfold se_request
  split
  · exact h
  · rename_i hc
    simp only [Bool.or_eq_true, Bool.not_eq_true', not_or, Bool.not_eq_false, beq_iff_eq] at hc
    obtain ⟨t0, _, ht0, et⟩ := se_wi_c (a := 0) (b := 2) hc.1.2 rfl rfl (by decide) (by decide)
    have hct : t.toNatClampNeg = t0 := by rw [et, nI_clamp (by omega)]
    have h2 := hc.2
    rw [hct] at h2
    refine ⟨GA_as h.a rfl (fun k hk => up2_k _ _ (by unfold cfg at hk; omega)), GC_as h.c rfl (Or.inl rfl) rfl rfl rfl rfl rfl rfl rfl, h.t.p3, h.t.p6, Or.inr ⟨t0, by omega, show 0 < s.1 (4 + t0) by omega, et⟩, h.t.ns, h.t.r3, h.t.r6, h.t.r9⟩
theorem GI_noise {s : se_S} (h : GI s) (k m : Int32) : GI (se_noise s k m).2 := by
  unfold se_noise
  split
  · exact h
  · rename_i hc
    simp only [Bool.or_eq_true, Bool.not_eq_true', not_or, Bool.not_eq_false] at hc
    obtain ⟨k0, _, hk0, ek⟩ := se_wi_c (a := 0) (b := 8) hc.1 rfl rfl (by decide) (by decide)
    obtain ⟨m0, _, hm0, em⟩ := se_wi_c (a := 1) (b := 255) hc.2 rfl rfl (by decide) (by decide)
    refine ⟨GA_as h.a rfl (fun q hq => ?_), ⟨h.c.wt, h.c.wz, h.c.nw, h.c.nz, h.c.p9, h.c.pb, fun _ => ⟨k0, hk0, ek⟩, ⟨m0, by omega, em⟩, h.c.li⟩, GT_as h.t rfl (fun j hj => ?_) (fun _ => rfl) rfl⟩
    · show up2 (up2 (up2 s.2 0 11 1) 0 12 k) 0 13 m q = s.2 q
      have : q ≠ 0 := by unfold cfg at hq; omega
      rw [up2_k _ _ this, up2_k _ _ this, up2_k _ _ this]
    · show up2 (up2 (up2 s.2 0 11 1) 0 12 k) 0 13 m 0 j = s.2 0 j
      rw [up2_ne _ _ (by omega), up2_ne _ _ (by omega), up2_ne _ _ (by omega)]
theorem GI_sleep {s : se_S} (h : GI s) : GI (se_sleep s).2 := by
  unfold se_sleep
  split
  · exact h
  · refine ⟨GA_as h.a rfl (fun q hq => ?_), GC_as h.c rfl (Or.inl rfl) rfl rfl rfl rfl rfl rfl rfl, GT_as h.t rfl (fun j hj => ?_) (fun _ => rfl) rfl⟩
    · show up2 (up2 s.2 0 1 1) 0 2 0 q = s.2 q
      have : q ≠ 0 := by unfold cfg at hq; omega
      rw [up2_k _ _ this, up2_k _ _ this]
    · show up2 (up2 s.2 0 1 1) 0 2 0 0 j = s.2 0 j
      rw [up2_ne _ _ (by omega), up2_ne _ _ (by omega)]
theorem GI_wake {s : se_S} (h : GI s) : GI (se_wake s).2 := by
  unfold se_wake
  split
  · exact h
  · exact ⟨GA_as h.a rfl (fun q hq => up2_k _ _ (by unfold cfg at hq; omega)), GC_as h.c rfl (Or.inl rfl) rfl rfl rfl rfl rfl rfl rfl, GT_as h.t rfl (fun j hj => up2_ne _ _ (by omega)) (fun _ => rfl) rfl⟩
theorem GI_start {s : se_S} (h : GI s) (t : Int32) : GI (se_start s t).2 := by
  unfold se_start
  split
  · exact h
  · rename_i hc
    split
    · exact h
    · rename_i hc2
      simp only [Bool.or_eq_true, Bool.not_eq_true', not_or, Bool.not_eq_false, beq_iff_eq, beq_eq_false_iff_ne, ne_eq, Decidable.not_not] at hc
      obtain ⟨t0, _, ht0, et⟩ := se_wi_c (a := 0) (b := 2) hc.1.2 rfl rfl (by decide) (by decide)
      have hct : t.toNatClampNeg = t0 := by rw [et, nI_clamp (by omega)]
      have h2 := hc.2
      rw [hct] at h2
      have h0 := hc.1.1
      refine ⟨GA_as h.a rfl (fun q hq => ?_), GC_as h.c rfl (Or.inl rfl) rfl rfl rfl rfl rfl rfl rfl, ⟨t0, 0, by omega, Nat.zero_le _, et, rfl⟩, h.t.p6, h.t.p8, fun z => absurd z (show ¬ (1 : Int32) = 0 by decide), fun _ t' ht' et' => ?_, fun _ z => absurd (h.t.ns h0).1 z, fun _ e t' he ht' et' => ?_⟩
      · show up2 (up2 (up2 s.2 0 0 1) 0 3 t) 0 4 0 q = s.2 q
        have : q ≠ 0 := by unfold cfg at hq; omega
        rw [up2_k _ _ this, up2_k _ _ this, up2_k _ _ this]
      · have et' : t = nI t' := et'
        rw [et, nI_eq (by omega) (by omega)] at et'
        show 0 < s.1 (4 + t')
        rw [← et']; omega
      · have he : e < s.1 3 := he
        have et' : s.2 16 e = nI t' := et'
        show 0 < s.1 (4 + t')
        have hr : se_res s e = true := by
          cases er : se_res s e with
          | true => rfl
          | false => exact absurd ((se_any_iff (fun e => !se_res s e) (s.1 3)).mpr ⟨e, he, by simp [er]⟩) hc2
        unfold se_res at hr
        have hct' : (s.2 16 e).toNatClampNeg = t' := by rw [et', nI_clamp (by omega)]
        rw [hct'] at hr
        simp only [Bool.and_eq_true, Bool.not_eq_true'] at hr
        obtain ⟨⟨f, hf, ef⟩, _⟩ := h.a.ge e he
        have hc0 := h.a.c0
        have hne : ¬ s.2 15 (3 * e + 0) = -1 := fun z => by
          have z : s.2 15 (3 * e) = -1 := z
          rw [ef] at z
          have a := nI_pos' (n := f) (by omega)
          rw [z] at a
          exact absurd a (by decide)
        apply Classical.byContradiction
        intro hz
        have hz : s.1 (4 + t') = 0 := by omega
        have : se_any (fun q => !(s.2 15 (3 * e + q) == -1) && !se_any (fun j => s.2 17 (8 * t' + j) == 0 && s.2 18 (8 * t' + j) == s.2 15 (3 * e + q)) (s.1 (4 + t'))) 3 = true := (se_any_iff _ _).mpr ⟨0, by decide, by
          show (!(s.2 15 (3 * e + 0) == -1) && !se_any (fun j => s.2 17 (8 * t' + j) == 0 && s.2 18 (8 * t' + j) == s.2 15 (3 * e + 0)) (s.1 (4 + t'))) = true
          rw [hz, bf hne]
          rfl⟩
        rw [hr.2] at this
        cases this
theorem GI_0 : GI s0 := by
  refine ⟨⟨by decide, by decide, by decide, by decide, fun t => Nat.zero_le _, ?_, ?_, ?_, fun f => ⟨0, by decide, rfl⟩, fun f _ => rfl, ?_, ?_, ?_, ?_, ?_, ?_, ?_, ?_, ?_⟩, ⟨fun f => Or.inl rfl, fun f _ => rfl, fun f => Or.inl rfl, fun f _ => rfl, Or.inl rfl, ⟨0, by decide, rfl⟩, fun z => absurd rfl z, ⟨0, by decide, rfl⟩, fun k => ⟨0, by decide, rfl⟩⟩, ⟨⟨0, 0, by decide, Nat.zero_le _, rfl, rfl⟩, ⟨0, 0, by decide, Nat.zero_le _, rfl, rfl⟩, Or.inl rfl, fun _ => ⟨rfl, rfl⟩, fun z => absurd rfl z, fun z => absurd rfl z, fun z => absurd rfl z⟩⟩
  · intro f hf; exact absurd hf (Nat.not_lt_zero _)
  · intro f f' hf; exact absurd hf (Nat.not_lt_zero _)
  · intro f hf; exact absurd hf (Nat.not_lt_zero _)
  · intro f hf; exact absurd hf (Nat.not_lt_zero _)
  · intro f f' hf; exact absurd hf (Nat.not_lt_zero _)
  · intro f f' hf; exact absurd hf (Nat.not_lt_zero _)
  · intro f hf; exact absurd hf (Nat.not_lt_zero _)
  · intro f hf; exact absurd hf (Nat.not_lt_zero _)
  · intro f hf; exact absurd hf (Nat.not_lt_zero _)
  · intro f hf; exact absurd hf (Nat.not_lt_zero _)
  · intro f hf; exact absurd hf (Nat.not_lt_zero _)
  · intro t j _ hj; exact absurd hj (Nat.not_lt_zero _)
