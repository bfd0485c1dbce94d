def xev (x : xX) (e L : Nat) (hd : Int32) : xX := (up2 (up2 x.1 0 3 (x.1 0 3 + 1)) 2 e hd, x.2.1, va_up x.2.2 3 L)
theorem xev_c3 (x : xX) (e L : Nat) (hd : Int32) : ∀ j, (xev x e L hd).1 0 j = if j = 3 then x.1 0 3 + 1 else x.1 0 j := fun j => by
  show up2 (up2 x.1 0 3 (x.1 0 3 + 1)) 2 e hd 0 j = _
  rw [up2_k _ _ (by decide)]
  by_cases hj : j = 3
  · rw [hj, up2_self, if_pos rfl]
  · rw [up2_ne _ _ (fun w => hj w.2), if_neg hj]
theorem RX.event {zz : Nat × Nat} {h h' : mx_H} {ad : Nat → Nat → Nat} {s : se_S} {x : xX} (r : RX zz h ad s x) {q q2 bb L : Nat} {a b c hd t : Int32} (hq : h q = none) (hq2 : h q2 = none) (hqq : q ≠ q2) {h1 : mx_H} (eh1 : h1 = va_up (va_up h q2 (some (qa "HeaderSchedule$Frame" (xn (r3 (up2 s.2 16 (s.1 3) t) 15 (s.1 3) a b c 15) (s.1 3)) (xr ad (r3 (up2 s.2 16 (s.1 3) t) 15 (s.1 3) a b c 15) (s.1 3))))) q (some (.inr (4, [.int hd, .ref q2, .int t])))) (hb : (bb = ad 2 3 ∧ L = x.2.2 3 ∧ 0 < x.2.2 3) ∨ h1 bb = none) (hz : bb ≠ zz.1) (hL : s.1 3 < L) (hL2 : L ≤ 24) (hoff : ∀ y, y ≠ ad 1 3 → y ≠ bb → h' y = h1 y) (ha : h' (ad 1 3) = some (.inr (9, [.int (x.1 0 3 + 1), .ref bb, .int (nI (s.1 3 + 1))]))) (hb' : h' bb = some (qa "java/lang/Object" L (va_up (xg ad (s.1 3) 3) (s.1 3) (some q)))) : RX zz h' (up2 (up2 (up2 ad 11 (s.1 3) q2) 10 (s.1 3) q) 2 3 bb) (va_up s.1 3 (s.1 3 + 1), r3 (up2 s.2 16 (s.1 3) t) 15 (s.1 3) a b c) (xev x (s.1 3) L hd) := by
  have hn11 : ¬ lvX s x 11 (s.1 3) := fun z => absurd (show s.1 3 < s.1 3 from z) (by omega)
  have hn10 : ¬ lvX s x 10 (s.1 3) := fun z => absurd (show s.1 3 < s.1 3 from z) (by omega)
  have r1 := rp_new r.1 (k := 11) (i := s.1 3) hq2 hn11 (qa "HeaderSchedule$Frame" (xn (r3 (up2 s.2 16 (s.1 3) t) 15 (s.1 3) a b c 15) (s.1 3)) (xr ad (r3 (up2 s.2 16 (s.1 3) t) 15 (s.1 3) a b c 15) (s.1 3)))
  have r2 := rp_new r1 (k := 10) (i := s.1 3) (q := q) (by rw [va_up_ne _ _ hqq]; exact hq) (fun z => z.elim hn10 (fun w => by omega)) (.inr (4, [.int hd, .ref q2, .int t]))
  rw [← eh1] at r2
  have nl : ∀ k j, lvX s x k j → ¬ (k = 11 ∧ j = s.1 3) ∧ ¬ (k = 10 ∧ j = s.1 3) := fun k j z => ⟨fun w => hn11 (by rw [← w.1, ← w.2]; exact z), fun w => hn10 (by rw [← w.1, ← w.2]; exact z)⟩
  have rk : ∀ k, k ≠ 15 → r3 (up2 s.2 16 (s.1 3) t) 15 (s.1 3) a b c k = up2 s.2 16 (s.1 3) t k := fun k hk => r3_k _ hk
  refine r.add r2 (fun k j z => Or.inl (Or.inl z)) (fun k j z => by rw [up2_ne _ _ (nl k j z).2, up2_ne _ _ (nl k j z).1]) (fun k j hk z => by rw [up2_ne _ _ (nl k j z).2, up2_ne _ _ (nl k j z).1]) (i := 3) (by decide) (show up2 (up2 ad 11 (s.1 3) q2) 10 (s.1 3) q 10 (0 + s.1 3) = q by rw [Nat.zero_add, up2_self]) hb hz hL hL2 hoff ha hb' rfl rfl (xev_c3 x (s.1 3) L hd) ?_ ?_
  · intro k j k1 k2 z
    match k, k1, k2, z with
    | 0, _, _, z => exact Or.inl (Or.inl z)
    | 1, k1, _, _ => exact absurd rfl k1
    | 2, _, k2, _ => exact absurd rfl k2
    | 3, _, _, z => exact Or.inl (Or.inl z)
    | 4, _, _, z => exact Or.inl (Or.inl z)
    | 5, _, _, z => exact Or.inl (Or.inl z)
    | 6, _, _, z => exact Or.inl (Or.inl z)
    | 7, _, _, z => exact Or.inl (Or.inl z)
    | 8, _, _, z => exact Or.inl (Or.inl z)
    | 9, _, _, z => exact Or.inl (Or.inl z)
    | 10, _, _, z =>
      have z : j < s.1 3 + 1 := z
      by_cases hj : j = s.1 3
      · exact Or.inr ⟨rfl, hj⟩
      · exact Or.inl (Or.inl (show j < s.1 3 by omega))
    | 11, _, _, z =>
      have z : j < s.1 3 + 1 := z
      by_cases hj : j = s.1 3
      · exact Or.inl (Or.inr ⟨rfl, hj⟩)
      · exact Or.inl (Or.inl (show j < s.1 3 by omega))
    | 12, _, _, z =>
      obtain ⟨t, p, h1, h2, h3⟩ := z
      have h2 : p < va_up s.1 3 (s.1 3 + 1) (4 + t) := h2
      rw [va_up_ne _ _ (by omega)] at h2
      exact Or.inl (Or.inl ⟨t, p, h1, h2, h3⟩)
    | k + 13, _, _, z => exact z.elim
  · intro k j k1 k2 z
    match k, k1, k2, z with
    | 0, _, _, z => rfl
    | 1, k1, _, _ => exact absurd rfl k1
    | 2, _, k2, _ => exact absurd rfl k2
    | 3, _, _, z =>
      match j with
      | 0 => rfl
      | 1 => rfl
      | j + 2 => rfl
    | 4, _, _, z =>
      match j with
      | 0 => rfl
      | 1 => rfl
      | j + 2 => rfl
    | 5, _, _, z => rfl
    | 6, _, _, z => rfl
    | 7, _, _, z => rfl
    | 8, _, _, z => rfl
    | 9, _, _, z => rfl
    | 10, _, _, z =>
      show (Sum.inr (4, [.int (up2 (up2 x.1 0 3 (x.1 0 3 + 1)) 2 (s.1 3) hd 2 j), .ref (up2 (up2 (up2 ad 11 (s.1 3) q2) 10 (s.1 3) q) 2 3 bb 11 j), .int (up2 s.2 16 (s.1 3) t 16 j)]) : mx_E) = _
      rw [up2_k (up2 (up2 ad 11 (s.1 3) q2) 10 (s.1 3) q) _ (show (11 : Nat) ≠ 2 by decide), up2_k (up2 ad 11 (s.1 3) q2) _ (show (11 : Nat) ≠ 10 by decide)]
      by_cases hj : j = s.1 3
      · rw [hj, up2_self, up2_self, up2_self, up2_self]
      · rw [up2_ne _ _ (fun w => hj w.2), up2_ne _ _ (fun w => hj w.2), up2_ne _ _ (fun w => hj w.2), up2_ne _ _ (fun w => hj w.2), up2_ne _ _ (fun w => hj w.2)]
        rfl
    | 11, _, _, z =>
      show qa "HeaderSchedule$Frame" (xn (r3 (up2 s.2 16 (s.1 3) t) 15 (s.1 3) a b c 15) j) (xr ad (r3 (up2 s.2 16 (s.1 3) t) 15 (s.1 3) a b c 15) j) = _
      rw [up2_k _ _ (show (11 : Nat) ≠ 10 by decide)]
      by_cases hj : j = s.1 3
      · rw [hj, up2_self]
      · rw [up2_ne _ _ (fun w => hj w.2), xn_ne _ hj, xr_ne ad _ hj]
        rfl
    | 12, _, _, z => rfl
    | k + 13, _, _, z => exact z.elim
