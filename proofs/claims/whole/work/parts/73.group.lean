def r3 (r : Nat → Nat → Int32) (k g : Nat) (a b c : Int32) : Nat → Nat → Int32 := up2 (up2 (up2 r k (3 * g) a) k (3 * g + 1) b) k (3 * g + 2) c
theorem r3_k (r : Nat → Nat → Int32) {k k' g : Nat} {a b c : Int32} (h : k' ≠ k) : r3 r k g a b c k' = r k' := by
  unfold r3
  rw [up2_k _ _ h, up2_k _ _ h, up2_k _ _ h]
theorem r3_0 (r : Nat → Nat → Int32) (k g : Nat) (a b c : Int32) : r3 r k g a b c k (3 * g) = a := by
  unfold r3
  rw [up2_ne _ _ (fun z => by omega), up2_ne _ _ (fun z => by omega), up2_self]
theorem r3_1 (r : Nat → Nat → Int32) (k g : Nat) (a b c : Int32) : r3 r k g a b c k (3 * g + 1) = b := by
  unfold r3
  rw [up2_ne _ _ (fun z => by omega), up2_self]
theorem r3_2 (r : Nat → Nat → Int32) (k g : Nat) (a b c : Int32) : r3 r k g a b c k (3 * g + 2) = c := by
  unfold r3
  rw [up2_self]
theorem r3_ne (r : Nat → Nat → Int32) {k g g' q : Nat} {a b c : Int32} (h : g' ≠ g) (hq : q < 3) : r3 r k g a b c k (3 * g' + q) = r k (3 * g' + q) := by
  unfold r3
  rw [up2_ne _ _ (fun z => by omega), up2_ne _ _ (fun z => by omega), up2_ne _ _ (fun z => by omega)]
theorem xn_ne (r : Nat → Nat → Int32) {k g g' : Nat} {a b c : Int32} (h : g' ≠ g) : xn (r3 r k g a b c k) g' = xn (r k) g' := by
  unfold xn
  rw [r3_ne r h (by decide)]
theorem xn_le (r : Nat → Int32) (g : Nat) : xn r g ≤ 3 := by
  unfold xn
  split <;> omega
theorem xr_ne (ad : Nat → Nat → Nat) (r : Nat → Nat → Int32) {k g g' : Nat} {a b c : Int32} (h : g' ≠ g) : xr ad (r3 r k g a b c k) g' = xr ad (r k) g' := by
  funext q
  unfold xr
  rw [xn_ne r h]
  by_cases hq : q < xn (r k) g'
  · have := xn_le (r k) g'
    rw [if_pos hq, if_pos hq, r3_ne r h (by omega)]
  · rw [if_neg hq, if_neg hq]
theorem RX.group {zz : Nat × Nat} {h h' : mx_H} {ad : Nat → Nat → Nat} {s : se_S} {x : xX} (r : RX zz h ad s x) {q q2 bb L : Nat} {a b c : Int32} (hq : h q = none) (hq2 : h q2 = none) (hqq : q ≠ q2) {h1 : mx_H} (eh1 : h1 = va_up (va_up h q2 (some (qa "HeaderSchedule$Frame" (xn (r3 s.2 13 (s.1 2) a b c 13) (s.1 2)) (xr ad (r3 s.2 13 (s.1 2) a b c 13) (s.1 2))))) q (some (.inr (3, [.ref q2])))) (hb : (bb = ad 2 2 ∧ L = x.2.2 2 ∧ 0 < x.2.2 2) ∨ h1 bb = none) (hz : bb ≠ zz.1) (hL : s.1 2 < L) (hL2 : L ≤ 24) (hoff : ∀ y, y ≠ ad 1 2 → y ≠ bb → h' y = h1 y) (ha : h' (ad 1 2) = some (.inr (9, [.int (x.1 0 2 + 1), .ref bb, .int (nI (s.1 2 + 1))]))) (hb' : h' bb = some (qa "java/lang/Object" L (va_up (xg ad (s.1 2) 2) (s.1 2) (some q)))) : RX zz h' (up2 (up2 (up2 ad 9 (s.1 2) q2) 8 (s.1 2) q) 2 2 bb) (va_up s.1 2 (s.1 2 + 1), r3 s.2 13 (s.1 2) a b c) (xmod x 2 L) := by
  have hn9 : ¬ lvX s x 9 (s.1 2) := fun z => absurd (show s.1 2 < s.1 2 from z) (by omega)
  have hn8 : ¬ lvX s x 8 (s.1 2) := fun z => absurd (show s.1 2 < s.1 2 from z) (by omega)
  have r1 := rp_new r.1 (k := 9) (i := s.1 2) hq2 hn9 (qa "HeaderSchedule$Frame" (xn (r3 s.2 13 (s.1 2) a b c 13) (s.1 2)) (xr ad (r3 s.2 13 (s.1 2) a b c 13) (s.1 2)))
  have r2 := rp_new r1 (k := 8) (i := s.1 2) (q := q) (by rw [va_up_ne _ _ hqq]; exact hq) (fun z => z.elim hn8 (fun w => by omega)) (.inr (3, [.ref q2]))
  rw [← eh1] at r2
  have nl : ∀ k j, lvX s x k j → ¬ (k = 9 ∧ j = s.1 2) ∧ ¬ (k = 8 ∧ j = s.1 2) := fun k j z => ⟨fun w => hn9 (by rw [← w.1, ← w.2]; exact z), fun w => hn8 (by rw [← w.1, ← w.2]; exact z)⟩
  have rk : ∀ k, k ≠ 13 → r3 s.2 13 (s.1 2) a b c k = s.2 k := fun k hk => r3_k s.2 hk
  refine r.add r2 (fun k j z => Or.inl (Or.inl z)) (fun k j z => by rw [up2_ne _ _ (nl k j z).2, up2_ne _ _ (nl k j z).1]) (fun k j hk z => by rw [up2_ne _ _ (nl k j z).2, up2_ne _ _ (nl k j z).1]) (i := 2) (by decide) (show up2 (up2 ad 9 (s.1 2) q2) 8 (s.1 2) q 8 (0 + s.1 2) = q by rw [Nat.zero_add, up2_self]) hb hz hL hL2 hoff ha hb' rfl rfl (xmod_c3 x 2 L) ?_ ?_
  · intro k j k1 k2 z
    match k, k1, k2, z with
    | 0, _, _, z => exact Or.inl (Or.inl z)
    | 1, k1, _, _ => exact absurd rfl k1
    | 2, _, k2, _ => exact absurd rfl k2
    | 3, _, _, z => exact Or.inl (Or.inl z)
    | 4, _, _, z => exact Or.inl (Or.inl z)
    | 5, _, _, z => exact Or.inl (Or.inl z)
    | 6, _, _, z => exact Or.inl (Or.inl z)
    | 7, _, _, z => exact Or.inl (Or.inl z)
    | 8, _, _, z =>
      have z : j < s.1 2 + 1 := z
      by_cases hj : j = s.1 2
      · exact Or.inr ⟨rfl, hj⟩
      · exact Or.inl (Or.inl (show j < s.1 2 by omega))
    | 9, _, _, z =>
      have z : j < s.1 2 + 1 := z
      by_cases hj : j = s.1 2
      · exact Or.inl (Or.inr ⟨rfl, hj⟩)
      · exact Or.inl (Or.inl (show j < s.1 2 by omega))
    | 10, _, _, z => exact Or.inl (Or.inl z)
    | 11, _, _, z => exact Or.inl (Or.inl z)
    | 12, _, _, z =>
      obtain ⟨t, p, h1, h2, h3⟩ := z
      have h2 : p < va_up s.1 2 (s.1 2 + 1) (4 + t) := h2
      rw [va_up_ne _ _ (by omega)] at h2
      exact Or.inl (Or.inl ⟨t, p, h1, h2, h3⟩)
    | k + 13, _, _, z => exact z.elim
  · intro k j k1 k2 z
    match k, k1, k2, z with
    | 0, _, _, z => rfl
    | 1, k1, _, _ => exact absurd rfl k1
    | 2, _, k2, _ => exact absurd rfl k2
    | 3, _, _, z =>
      match j with
      | 0 => rfl
      | 1 => rfl
      | j + 2 => rfl
    | 4, _, _, z =>
      match j with
      | 0 => rfl
      | 1 => rfl
      | j + 2 => rfl
    | 5, _, _, z => rfl
    | 6, _, _, z => rfl
    | 7, _, _, z => rfl
    | 8, _, _, z =>
      show (Sum.inr (3, [.ref (up2 (up2 (up2 ad 9 (s.1 2) q2) 8 (s.1 2) q) 2 2 bb 9 j)]) : mx_E) = _
      rw [up2_k _ _ (show (9 : Nat) ≠ 2 by decide), up2_k _ _ (show (9 : Nat) ≠ 8 by decide)]
      by_cases hj : j = s.1 2
      · rw [hj, up2_self, up2_self]
      · rw [up2_ne _ _ (fun w => hj w.2), up2_ne _ _ (fun w => hj w.2), up2_ne _ _ (fun w => hj w.2)]
        rfl
    | 9, _, _, z =>
      show qa "HeaderSchedule$Frame" (xn (r3 s.2 13 (s.1 2) a b c 13) j) (xr ad (r3 s.2 13 (s.1 2) a b c 13) j) = _
      rw [up2_k _ _ (show (9 : Nat) ≠ 8 by decide)]
      by_cases hj : j = s.1 2
      · rw [hj, up2_self]
      · rw [up2_ne _ _ (fun w => hj w.2), xn_ne s.2 hj, xr_ne ad s.2 hj]
        rfl
    | 10, _, _, z => rfl
    | 11, _, _, z => rfl
    | 12, _, _, z => rfl
    | k + 13, _, _, z => exact z.elim
theorem sp_rej {s : se_S} {a b c : Int32} (e : ((se_ex s a && s.2 2 a.toNatClampNeg == 0) && (se_ex s b && s.2 2 b.toNatClampNeg == 0) && (c == -1 || (se_ex s c && s.2 2 c.toNatClampNeg == 0))) = false) : se_sporadic s a b c = (-1, s) := by
  unfold se_sporadic
  split
  · rfl
  · rename_i h1
    split
    · rfl
    · rename_i h2
      exfalso
      simp only [Bool.or_eq_true, Bool.not_eq_true, not_or, Bool.and_eq_true, not_and, Bool.not_eq_eq_eq_not, Bool.not_true, Bool.not_false, Bool.and_eq_false_iff, Bool.or_eq_false_iff] at h1 h2 e
      simp_all
theorem q_Hs_sporadic {zz : Nat × Nat} {h : mx_H} {ad : Nat → Nat → Nat} {s : se_S} {x : xX} (hR : RX zz h ad s x) (hI : iX s) (a b c : Int32) (P : Option Value → mx_H → Prop) (hrej : se_sporadic s a b c = (-1, s) → P (some (.int (-1))) h) (hacc : ∀ (h' : mx_H) (ad' : Nat → Nat → Nat) (L a0 b0 : Nat), ad' 0 0 = ad 0 0 → a0 < s.1 0 → b0 < s.1 0 → a = nI a0 → b = nI b0 → (c = -1 ∨ ∃ c0, c0 < s.1 0 ∧ c = nI c0) → s.1 2 < 2 → s.2 0 0 = 0 → se_sporadic s a b c = (nI (s.1 2), va_up s.1 2 (s.1 2 + 1), r3 s.2 13 (s.1 2) a b c) → RX zz h' ad' (se_sporadic s a b c).2 (xmod x 2 L) → P (some (.int (nI (s.1 2)))) h') : S_Hs_sporadic zz [.ref (ad 0 0), .int a, .int b, .int c] h P := by
  have h8 := hI.1
  have h2 := hI.2.2.1
  have rej : (!(s.2 0 0 == 0) || s.1 2 == 2 || !se_ex s a || !se_ex s b || (!(c == -1) && !se_ex s c) || a == b || a == c || b == c) = true → P (some (.int (-1))) h := fun e => hrej (by unfold se_sporadic; rw [if_pos e])
  rw [S_Hs_sporadic, mx_S_eq (Nat.le_of_ble_eq_true rfl)]
  simp only [st_Hs_sporadic_0, st_Hs_sporadic_1, st_Hs_sporadic_4, st_Hs_sporadic_7, st_Hs_sporadic_8, st_Hs_sporadic_11, st_Hs_sporadic_14, st_Hs_sporadic_15, st_Hs_sporadic_18, st_Hs_sporadic_19, st_Hs_sporadic_20, st_Hs_sporadic_23, st_Hs_sporadic_24, st_Hs_sporadic_25, st_Hs_sporadic_28, st_Hs_sporadic_29, st_Hs_sporadic_30, st_Hs_sporadic_33, st_Hs_sporadic_34, st_Hs_sporadic_35, st_Hs_sporadic_36, st_Hs_sporadic_37, st_Hs_sporadic_40, st_Hs_sporadic_43, st_Hs_sporadic_44, st_Hs_sporadic_45, st_Hs_sporadic_48, st_Hs_sporadic_51, st_Hs_sporadic_52, st_Hs_sporadic_53, st_Hs_sporadic_56, st_Hs_sporadic_57, st_Hs_sporadic_58, st_Hs_sporadic_61, st_Hs_sporadic_64, st_Hs_sporadic_65, st_Hs_sporadic_66, st_Hs_sporadic_67, st_Hs_sporadic_73, st_Hs_sporadic_74, st_Hs_sporadic_75, st_Hs_sporadic_76, st_Hs_sporadic_77, st_Hs_sporadic_78, st_Hs_sporadic_81, st_Hs_sporadic_84, st_Hs_sporadic_87, st_Hs_sporadic_88, st_Hs_sporadic_89, st_Hs_sporadic_92, st_Hs_sporadic_95, st_Hs_sporadic_96, st_Hs_sporadic_97, lv_args, hR.fd (k := 0) (i := 0) rfl rfl 0 rfl, hR.fd (k := 0) (i := 0) rfl rfl 1 rfl, hR.fd (k := 0) (i := 0) rfl rfl 2 rfl, hR.fd (k := 0) (i := 0) rfl rfl 3 rfl, hR.fd (k := 0) (i := 0) rfl rfl 4 rfl, hR.fd (k := 0) (i := 0) rfl rfl 5 rfl, hR.fd (k := 0) (i := 0) rfl rfl 6 rfl, hR.fd (k := 0) (i := 0) rfl rfl 7 rfl, hR.fd (k := 0) (i := 0) rfl rfl 8 rfl, hR.fd (k := 0) (i := 0) rfl rfl 9 rfl, hR.fd (k := 0) (i := 0) rfl rfl 10 rfl, hR.size 0 (by decide), hR.size 1 (by decide), hR.size 2 (by decide), hR.size 3 (by decide), hR.size 4 (by decide), hR.size 5 (by decide), hR.size 6 (by decide), hR.ir (k := 3) (i := 0) (show 0 < 3 by decide) rfl, hR.ir (k := 3) (i := 1) (show 1 < 3 by decide) rfl, hR.ir (k := 3) (i := 2) (show 2 < 3 by decide) rfl, hR.il (k := 3) (i := 2) (show 2 < 3 by decide) rfl, hR.fd (k := 4) (i := 0) (show 0 < 3 by decide) rfl 0 rfl, hR.fd (k := 4) (i := 0) (show 0 < 3 by decide) rfl 1 rfl, hR.fd (k := 4) (i := 0) (show 0 < 3 by decide) rfl 2 rfl, hR.fd (k := 4) (i := 0) (show 0 < 3 by decide) rfl 3 rfl, hR.fd (k := 4) (i := 0) (show 0 < 3 by decide) rfl 4 rfl, hR.fd (k := 4) (i := 0) (show 0 < 3 by decide) rfl 5 rfl, hR.fd (k := 4) (i := 0) (show 0 < 3 by decide) rfl 6 rfl, hR.fd (k := 4) (i := 0) (show 0 < 3 by decide) rfl 7 rfl, hR.fd (k := 4) (i := 1) (show 1 < 3 by decide) rfl 0 rfl, hR.fd (k := 4) (i := 1) (show 1 < 3 by decide) rfl 1 rfl, hR.fd (k := 4) (i := 1) (show 1 < 3 by decide) rfl 2 rfl, hR.fd (k := 4) (i := 1) (show 1 < 3 by decide) rfl 3 rfl, hR.cl (k := 0) (i := 0) rfl rfl, hR.cl (k := 4) (i := 0) (show 0 < 3 by decide) rfl, hR.cl (k := 4) (i := 1) (show 1 < 3 by decide) rfl, hR.cl (k := 1) (i := 0) (show 0 < 7 by decide) rfl, hR.cl (k := 1) (i := 1) (show 1 < 7 by decide) rfl, hR.cl (k := 1) (i := 2) (show 2 < 7 by decide) rfl, hR.cl (k := 1) (i := 3) (show 3 < 7 by decide) rfl, hR.cl (k := 1) (i := 4) (show 4 < 7 by decide) rfl, hR.cl (k := 1) (i := 5) (show 5 < 7 by decide) rfl, hR.cl (k := 1) (i := 6) (show 6 < 7 by decide) rfl, hR.qr (k := 4) (i := 2) (show 2 < 3 by decide) rfl, (q_isMasters hR), o_push, o_iload, o_lload, o_aload, o_istore, o_lstore, o_astore, o_iinc, o_iincW, o_ii, o_iiz, o_i1, o_l1, o_ll, o_li, o_dup, o_pop, o_dupx1, o_dup2, o_goto, o_if, o_icmp, o_acmp, o_ifnull, o_ifnonnull, o_get, o_put, o_iald, o_iast, o_aald, o_aast, o_alen, o_alenZ, o_cast, o_objinit, o_new, o_newi, o_newq, o_newqZ, o_alZ, o_getC, o_iret, o_zret, o_lret, o_aret, o_vret, o_mm, o_st, o_sc, o_br, o_sw, o_ret, o_al, o_call, mx_sw, mx_pop, mx_lk, mx_s1, mx_s2, mx_cat, mx_rr, mx_rv, mx_z01_0, mx_z01_1, mx_vI, mx_vJ, mx_vA, va_rf, List.filter_cons, List.filter_nil, Value.category, List.map_cons, List.map_nil, List.sum_cons, List.sum_nil, reduceCtorEq, ↓reduceIte, if_true, if_false, decide_true, decide_false, Bool.not_true, Bool.not_false, Bool.and_true, Bool.true_and, Bool.and_false, Bool.false_and, beq_self_eq_true, Nat.reduceAdd, Nat.reduceBEq, Nat.reduceEqDiff, Nat.reduceLeDiff, Nat.add_zero, Nat.zero_add, Nat.le_refl, Nat.zero_le, true_and, and_true, Option.toList_some, Option.toList_none, List.cons_append, List.nil_append, and_self, not_false_eq_true, not_true_eq_false, forall_const, imp_self, true_implies, false_implies, i10, i01]
  refine ⟨fun e => rej (by simp [e]), fun e => ⟨fun e2 => rej (by
    rw [nI_2] at e2
    have := (nI_leI (by omega) (by omega)).mp e2
    simp [show s.1 2 = 2 by omega]), fun e2 => ⟨fun e3 => rej (by simp [e3]), fun e3 => ⟨fun e4 => rej (by simp [e4]), fun e4 => ⟨fun e5 => ?_, fun e5 => rej (by simp [Classical.not_not.mp e5])⟩⟩⟩⟩⟩
  refine ⟨fun e6 => hrej (sp_rej (by rw [zb e6]; rfl)), fun e6 => ⟨fun e7 => hrej (sp_rej (by rw [zb e7, Bool.and_false]; rfl)), fun e7 => ?_⟩⟩
  have main : (c = -1 ∨ (se_ex s c && s.2 2 c.toNatClampNeg == 0) = true) → mx_G (fun r h c n => P r h ∧ c ≤ 5 ∧ n ≤ 134) (t_Hs_sporadic zz) 70 [(0, .ref (ad 0 0)), (1, .int a), (2, .int b), (3, .int c)] [.ref (ad 1 2)] h 0 0 := by
    intro e8
    have e0 : s.2 0 0 = 0 := Classical.not_not.mp e
    have hn2 : s.1 2 < 2 := by
      rw [nI_2] at e2
      have := (not_congr (nI_leI (a := 2) (b := s.1 2) (by omega) (by omega))).mp e2
      omega
    have e6 := nb e6
    have e7 := nb e7
    have hc : c = -1 ∨ ∃ c0, c0 < s.1 0 ∧ c = nI c0 := e8.imp id (fun z => by
      simp only [Bool.and_eq_true] at z
      exact se_wi_nI z.1 (by omega))
    have es : se_sporadic s a b c = (nI (s.1 2), va_up s.1 2 (s.1 2 + 1), r3 s.2 13 (s.1 2) a b c) := by
      simp only [Bool.and_eq_true, beq_iff_eq] at e6 e7
      unfold se_sporadic
      rw [if_neg, if_neg]
      · rfl
      · rcases e8 with e8 | e8
        · simp [e6.2, e7.2, e8]
        · simp only [Bool.and_eq_true, beq_iff_eq] at e8
          simp [e6.2, e7.2, e8.2]
      · have e5' : ¬ b = c := e5
        rcases e8 with e8 | e8
        · simp [e0, e6.1, e7.1, show s.1 2 ≠ 2 by omega, e3, e4, e5', e8]
          exact ⟨by rw [← e8]; exact e4, by rw [← e8]; exact e5'⟩
        · simp only [Bool.and_eq_true, beq_iff_eq] at e8
          simp [e0, e6.1, e7.1, e8.1, show s.1 2 ≠ 2 by omega, e3, e4, e5']
    simp only [Bool.and_eq_true] at e6 e7
    obtain ⟨a0, ha0, rfl⟩ := se_wi_nI e6.1 (by omega)
    obtain ⟨b0, hb0, rfl⟩ := se_wi_nI e7.1 (by omega)
    rw [st_Hs_sporadic_70]
    simp only [o_new, o_al]
    refine ⟨trivial, by decide, by decide, fun q hq => ?_⟩
    have nq := hR.nq hq
    have hR1 := hR.fresh nq (some (.inr (3, [.null])))
    simp only [st_Hs_sporadic_0, st_Hs_sporadic_1, st_Hs_sporadic_4, st_Hs_sporadic_7, st_Hs_sporadic_8, st_Hs_sporadic_11, st_Hs_sporadic_14, st_Hs_sporadic_15, st_Hs_sporadic_18, st_Hs_sporadic_19, st_Hs_sporadic_20, st_Hs_sporadic_23, st_Hs_sporadic_24, st_Hs_sporadic_25, st_Hs_sporadic_28, st_Hs_sporadic_29, st_Hs_sporadic_30, st_Hs_sporadic_33, st_Hs_sporadic_34, st_Hs_sporadic_35, st_Hs_sporadic_36, st_Hs_sporadic_37, st_Hs_sporadic_40, st_Hs_sporadic_43, st_Hs_sporadic_44, st_Hs_sporadic_45, st_Hs_sporadic_48, st_Hs_sporadic_51, st_Hs_sporadic_52, st_Hs_sporadic_53, st_Hs_sporadic_56, st_Hs_sporadic_57, st_Hs_sporadic_58, st_Hs_sporadic_61, st_Hs_sporadic_64, st_Hs_sporadic_65, st_Hs_sporadic_66, st_Hs_sporadic_67, st_Hs_sporadic_70, st_Hs_sporadic_73, st_Hs_sporadic_74, st_Hs_sporadic_75, st_Hs_sporadic_76, st_Hs_sporadic_77, st_Hs_sporadic_81, st_Hs_sporadic_84, st_Hs_sporadic_87, st_Hs_sporadic_88, st_Hs_sporadic_89, st_Hs_sporadic_92, st_Hs_sporadic_95, st_Hs_sporadic_96, st_Hs_sporadic_97, o_push, o_iload, o_lload, o_aload, o_istore, o_lstore, o_astore, o_iinc, o_iincW, o_ii, o_iiz, o_i1, o_l1, o_ll, o_li, o_dup, o_pop, o_dupx1, o_dup2, o_goto, o_if, o_icmp, o_acmp, o_ifnull, o_ifnonnull, o_get, o_put, o_iald, o_iast, o_aald, o_aast, o_alen, o_alenZ, o_cast, o_objinit, o_new, o_newi, o_newq, o_newqZ, o_alZ, o_getC, o_iret, o_zret, o_lret, o_aret, o_vret, o_mm, o_st, o_sc, o_br, o_sw, o_ret, o_al, o_call, mx_sw, mx_pop, mx_lk, mx_s1, mx_s2, mx_cat, mx_rr, mx_rv, mx_z01_0, mx_z01_1, mx_vI, mx_vJ, mx_vA, va_rf, List.filter_cons, List.filter_nil, Value.category, List.map_cons, List.map_nil, List.sum_cons, List.sum_nil, reduceCtorEq, ↓reduceIte, if_true, if_false, decide_true, decide_false, Bool.not_true, Bool.not_false, Bool.and_true, Bool.true_and, Bool.and_false, Bool.false_and, beq_self_eq_true, Nat.reduceAdd, Nat.reduceBEq, Nat.reduceEqDiff, Nat.reduceLeDiff, Nat.add_zero, Nat.zero_add, Nat.le_refl, Nat.zero_le, true_and, and_true, Option.toList_some, Option.toList_none, List.cons_append, List.nil_append, and_self, not_false_eq_true, not_true_eq_false, forall_const, imp_self, true_implies, false_implies, i10, i01]
    rw [st_Hs_sporadic_78]
    simp only [o_call, mx_pop]
    refine ⟨by first | exact trivial | exact hR1.cl (k := 0) (i := 0) rfl rfl, Nat.le_of_ble_eq_true rfl, by decide, by decide, ?_⟩
    refine q_rowOf hR1 ha0 hb0 c hc _ (fun h2 q2 hq2 o2 c2 => ?_)
    have hqq : q ≠ q2 := fun z => by
      rw [← z, va_up_self] at hq2
      cases hq2
    have hq2' : h q2 = none := by
      rw [va_up_ne _ _ (Ne.symm hqq)] at hq2
      exact hq2
    have c2 := c2 (r3 s.2 13 (s.1 2) (nI a0) (nI b0) c 13) (s.1 2) (r3_0 ..) (r3_1 ..) (r3_2 ..)
    have hR2 := hR1.off (hR.nq hq2') o2
    have cq : h2 q = some (.inr (3, [.null])) := by
      rw [o2 q hqq, va_up_self]
    simp only [st_Hs_sporadic_0, st_Hs_sporadic_1, st_Hs_sporadic_4, st_Hs_sporadic_7, st_Hs_sporadic_8, st_Hs_sporadic_11, st_Hs_sporadic_14, st_Hs_sporadic_15, st_Hs_sporadic_18, st_Hs_sporadic_19, st_Hs_sporadic_20, st_Hs_sporadic_23, st_Hs_sporadic_24, st_Hs_sporadic_25, st_Hs_sporadic_28, st_Hs_sporadic_29, st_Hs_sporadic_30, st_Hs_sporadic_33, st_Hs_sporadic_34, st_Hs_sporadic_35, st_Hs_sporadic_36, st_Hs_sporadic_37, st_Hs_sporadic_40, st_Hs_sporadic_43, st_Hs_sporadic_44, st_Hs_sporadic_45, st_Hs_sporadic_48, st_Hs_sporadic_51, st_Hs_sporadic_52, st_Hs_sporadic_53, st_Hs_sporadic_56, st_Hs_sporadic_57, st_Hs_sporadic_58, st_Hs_sporadic_61, st_Hs_sporadic_64, st_Hs_sporadic_65, st_Hs_sporadic_66, st_Hs_sporadic_67, st_Hs_sporadic_70, st_Hs_sporadic_73, st_Hs_sporadic_74, st_Hs_sporadic_75, st_Hs_sporadic_76, st_Hs_sporadic_77, st_Hs_sporadic_78, st_Hs_sporadic_84, st_Hs_sporadic_87, st_Hs_sporadic_88, st_Hs_sporadic_89, st_Hs_sporadic_92, st_Hs_sporadic_95, st_Hs_sporadic_96, st_Hs_sporadic_97, o_push, o_iload, o_lload, o_aload, o_istore, o_lstore, o_astore, o_iinc, o_iincW, o_ii, o_iiz, o_i1, o_l1, o_ll, o_li, o_dup, o_pop, o_dupx1, o_dup2, o_goto, o_if, o_icmp, o_acmp, o_ifnull, o_ifnonnull, o_get, o_put, o_iald, o_iast, o_aald, o_aast, o_alen, o_alenZ, o_cast, o_objinit, o_new, o_newi, o_newq, o_newqZ, o_alZ, o_getC, o_iret, o_zret, o_lret, o_aret, o_vret, o_mm, o_st, o_sc, o_br, o_sw, o_ret, o_al, o_call, mx_sw, mx_pop, mx_lk, mx_s1, mx_s2, mx_cat, mx_rr, mx_rv, mx_z01_0, mx_z01_1, mx_vI, mx_vJ, mx_vA, va_rf, List.filter_cons, List.filter_nil, Value.category, List.map_cons, List.map_nil, List.sum_cons, List.sum_nil, reduceCtorEq, ↓reduceIte, if_true, if_false, decide_true, decide_false, Bool.not_true, Bool.not_false, Bool.and_true, Bool.true_and, Bool.and_false, Bool.false_and, beq_self_eq_true, Nat.reduceAdd, Nat.reduceBEq, Nat.reduceEqDiff, Nat.reduceLeDiff, Nat.add_zero, Nat.zero_add, Nat.le_refl, Nat.zero_le, true_and, and_true, Option.toList_some, Option.toList_none, List.cons_append, List.nil_append, and_self, not_false_eq_true, not_true_eq_false, forall_const, imp_self, true_implies, false_implies, i10, i01]
    rw [st_Hs_sporadic_81]
    simp only [o_call, mx_pop]
    refine ⟨trivial, Nat.le_of_ble_eq_true rfl, by decide, by decide, ?_⟩
    refine q_Gr_init zz cq _ _ (fun h3 o3 c3 => ?_)
    have hR3 := hR2.off nq o3
    simp only [st_Hs_sporadic_0, st_Hs_sporadic_1, st_Hs_sporadic_4, st_Hs_sporadic_7, st_Hs_sporadic_8, st_Hs_sporadic_11, st_Hs_sporadic_14, st_Hs_sporadic_15, st_Hs_sporadic_18, st_Hs_sporadic_19, st_Hs_sporadic_20, st_Hs_sporadic_23, st_Hs_sporadic_24, st_Hs_sporadic_25, st_Hs_sporadic_28, st_Hs_sporadic_29, st_Hs_sporadic_30, st_Hs_sporadic_33, st_Hs_sporadic_34, st_Hs_sporadic_35, st_Hs_sporadic_36, st_Hs_sporadic_37, st_Hs_sporadic_40, st_Hs_sporadic_43, st_Hs_sporadic_44, st_Hs_sporadic_45, st_Hs_sporadic_48, st_Hs_sporadic_51, st_Hs_sporadic_52, st_Hs_sporadic_53, st_Hs_sporadic_56, st_Hs_sporadic_57, st_Hs_sporadic_58, st_Hs_sporadic_61, st_Hs_sporadic_64, st_Hs_sporadic_65, st_Hs_sporadic_66, st_Hs_sporadic_67, st_Hs_sporadic_70, st_Hs_sporadic_73, st_Hs_sporadic_74, st_Hs_sporadic_75, st_Hs_sporadic_76, st_Hs_sporadic_77, st_Hs_sporadic_78, st_Hs_sporadic_81, st_Hs_sporadic_87, st_Hs_sporadic_88, st_Hs_sporadic_89, st_Hs_sporadic_92, st_Hs_sporadic_95, st_Hs_sporadic_96, st_Hs_sporadic_97, o_push, o_iload, o_lload, o_aload, o_istore, o_lstore, o_astore, o_iinc, o_iincW, o_ii, o_iiz, o_i1, o_l1, o_ll, o_li, o_dup, o_pop, o_dupx1, o_dup2, o_goto, o_if, o_icmp, o_acmp, o_ifnull, o_ifnonnull, o_get, o_put, o_iald, o_iast, o_aald, o_aast, o_alen, o_alenZ, o_cast, o_objinit, o_new, o_newi, o_newq, o_newqZ, o_alZ, o_getC, o_iret, o_zret, o_lret, o_aret, o_vret, o_mm, o_st, o_sc, o_br, o_sw, o_ret, o_al, o_call, mx_sw, mx_pop, mx_lk, mx_s1, mx_s2, mx_cat, mx_rr, mx_rv, mx_z01_0, mx_z01_1, mx_vI, mx_vJ, mx_vA, va_rf, List.filter_cons, List.filter_nil, Value.category, List.map_cons, List.map_nil, List.sum_cons, List.sum_nil, reduceCtorEq, ↓reduceIte, if_true, if_false, decide_true, decide_false, Bool.not_true, Bool.not_false, Bool.and_true, Bool.true_and, Bool.and_false, Bool.false_and, beq_self_eq_true, Nat.reduceAdd, Nat.reduceBEq, Nat.reduceEqDiff, Nat.reduceLeDiff, Nat.add_zero, Nat.zero_add, Nat.le_refl, Nat.zero_le, true_and, and_true, Option.toList_some, Option.toList_none, List.cons_append, List.nil_append, and_self, not_false_eq_true, not_true_eq_false, forall_const, imp_self, true_implies, false_implies, i10, i01]
    rw [st_Hs_sporadic_84]
    simp only [o_call, mx_pop]
    refine ⟨hR3.cl (k := 1) (i := 2) (show 2 < 7 by decide) rfl, Nat.le_of_ble_eq_true rfl, by decide, by decide, ?_⟩
    refine X_add hR3 hR3 (i := 2) (by decide) (by omega) nq c3 (by decide) _ (fun h4 bb L hb hz hL hL2 hoff ha hb' => ?_)
    have eh1 : h3 = va_up (va_up h q2 (some (qa "HeaderSchedule$Frame" (xn (r3 s.2 13 (s.1 2) (nI a0) (nI b0) c 13) (s.1 2)) (xr ad (r3 s.2 13 (s.1 2) (nI a0) (nI b0) c 13) (s.1 2))))) q (some (.inr (3, [.ref q2]))) := by
      funext y
      by_cases hy : y = q
      · rw [hy, va_up_self, c3]
      · rw [va_up_ne _ _ hy, o3 y hy]
        by_cases hy2 : y = q2
        · rw [hy2, va_up_self, c2]
        · rw [va_up_ne _ _ hy2, o2 y hy2, va_up_ne _ _ hy]
    have hR4 := hR.group hq hq2' hqq eh1 hb hz hL hL2 hoff ha hb'
    have a00 : up2 (up2 (up2 ad 9 (s.1 2) q2) 8 (s.1 2) q) 2 2 bb 0 0 = ad 0 0 := by
      rw [up2_ne _ _ (fun w => by omega), up2_ne _ _ (fun w => by omega), up2_ne _ _ (fun w => by omega)]
    rw [← a00]
    generalize up2 (up2 (up2 ad 9 (s.1 2) q2) 8 (s.1 2) q) 2 2 bb = ad' at hR4 a00
    have c5 : va_up s.1 2 (s.1 2 + 1) 2 = s.1 2 + 1 := va_up_self _ _ _
    simp only [st_Hs_sporadic_0, st_Hs_sporadic_1, st_Hs_sporadic_4, st_Hs_sporadic_7, st_Hs_sporadic_8, st_Hs_sporadic_11, st_Hs_sporadic_14, st_Hs_sporadic_15, st_Hs_sporadic_18, st_Hs_sporadic_19, st_Hs_sporadic_20, st_Hs_sporadic_23, st_Hs_sporadic_24, st_Hs_sporadic_25, st_Hs_sporadic_28, st_Hs_sporadic_29, st_Hs_sporadic_30, st_Hs_sporadic_33, st_Hs_sporadic_34, st_Hs_sporadic_35, st_Hs_sporadic_36, st_Hs_sporadic_37, st_Hs_sporadic_40, st_Hs_sporadic_43, st_Hs_sporadic_44, st_Hs_sporadic_45, st_Hs_sporadic_48, st_Hs_sporadic_51, st_Hs_sporadic_52, st_Hs_sporadic_53, st_Hs_sporadic_56, st_Hs_sporadic_57, st_Hs_sporadic_58, st_Hs_sporadic_61, st_Hs_sporadic_64, st_Hs_sporadic_65, st_Hs_sporadic_66, st_Hs_sporadic_67, st_Hs_sporadic_70, st_Hs_sporadic_73, st_Hs_sporadic_74, st_Hs_sporadic_75, st_Hs_sporadic_76, st_Hs_sporadic_77, st_Hs_sporadic_78, st_Hs_sporadic_81, st_Hs_sporadic_84, st_Hs_sporadic_87, st_Hs_sporadic_88, st_Hs_sporadic_89, st_Hs_sporadic_92, st_Hs_sporadic_95, st_Hs_sporadic_96, st_Hs_sporadic_97, hR4.fd (k := 0) (i := 0) rfl rfl 0 rfl, hR4.fd (k := 0) (i := 0) rfl rfl 1 rfl, hR4.fd (k := 0) (i := 0) rfl rfl 2 rfl, hR4.fd (k := 0) (i := 0) rfl rfl 3 rfl, hR4.fd (k := 0) (i := 0) rfl rfl 4 rfl, hR4.fd (k := 0) (i := 0) rfl rfl 5 rfl, hR4.fd (k := 0) (i := 0) rfl rfl 6 rfl, hR4.fd (k := 0) (i := 0) rfl rfl 7 rfl, hR4.fd (k := 0) (i := 0) rfl rfl 8 rfl, hR4.fd (k := 0) (i := 0) rfl rfl 9 rfl, hR4.fd (k := 0) (i := 0) rfl rfl 10 rfl, hR4.size 0 (by decide), hR4.size 1 (by decide), hR4.size 2 (by decide), hR4.size 3 (by decide), hR4.size 4 (by decide), hR4.size 5 (by decide), hR4.size 6 (by decide), hR4.ir (k := 3) (i := 0) (show 0 < 3 by decide) rfl, hR4.ir (k := 3) (i := 1) (show 1 < 3 by decide) rfl, hR4.ir (k := 3) (i := 2) (show 2 < 3 by decide) rfl, hR4.il (k := 3) (i := 2) (show 2 < 3 by decide) rfl, hR4.fd (k := 4) (i := 0) (show 0 < 3 by decide) rfl 0 rfl, hR4.fd (k := 4) (i := 0) (show 0 < 3 by decide) rfl 1 rfl, hR4.fd (k := 4) (i := 0) (show 0 < 3 by decide) rfl 2 rfl, hR4.fd (k := 4) (i := 0) (show 0 < 3 by decide) rfl 3 rfl, hR4.fd (k := 4) (i := 0) (show 0 < 3 by decide) rfl 4 rfl, hR4.fd (k := 4) (i := 0) (show 0 < 3 by decide) rfl 5 rfl, hR4.fd (k := 4) (i := 0) (show 0 < 3 by decide) rfl 6 rfl, hR4.fd (k := 4) (i := 0) (show 0 < 3 by decide) rfl 7 rfl, hR4.fd (k := 4) (i := 1) (show 1 < 3 by decide) rfl 0 rfl, hR4.fd (k := 4) (i := 1) (show 1 < 3 by decide) rfl 1 rfl, hR4.fd (k := 4) (i := 1) (show 1 < 3 by decide) rfl 2 rfl, hR4.fd (k := 4) (i := 1) (show 1 < 3 by decide) rfl 3 rfl, hR4.cl (k := 0) (i := 0) rfl rfl, hR4.cl (k := 4) (i := 0) (show 0 < 3 by decide) rfl, hR4.cl (k := 4) (i := 1) (show 1 < 3 by decide) rfl, hR4.cl (k := 1) (i := 0) (show 0 < 7 by decide) rfl, hR4.cl (k := 1) (i := 1) (show 1 < 7 by decide) rfl, hR4.cl (k := 1) (i := 2) (show 2 < 7 by decide) rfl, hR4.cl (k := 1) (i := 3) (show 3 < 7 by decide) rfl, hR4.cl (k := 1) (i := 4) (show 4 < 7 by decide) rfl, hR4.cl (k := 1) (i := 5) (show 5 < 7 by decide) rfl, hR4.cl (k := 1) (i := 6) (show 6 < 7 by decide) rfl, hR4.qr (k := 4) (i := 2) (show 2 < 3 by decide) rfl, c5, nI_ps, o_push, o_iload, o_lload, o_aload, o_istore, o_lstore, o_astore, o_iinc, o_iincW, o_ii, o_iiz, o_i1, o_l1, o_ll, o_li, o_dup, o_pop, o_dupx1, o_dup2, o_goto, o_if, o_icmp, o_acmp, o_ifnull, o_ifnonnull, o_get, o_put, o_iald, o_iast, o_aald, o_aast, o_alen, o_alenZ, o_cast, o_objinit, o_new, o_newi, o_newq, o_newqZ, o_alZ, o_getC, o_iret, o_zret, o_lret, o_aret, o_vret, o_mm, o_st, o_sc, o_br, o_sw, o_ret, o_al, o_call, mx_sw, mx_pop, mx_lk, mx_s1, mx_s2, mx_cat, mx_rr, mx_rv, mx_z01_0, mx_z01_1, mx_vI, mx_vJ, mx_vA, va_rf, List.filter_cons, List.filter_nil, Value.category, List.map_cons, List.map_nil, List.sum_cons, List.sum_nil, reduceCtorEq, ↓reduceIte, if_true, if_false, decide_true, decide_false, Bool.not_true, Bool.not_false, Bool.and_true, Bool.true_and, Bool.and_false, Bool.false_and, beq_self_eq_true, Nat.reduceAdd, Nat.reduceBEq, Nat.reduceEqDiff, Nat.reduceLeDiff, Nat.add_zero, Nat.zero_add, Nat.le_refl, Nat.zero_le, true_and, and_true, Option.toList_some, Option.toList_none, List.cons_append, List.nil_append, and_self, not_false_eq_true, not_true_eq_false, forall_const, imp_self, true_implies, false_implies, i10, i01]
    exact hacc h4 ad' L a0 b0 a00 ha0 hb0 rfl rfl hc hn2 e0 es (by rw [es]; exact hR4)
  refine ⟨fun e8 => main (Or.inl e8), fun e8 => ⟨fun e9 => main (Or.inr (nb e9)), fun e9 => hrej (sp_rej (by
    rw [zb (Classical.not_not.mp e9)]
    simp [e8]))⟩⟩
