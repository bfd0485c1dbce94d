theorem q_isLike {zz : Nat × Nat} {h : mx_H} {ad : Nat → Nat → Nat} {s : se_S} {x : xX} (hR : RX zz h ad s x) {i j : Nat} (hi : i < s.1 0) (hj : j < s.1 0) (P : Option Value → mx_H → Prop) : S_Fr_isLike zz [.ref (ad 6 i), .ref (ad 6 j)] h P = P (some (.int (se_b (se_fit s (nI j) (nI i))))) h := by
  have h8 : s.1 0 ≤ 24 := Nat.le_trans (hR.2 0 (by decide)).1 (hR.2 0 (by decide)).2.1
  have ci : (nI i).toNatClampNeg = i := nI_clamp (by omega)
  have cj : (nI j).toNatClampNeg = j := nI_clamp (by omega)
  rw [S_Fr_isLike, mx_S_eq (Nat.le_of_ble_eq_true rfl)]
  simp only [st_Fr_isLike_0, st_Fr_isLike_1, st_Fr_isLike_4, st_Fr_isLike_5, st_Fr_isLike_8, st_Fr_isLike_11, st_Fr_isLike_12, st_Fr_isLike_15, st_Fr_isLike_16, st_Fr_isLike_19, st_Fr_isLike_22, st_Fr_isLike_23, st_Fr_isLike_26, st_Fr_isLike_27, st_Fr_isLike_30, st_Fr_isLike_33, st_Fr_isLike_34, st_Fr_isLike_37, st_Fr_isLike_38, lv_args, (hR.fd (k := 6) (i := i) hi rfl 2 rfl), (hR.fd (k := 6) (i := i) hi rfl 3 rfl), (hR.fd (k := 6) (i := i) hi rfl 4 rfl), (hR.fd (k := 6) (i := j) hj rfl 2 rfl), (hR.fd (k := 6) (i := j) hj rfl 3 rfl), (hR.fd (k := 6) (i := j) hj rfl 4 rfl), o_push, o_iload, o_lload, o_aload, o_istore, o_lstore, o_astore, o_iinc, o_iincW, o_ii, o_iiz, o_i1, o_l1, o_ll, o_li, o_dup, o_pop, o_dupx1, o_dup2, o_goto, o_if, o_icmp, o_acmp, o_ifnull, o_ifnonnull, o_get, o_put, o_iald, o_iast, o_aald, o_aast, o_alen, o_alenZ, o_cast, o_objinit, o_new, o_newi, o_newq, o_newqZ, o_alZ, o_getC, o_iret, o_zret, o_lret, o_aret, o_vret, o_mm, o_st, o_sc, o_br, o_sw, o_ret, o_al, o_call, mx_sw, mx_pop, mx_lk, mx_s1, mx_s2, mx_cat, mx_rr, mx_rv, mx_z01_0, mx_z01_1, mx_vI, mx_vJ, mx_vA, va_rf, List.filter_cons, List.filter_nil, Value.category, List.map_cons, List.map_nil, List.sum_cons, List.sum_nil, reduceCtorEq, ↓reduceIte, if_true, if_false, decide_true, decide_false, Bool.not_true, Bool.not_false, Bool.and_true, Bool.true_and, Bool.and_false, Bool.false_and, beq_self_eq_true, Nat.reduceAdd, Nat.reduceBEq, Nat.reduceEqDiff, Nat.reduceLeDiff, Nat.add_zero, Nat.zero_add, Nat.le_refl, Nat.zero_le, true_and, and_true, Option.toList_some, Option.toList_none, List.cons_append, List.nil_append, and_self, not_false_eq_true, not_true_eq_false, forall_const, imp_self, true_implies, false_implies, i10, i01]
  unfold se_fit
  rw [ci, cj]
  by_cases e1 : s.2 2 i = s.2 2 j
  · simp [e1, se_b]
  · by_cases e2 : s.2 3 i = s.2 3 j
    · by_cases e3 : s.2 4 i = s.2 4 j
      · simp [e1, e2, e3, se_b, Ne.symm e1]
      · simp [e1, e2, e3, se_b, Ne.symm e1, Ne.symm e3]
    · simp [e1, e2, se_b, Ne.symm e1, Ne.symm e2]
theorem tk_255 {s : se_S} {x : xX} {f : Nat} (htk : ∀ c, c < 64 → lb (x.2.1 1 f) c = (decide (0 < s.2 6 f ∧ c < 8) || se_bt s (nI f) (nI c))) : x.2.1 1 f &&& 255 = 0 ↔ (¬ 0 < s.2 6 f ∧ se_any (fun b => se_bt s (nI f) (nI b)) 8 = false) := by
  have k255 : ∀ c : Fin 64, lb 255 c.1 = decide (c.1 < 8) := by decide +kernel
  constructor
  · intro e
    have key : ∀ c, c < 8 → (decide (0 < s.2 6 f ∧ c < 8) || se_bt s (nI f) (nI c)) = false := fun c hc => by
      have h2 : lb (x.2.1 1 f &&& 255) c = false := by rw [e, lb_0]
      rw [lb_and, k255 ⟨c, by omega⟩, htk c (by omega)] at h2
      simpa [hc] using h2
    refine ⟨fun z => ?_, ?_⟩
    · have := key 0 (by omega)
      simp [z] at this
    · cases ea : se_any (fun b => se_bt s (nI f) (nI b)) 8 with
      | false => rfl
      | true =>
        obtain ⟨j, hj, hb⟩ := (se_any_iff _ _).mp ea
        have := key j hj
        simp [hb] at this
  · intro ⟨e1, e2⟩
    refine lb_ext (fun c hc => ?_)
    rw [lb_and, k255 ⟨c, hc⟩, htk c hc, lb_0]
    by_cases h2 : c < 8
    · have h3 : se_bt s (nI f) (nI c) = false := by
        cases eb : se_bt s (nI f) (nI c) with
        | false => rfl
        | true =>
          have : se_any (fun b => se_bt s (nI f) (nI b)) 8 = true := (se_any_iff _ _).mpr ⟨c, h2, eb⟩
          rw [e2] at this
          cases this
      simp [h3, e1]
    · simp [h2]
theorem q_isAssoc {zz : Nat × Nat} {h : mx_H} {ad : Nat → Nat → Nat} {s : se_S} {x : xX} (hR : RX zz h ad s x) (htk : ∀ f, f < s.1 0 → ∀ c, c < 64 → lb (x.2.1 1 f) c = (decide (0 < s.2 6 f ∧ c < 8) || se_bt s (nI f) (nI c))) (h6 : ∀ f, f < s.1 0 → ¬ 0 < s.2 6 f → s.2 6 f = 0) (a : Int32) (P : Option Value → mx_H → Prop) : S_Hs_isAssociable zz [.ref (ad 0 0), .int a] h P = P (some (.int (se_b (se_free s a)))) h := by
  have h8 : s.1 0 ≤ 24 := Nat.le_trans (hR.2 0 (by decide)).1 (hR.2 0 (by decide)).2.1
  rw [S_Hs_isAssociable, mx_S_eq (Nat.le_of_ble_eq_true rfl)]
  unfold se_free se_ex
  cases e : se_wi a 0 (nI (s.1 0) - 1) with
  | false => simp only [st_Hs_isAssociable_0, st_Hs_isAssociable_1, st_Hs_isAssociable_2, st_Hs_isAssociable_5, st_Hs_isAssociable_6, st_Hs_isAssociable_7, st_Hs_isAssociable_10, st_Hs_isAssociable_11, st_Hs_isAssociable_14, st_Hs_isAssociable_17, st_Hs_isAssociable_18, st_Hs_isAssociable_21, st_Hs_isAssociable_24, st_Hs_isAssociable_25, st_Hs_isAssociable_26, st_Hs_isAssociable_27, st_Hs_isAssociable_30, st_Hs_isAssociable_31, st_Hs_isAssociable_34, st_Hs_isAssociable_35, lv_args, hR.fd (k := 0) (i := 0) rfl rfl 0 rfl, hR.fd (k := 0) (i := 0) rfl rfl 1 rfl, hR.fd (k := 0) (i := 0) rfl rfl 2 rfl, hR.fd (k := 0) (i := 0) rfl rfl 3 rfl, hR.fd (k := 0) (i := 0) rfl rfl 4 rfl, hR.fd (k := 0) (i := 0) rfl rfl 5 rfl, hR.fd (k := 0) (i := 0) rfl rfl 6 rfl, hR.fd (k := 0) (i := 0) rfl rfl 7 rfl, hR.fd (k := 0) (i := 0) rfl rfl 8 rfl, hR.fd (k := 0) (i := 0) rfl rfl 9 rfl, hR.fd (k := 0) (i := 0) rfl rfl 10 rfl, hR.size 0 (by decide), hR.size 1 (by decide), hR.size 2 (by decide), hR.size 3 (by decide), hR.size 4 (by decide), hR.size 5 (by decide), hR.size 6 (by decide), hR.ir (k := 3) (i := 0) (show 0 < 3 by decide) rfl, hR.ir (k := 3) (i := 1) (show 1 < 3 by decide) rfl, hR.ir (k := 3) (i := 2) (show 2 < 3 by decide) rfl, hR.il (k := 3) (i := 2) (show 2 < 3 by decide) rfl, hR.fd (k := 4) (i := 0) (show 0 < 3 by decide) rfl 0 rfl, hR.fd (k := 4) (i := 0) (show 0 < 3 by decide) rfl 1 rfl, hR.fd (k := 4) (i := 0) (show 0 < 3 by decide) rfl 2 rfl, hR.fd (k := 4) (i := 0) (show 0 < 3 by decide) rfl 3 rfl, hR.fd (k := 4) (i := 0) (show 0 < 3 by decide) rfl 4 rfl, hR.fd (k := 4) (i := 0) (show 0 < 3 by decide) rfl 5 rfl, hR.fd (k := 4) (i := 0) (show 0 < 3 by decide) rfl 6 rfl, hR.fd (k := 4) (i := 0) (show 0 < 3 by decide) rfl 7 rfl, hR.fd (k := 4) (i := 1) (show 1 < 3 by decide) rfl 0 rfl, hR.fd (k := 4) (i := 1) (show 1 < 3 by decide) rfl 1 rfl, hR.fd (k := 4) (i := 1) (show 1 < 3 by decide) rfl 2 rfl, hR.fd (k := 4) (i := 1) (show 1 < 3 by decide) rfl 3 rfl, hR.cl (k := 0) (i := 0) rfl rfl, hR.cl (k := 4) (i := 0) (show 0 < 3 by decide) rfl, hR.cl (k := 4) (i := 1) (show 1 < 3 by decide) rfl, hR.cl (k := 1) (i := 0) (show 0 < 7 by decide) rfl, hR.cl (k := 1) (i := 1) (show 1 < 7 by decide) rfl, hR.cl (k := 1) (i := 2) (show 2 < 7 by decide) rfl, hR.cl (k := 1) (i := 3) (show 3 < 7 by decide) rfl, hR.cl (k := 1) (i := 4) (show 4 < 7 by decide) rfl, hR.cl (k := 1) (i := 5) (show 5 < 7 by decide) rfl, hR.cl (k := 1) (i := 6) (show 6 < 7 by decide) rfl, hR.qr (k := 4) (i := 2) (show 2 < 3 by decide) rfl, (q_frameAt_f hR e), se_b_f, o_push, o_iload, o_lload, o_aload, o_istore, o_lstore, o_astore, o_iinc, o_iincW, o_ii, o_iiz, o_i1, o_l1, o_ll, o_li, o_dup, o_pop, o_dupx1, o_dup2, o_goto, o_if, o_icmp, o_acmp, o_ifnull, o_ifnonnull, o_get, o_put, o_iald, o_iast, o_aald, o_aast, o_alen, o_alenZ, o_cast, o_objinit, o_new, o_newi, o_newq, o_newqZ, o_alZ, o_getC, o_iret, o_zret, o_lret, o_aret, o_vret, o_mm, o_st, o_sc, o_br, o_sw, o_ret, o_al, o_call, mx_sw, mx_pop, mx_lk, mx_s1, mx_s2, mx_cat, mx_rr, mx_rv, mx_z01_0, mx_z01_1, mx_vI, mx_vJ, mx_vA, va_rf, List.filter_cons, List.filter_nil, Value.category, List.map_cons, List.map_nil, List.sum_cons, List.sum_nil, reduceCtorEq, ↓reduceIte, if_true, if_false, decide_true, decide_false, Bool.not_true, Bool.not_false, Bool.and_true, Bool.true_and, Bool.and_false, Bool.false_and, beq_self_eq_true, Nat.reduceAdd, Nat.reduceBEq, Nat.reduceEqDiff, Nat.reduceLeDiff, Nat.add_zero, Nat.zero_add, Nat.le_refl, Nat.zero_le, true_and, and_true, Option.toList_some, Option.toList_none, List.cons_append, List.nil_append, and_self, not_false_eq_true, not_true_eq_false, forall_const, imp_self, true_implies, false_implies, i10, i01]
  | true =>
    obtain ⟨j, hj, rfl⟩ := se_wi_nI e (by omega)
    have hcj : (nI j).toNatClampNeg = j := nI_clamp (by omega)
    have ht := tk_255 (htk j hj)
    simp only [st_Hs_isAssociable_0, st_Hs_isAssociable_1, st_Hs_isAssociable_2, st_Hs_isAssociable_5, st_Hs_isAssociable_6, st_Hs_isAssociable_7, st_Hs_isAssociable_10, st_Hs_isAssociable_11, st_Hs_isAssociable_14, st_Hs_isAssociable_17, st_Hs_isAssociable_18, st_Hs_isAssociable_21, st_Hs_isAssociable_24, st_Hs_isAssociable_25, st_Hs_isAssociable_26, st_Hs_isAssociable_27, st_Hs_isAssociable_30, st_Hs_isAssociable_31, st_Hs_isAssociable_34, st_Hs_isAssociable_35, lv_args, hR.fd (k := 0) (i := 0) rfl rfl 0 rfl, hR.fd (k := 0) (i := 0) rfl rfl 1 rfl, hR.fd (k := 0) (i := 0) rfl rfl 2 rfl, hR.fd (k := 0) (i := 0) rfl rfl 3 rfl, hR.fd (k := 0) (i := 0) rfl rfl 4 rfl, hR.fd (k := 0) (i := 0) rfl rfl 5 rfl, hR.fd (k := 0) (i := 0) rfl rfl 6 rfl, hR.fd (k := 0) (i := 0) rfl rfl 7 rfl, hR.fd (k := 0) (i := 0) rfl rfl 8 rfl, hR.fd (k := 0) (i := 0) rfl rfl 9 rfl, hR.fd (k := 0) (i := 0) rfl rfl 10 rfl, hR.size 0 (by decide), hR.size 1 (by decide), hR.size 2 (by decide), hR.size 3 (by decide), hR.size 4 (by decide), hR.size 5 (by decide), hR.size 6 (by decide), hR.ir (k := 3) (i := 0) (show 0 < 3 by decide) rfl, hR.ir (k := 3) (i := 1) (show 1 < 3 by decide) rfl, hR.ir (k := 3) (i := 2) (show 2 < 3 by decide) rfl, hR.il (k := 3) (i := 2) (show 2 < 3 by decide) rfl, hR.fd (k := 4) (i := 0) (show 0 < 3 by decide) rfl 0 rfl, hR.fd (k := 4) (i := 0) (show 0 < 3 by decide) rfl 1 rfl, hR.fd (k := 4) (i := 0) (show 0 < 3 by decide) rfl 2 rfl, hR.fd (k := 4) (i := 0) (show 0 < 3 by decide) rfl 3 rfl, hR.fd (k := 4) (i := 0) (show 0 < 3 by decide) rfl 4 rfl, hR.fd (k := 4) (i := 0) (show 0 < 3 by decide) rfl 5 rfl, hR.fd (k := 4) (i := 0) (show 0 < 3 by decide) rfl 6 rfl, hR.fd (k := 4) (i := 0) (show 0 < 3 by decide) rfl 7 rfl, hR.fd (k := 4) (i := 1) (show 1 < 3 by decide) rfl 0 rfl, hR.fd (k := 4) (i := 1) (show 1 < 3 by decide) rfl 1 rfl, hR.fd (k := 4) (i := 1) (show 1 < 3 by decide) rfl 2 rfl, hR.fd (k := 4) (i := 1) (show 1 < 3 by decide) rfl 3 rfl, hR.cl (k := 0) (i := 0) rfl rfl, hR.cl (k := 4) (i := 0) (show 0 < 3 by decide) rfl, hR.cl (k := 4) (i := 1) (show 1 < 3 by decide) rfl, hR.cl (k := 1) (i := 0) (show 0 < 7 by decide) rfl, hR.cl (k := 1) (i := 1) (show 1 < 7 by decide) rfl, hR.cl (k := 1) (i := 2) (show 2 < 7 by decide) rfl, hR.cl (k := 1) (i := 3) (show 3 < 7 by decide) rfl, hR.cl (k := 1) (i := 4) (show 4 < 7 by decide) rfl, hR.cl (k := 1) (i := 5) (show 5 < 7 by decide) rfl, hR.cl (k := 1) (i := 6) (show 6 < 7 by decide) rfl, hR.qr (k := 4) (i := 2) (show 2 < 3 by decide) rfl, (q_frameAt_t hR hj), (hR.fd (k := 6) (i := j) hj rfl 2 rfl), (hR.fd (k := 6) (i := j) hj rfl 6 rfl), hcj, lg_cmp_eq, ht, o_push, o_iload, o_lload, o_aload, o_istore, o_lstore, o_astore, o_iinc, o_iincW, o_ii, o_iiz, o_i1, o_l1, o_ll, o_li, o_dup, o_pop, o_dupx1, o_dup2, o_goto, o_if, o_icmp, o_acmp, o_ifnull, o_ifnonnull, o_get, o_put, o_iald, o_iast, o_aald, o_aast, o_alen, o_alenZ, o_cast, o_objinit, o_new, o_newi, o_newq, o_newqZ, o_alZ, o_getC, o_iret, o_zret, o_lret, o_aret, o_vret, o_mm, o_st, o_sc, o_br, o_sw, o_ret, o_al, o_call, mx_sw, mx_pop, mx_lk, mx_s1, mx_s2, mx_cat, mx_rr, mx_rv, mx_z01_0, mx_z01_1, mx_vI, mx_vJ, mx_vA, va_rf, List.filter_cons, List.filter_nil, Value.category, List.map_cons, List.map_nil, List.sum_cons, List.sum_nil, reduceCtorEq, ↓reduceIte, if_true, if_false, decide_true, decide_false, Bool.not_true, Bool.not_false, Bool.and_true, Bool.true_and, Bool.and_false, Bool.false_and, beq_self_eq_true, Nat.reduceAdd, Nat.reduceBEq, Nat.reduceEqDiff, Nat.reduceLeDiff, Nat.add_zero, Nat.zero_add, Nat.le_refl, Nat.zero_le, true_and, and_true, Option.toList_some, Option.toList_none, List.cons_append, List.nil_append, and_self, not_false_eq_true, not_true_eq_false, forall_const, imp_self, true_implies, false_implies, i10, i01]
    by_cases h2 : s.2 2 j = 0
    · simp [h2, se_b]
    · by_cases h3 : 0 < s.2 6 j
      · have : ¬ s.2 6 j = 0 := fun z => by
          rw [z] at h3
          exact absurd h3 (by decide)
        simp [h2, h3, this, se_b]
      · have := h6 j hj h3
        cases ea : se_any (fun b => se_bt s (nI j) (nI b)) 8 <;> simp [h2, h3, this, se_b]
