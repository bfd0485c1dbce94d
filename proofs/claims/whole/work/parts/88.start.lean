theorem RX.ent {zz : Nat × Nat} {h : mx_H} {ad : Nat → Nat → Nat} {s : se_S} {x : xX} (r : RX zz h ad s x) {t j : Nat} (ht : t < 3) (hj : j < s.1 (4 + t)) (P : Option Value → mx_H → Prop) : S_Al_get zz [.ref (ad 1 (4 + t)), .int (nI j)] h P = P (some (.ref (ad 12 (8 * t + j)))) h := by
  rw [r.get (4 + t) j (by omega) hj]
  have e1 : xk (4 + t) = 12 := by unfold xk; rw [if_neg (by omega), if_neg (by omega), if_neg (by omega), if_neg (by omega)]
  have e2 : xb (4 + t) + j = 8 * t + j := by unfold xb; omega
  rw [e1, e2]
theorem q_hasFrame {zz : Nat × Nat} {h : mx_H} {ad : Nat → Nat → Nat} {s : se_S} {x : xX} (hR : RX zz h ad s x) {t : Nat} (ht : t < 3) (h8 : s.1 (4 + t) ≤ 8) (m : Int32) (P : Option Value → mx_H → Prop) (hP : P (some (.int (se_b (se_any (fun j => s.2 17 (8 * t + j) == 0 && s.2 18 (8 * t + j) == m) (s.1 (4 + t)))))) h) : S_Tb_hasFrame zz [.ref (ad 5 t), .int m] h P := by
  have ef : mx_fld h (ad 5 t) 6 0 = some (.ref (ad 1 (4 + t))) := hR.fd (k := 5) (i := t) ht rfl 0 rfl
  have cl : mx_cls h (ad 1 (4 + t)) = some 9 := hR.cl (k := 1) (i := 4 + t) (show 4 + t < 7 by omega) rfl
  have sz := hR.size (4 + t) (by omega)
  rw [S_Tb_hasFrame, mx_S_eq (Nat.le_of_ble_eq_true rfl)]
  have L : ∀ d j, j + d = s.1 (4 + t) → se_any (fun j => s.2 17 (8 * t + j) == 0 && s.2 18 (8 * t + j) == m) j = false → mx_G (fun r h c n => P r h ∧ c ≤ 0 ∧ n ≤ 0) (t_Tb_hasFrame zz) 2 [(2, .int (nI j)), (0, .ref (ad 5 t)), (1, .int m)] [] h 0 0 := by
    intro d
    induction d with
    | zero =>
      intro j hj hf
      have hj : j = s.1 (4 + t) := by omega
      subst hj
      rw [hf] at hP
      rw [st_Tb_hasFrame_2]
      simp only [st_Tb_hasFrame_0, st_Tb_hasFrame_1, st_Tb_hasFrame_3, st_Tb_hasFrame_4, st_Tb_hasFrame_7, st_Tb_hasFrame_10, st_Tb_hasFrame_13, st_Tb_hasFrame_14, st_Tb_hasFrame_17, st_Tb_hasFrame_21, st_Tb_hasFrame_24, st_Tb_hasFrame_25, st_Tb_hasFrame_26, st_Tb_hasFrame_29, st_Tb_hasFrame_32, st_Tb_hasFrame_33, st_Tb_hasFrame_36, st_Tb_hasFrame_37, st_Tb_hasFrame_40, st_Tb_hasFrame_41, st_Tb_hasFrame_42, st_Tb_hasFrame_45, st_Tb_hasFrame_48, st_Tb_hasFrame_49, ef, cl, sz, o_push, o_iload, o_lload, o_aload, o_istore, o_lstore, o_astore, o_iinc, o_iincW, o_ii, o_iiz, o_i1, o_l1, o_ll, o_li, o_dup, o_pop, o_dupx1, o_dup2, o_goto, o_if, o_icmp, o_acmp, o_ifnull, o_ifnonnull, o_get, o_put, o_iald, o_iast, o_aald, o_aast, o_alen, o_alenZ, o_cast, o_objinit, o_new, o_newi, o_newq, o_newqZ, o_alZ, o_getC, o_iret, o_zret, o_lret, o_aret, o_vret, o_mm, o_st, o_sc, o_br, o_sw, o_ret, o_al, o_call, mx_sw, mx_pop, mx_lk, mx_s1, mx_s2, mx_cat, mx_rr, mx_rv, mx_z01_0, mx_z01_1, mx_vI, mx_vJ, mx_vA, va_rf, List.filter_cons, List.filter_nil, Value.category, List.map_cons, List.map_nil, List.sum_cons, List.sum_nil, reduceCtorEq, ↓reduceIte, if_true, if_false, decide_true, decide_false, Bool.not_true, Bool.not_false, Bool.and_true, Bool.true_and, Bool.and_false, Bool.false_and, beq_self_eq_true, Nat.reduceAdd, Nat.reduceBEq, Nat.reduceEqDiff, Nat.reduceLeDiff, Nat.add_zero, Nat.zero_add, Nat.le_refl, Nat.zero_le, true_and, and_true, Option.toList_some, Option.toList_none, List.cons_append, List.nil_append, and_self, not_false_eq_true, not_true_eq_false, forall_const, imp_self, true_implies, false_implies, i10, i01]
      exact ⟨fun _ => hP, fun e => absurd (nI_le (Nat.le_refl _) (by omega)) e⟩
    | succ d ih =>
      intro j hj hf
      have hj8 : j < s.1 (4 + t) := by omega
      have hl : lvX s x 12 (8 * t + j) := ⟨t, j, ht, hj8, rfl⟩
      have gt := hR.ent ht hj8
      have k0 : mx_fld h (ad 12 (8 * t + j)) 5 0 = some (.int (s.2 17 (8 * t + j))) := hR.fd (k := 12) (i := 8 * t + j) hl rfl 0 rfl
      have k1 : mx_fld h (ad 12 (8 * t + j)) 5 1 = some (.int (s.2 18 (8 * t + j))) := hR.fd (k := 12) (i := 8 * t + j) hl rfl 1 rfl
      have kc : mx_cls h (ad 12 (8 * t + j)) = some 5 := hR.cl (k := 12) (i := 8 * t + j) hl rfl
      have yes : s.2 17 (8 * t + j) = 0 → s.2 18 (8 * t + j) = m → P (some (.int 1)) h := fun e1 e2 => by
        rw [(se_any_iff _ _).mpr ⟨j, hj8, by show (s.2 17 (8 * t + j) == 0 && s.2 18 (8 * t + j) == m) = true; rw [bt' e1, bt' e2]; rfl⟩] at hP
        exact hP
      have no : ¬ (s.2 17 (8 * t + j) = 0 ∧ s.2 18 (8 * t + j) = m) → mx_G (fun r h c n => P r h ∧ c ≤ 0 ∧ n ≤ 0) (t_Tb_hasFrame zz) 2 [(2, .int (nI (j + 1))), (0, .ref (ad 5 t)), (1, .int m)] [] h 0 0 := fun e => by
        refine ih (j + 1) (by omega) ?_
        rw [se_any_s, hf, Bool.false_or]
        by_cases e1 : s.2 17 (8 * t + j) = 0
        · rw [bf (fun z => e ⟨e1, z⟩), Bool.and_false]
        · rw [bf e1, Bool.false_and]
      rw [st_Tb_hasFrame_2]
      simp only [st_Tb_hasFrame_0, st_Tb_hasFrame_1, st_Tb_hasFrame_3, st_Tb_hasFrame_4, st_Tb_hasFrame_7, st_Tb_hasFrame_10, st_Tb_hasFrame_13, st_Tb_hasFrame_14, st_Tb_hasFrame_17, st_Tb_hasFrame_18, st_Tb_hasFrame_21, st_Tb_hasFrame_24, st_Tb_hasFrame_25, st_Tb_hasFrame_26, st_Tb_hasFrame_29, st_Tb_hasFrame_32, st_Tb_hasFrame_33, st_Tb_hasFrame_36, st_Tb_hasFrame_37, st_Tb_hasFrame_40, st_Tb_hasFrame_41, st_Tb_hasFrame_42, st_Tb_hasFrame_45, st_Tb_hasFrame_48, st_Tb_hasFrame_49, ef, cl, sz, gt, k0, k1, kc, nI_1, o_push, o_iload, o_lload, o_aload, o_istore, o_lstore, o_astore, o_iinc, o_iincW, o_ii, o_iiz, o_i1, o_l1, o_ll, o_li, o_dup, o_pop, o_dupx1, o_dup2, o_goto, o_if, o_icmp, o_acmp, o_ifnull, o_ifnonnull, o_get, o_put, o_iald, o_iast, o_aald, o_aast, o_alen, o_alenZ, o_cast, o_objinit, o_new, o_newi, o_newq, o_newqZ, o_alZ, o_getC, o_iret, o_zret, o_lret, o_aret, o_vret, o_mm, o_st, o_sc, o_br, o_sw, o_ret, o_al, o_call, mx_sw, mx_pop, mx_lk, mx_s1, mx_s2, mx_cat, mx_rr, mx_rv, mx_z01_0, mx_z01_1, mx_vI, mx_vJ, mx_vA, va_rf, List.filter_cons, List.filter_nil, Value.category, List.map_cons, List.map_nil, List.sum_cons, List.sum_nil, reduceCtorEq, ↓reduceIte, if_true, if_false, decide_true, decide_false, Bool.not_true, Bool.not_false, Bool.and_true, Bool.true_and, Bool.and_false, Bool.false_and, beq_self_eq_true, Nat.reduceAdd, Nat.reduceBEq, Nat.reduceEqDiff, Nat.reduceLeDiff, Nat.add_zero, Nat.zero_add, Nat.le_refl, Nat.zero_le, true_and, and_true, Option.toList_some, Option.toList_none, List.cons_append, List.nil_append, and_self, not_false_eq_true, not_true_eq_false, forall_const, imp_self, true_implies, false_implies, i10, i01]
      refine ⟨fun e => absurd e (nI_ge hj8 (by omega)), fun _ => ⟨fun e => ?_, fun e => ⟨fun e2 => ?_, fun e2 => yes (Classical.not_not.mp e) (Classical.not_not.mp e2)⟩⟩⟩
      · exact gx_Tb_hasFrame (no (fun z => e z.1)) rfl (by (repeat refine And.intro rfl ?_); exact trivial)
      · exact gx_Tb_hasFrame (no (fun z => e2 z.2)) rfl (by (repeat refine And.intro rfl ?_); exact trivial)
  simp only [st_Tb_hasFrame_0, st_Tb_hasFrame_1, st_Tb_hasFrame_3, st_Tb_hasFrame_4, st_Tb_hasFrame_7, st_Tb_hasFrame_10, st_Tb_hasFrame_13, st_Tb_hasFrame_14, st_Tb_hasFrame_17, st_Tb_hasFrame_18, st_Tb_hasFrame_21, st_Tb_hasFrame_24, st_Tb_hasFrame_25, st_Tb_hasFrame_26, st_Tb_hasFrame_29, st_Tb_hasFrame_32, st_Tb_hasFrame_33, st_Tb_hasFrame_36, st_Tb_hasFrame_37, st_Tb_hasFrame_40, st_Tb_hasFrame_41, st_Tb_hasFrame_42, st_Tb_hasFrame_45, st_Tb_hasFrame_48, st_Tb_hasFrame_49, lv_args, o_push, o_iload, o_lload, o_aload, o_istore, o_lstore, o_astore, o_iinc, o_iincW, o_ii, o_iiz, o_i1, o_l1, o_ll, o_li, o_dup, o_pop, o_dupx1, o_dup2, o_goto, o_if, o_icmp, o_acmp, o_ifnull, o_ifnonnull, o_get, o_put, o_iald, o_iast, o_aald, o_aast, o_alen, o_alenZ, o_cast, o_objinit, o_new, o_newi, o_newq, o_newqZ, o_alZ, o_getC, o_iret, o_zret, o_lret, o_aret, o_vret, o_mm, o_st, o_sc, o_br, o_sw, o_ret, o_al, o_call, mx_sw, mx_pop, mx_lk, mx_s1, mx_s2, mx_cat, mx_rr, mx_rv, mx_z01_0, mx_z01_1, mx_vI, mx_vJ, mx_vA, va_rf, List.filter_cons, List.filter_nil, Value.category, List.map_cons, List.map_nil, List.sum_cons, List.sum_nil, reduceCtorEq, ↓reduceIte, if_true, if_false, decide_true, decide_false, Bool.not_true, Bool.not_false, Bool.and_true, Bool.true_and, Bool.and_false, Bool.false_and, beq_self_eq_true, Nat.reduceAdd, Nat.reduceBEq, Nat.reduceEqDiff, Nat.reduceLeDiff, Nat.add_zero, Nat.zero_add, Nat.le_refl, Nat.zero_le, true_and, and_true, Option.toList_some, Option.toList_none, List.cons_append, List.nil_append, and_self, not_false_eq_true, not_true_eq_false, forall_const, imp_self, true_implies, false_implies, i10, i01]
  exact L _ 0 (Nat.zero_add _) rfl
theorem q_hasAlone {zz : Nat × Nat} {h : mx_H} {ad : Nat → Nat → Nat} {s : se_S} {x : xX} (hR : RX zz h ad s x) {t : Nat} (ht : t < 3) (h8 : s.1 (4 + t) ≤ 8) (P : Option Value → mx_H → Prop) (hP : P (some (.int (se_b (!se_any (fun j => !(s.2 17 (8 * t + j) == 0)) (s.1 (4 + t)))))) h) : S_Tb_hasFramesAlone zz [.ref (ad 5 t)] h P := by
  have ef : mx_fld h (ad 5 t) 6 0 = some (.ref (ad 1 (4 + t))) := hR.fd (k := 5) (i := t) ht rfl 0 rfl
  have cl : mx_cls h (ad 1 (4 + t)) = some 9 := hR.cl (k := 1) (i := 4 + t) (show 4 + t < 7 by omega) rfl
  have sz := hR.size (4 + t) (by omega)
  rw [S_Tb_hasFramesAlone, mx_S_eq (Nat.le_of_ble_eq_true rfl)]
  have L : ∀ d j, j + d = s.1 (4 + t) → se_any (fun j => !(s.2 17 (8 * t + j) == 0)) j = false → mx_G (fun r h c n => P r h ∧ c ≤ 0 ∧ n ≤ 0) (t_Tb_hasFramesAlone zz) 2 [(1, .int (nI j)), (0, .ref (ad 5 t))] [] h 0 0 := by
    intro d
    induction d with
    | zero =>
      intro j hj hf
      have hj : j = s.1 (4 + t) := by omega
      subst hj
      rw [hf] at hP
      rw [st_Tb_hasFramesAlone_2]
      simp only [st_Tb_hasFramesAlone_0, st_Tb_hasFramesAlone_1, st_Tb_hasFramesAlone_3, st_Tb_hasFramesAlone_4, st_Tb_hasFramesAlone_7, st_Tb_hasFramesAlone_10, st_Tb_hasFramesAlone_13, st_Tb_hasFramesAlone_14, st_Tb_hasFramesAlone_17, st_Tb_hasFramesAlone_21, st_Tb_hasFramesAlone_24, st_Tb_hasFramesAlone_27, st_Tb_hasFramesAlone_30, st_Tb_hasFramesAlone_31, st_Tb_hasFramesAlone_32, st_Tb_hasFramesAlone_35, st_Tb_hasFramesAlone_38, st_Tb_hasFramesAlone_39, ef, cl, sz, o_push, o_iload, o_lload, o_aload, o_istore, o_lstore, o_astore, o_iinc, o_iincW, o_ii, o_iiz, o_i1, o_l1, o_ll, o_li, o_dup, o_pop, o_dupx1, o_dup2, o_goto, o_if, o_icmp, o_acmp, o_ifnull, o_ifnonnull, o_get, o_put, o_iald, o_iast, o_aald, o_aast, o_alen, o_alenZ, o_cast, o_objinit, o_new, o_newi, o_newq, o_newqZ, o_alZ, o_getC, o_iret, o_zret, o_lret, o_aret, o_vret, o_mm, o_st, o_sc, o_br, o_sw, o_ret, o_al, o_call, mx_sw, mx_pop, mx_lk, mx_s1, mx_s2, mx_cat, mx_rr, mx_rv, mx_z01_0, mx_z01_1, mx_vI, mx_vJ, mx_vA, va_rf, List.filter_cons, List.filter_nil, Value.category, List.map_cons, List.map_nil, List.sum_cons, List.sum_nil, reduceCtorEq, ↓reduceIte, if_true, if_false, decide_true, decide_false, Bool.not_true, Bool.not_false, Bool.and_true, Bool.true_and, Bool.and_false, Bool.false_and, beq_self_eq_true, Nat.reduceAdd, Nat.reduceBEq, Nat.reduceEqDiff, Nat.reduceLeDiff, Nat.add_zero, Nat.zero_add, Nat.le_refl, Nat.zero_le, true_and, and_true, Option.toList_some, Option.toList_none, List.cons_append, List.nil_append, and_self, not_false_eq_true, not_true_eq_false, forall_const, imp_self, true_implies, false_implies, i10, i01]
      exact ⟨fun _ => hP, fun e => absurd (nI_le (Nat.le_refl _) (by omega)) e⟩
    | succ d ih =>
      intro j hj hf
      have hj8 : j < s.1 (4 + t) := by omega
      have hl : lvX s x 12 (8 * t + j) := ⟨t, j, ht, hj8, rfl⟩
      have gt := hR.ent ht hj8
      have k0 : mx_fld h (ad 12 (8 * t + j)) 5 0 = some (.int (s.2 17 (8 * t + j))) := hR.fd (k := 12) (i := 8 * t + j) hl rfl 0 rfl
      have kc : mx_cls h (ad 12 (8 * t + j)) = some 5 := hR.cl (k := 12) (i := 8 * t + j) hl rfl
      rw [st_Tb_hasFramesAlone_2]
      simp only [st_Tb_hasFramesAlone_0, st_Tb_hasFramesAlone_1, st_Tb_hasFramesAlone_3, st_Tb_hasFramesAlone_4, st_Tb_hasFramesAlone_7, st_Tb_hasFramesAlone_10, st_Tb_hasFramesAlone_13, st_Tb_hasFramesAlone_14, st_Tb_hasFramesAlone_17, st_Tb_hasFramesAlone_18, st_Tb_hasFramesAlone_21, st_Tb_hasFramesAlone_24, st_Tb_hasFramesAlone_27, st_Tb_hasFramesAlone_30, st_Tb_hasFramesAlone_31, st_Tb_hasFramesAlone_32, st_Tb_hasFramesAlone_35, st_Tb_hasFramesAlone_38, st_Tb_hasFramesAlone_39, ef, cl, sz, gt, k0, kc, nI_1, o_push, o_iload, o_lload, o_aload, o_istore, o_lstore, o_astore, o_iinc, o_iincW, o_ii, o_iiz, o_i1, o_l1, o_ll, o_li, o_dup, o_pop, o_dupx1, o_dup2, o_goto, o_if, o_icmp, o_acmp, o_ifnull, o_ifnonnull, o_get, o_put, o_iald, o_iast, o_aald, o_aast, o_alen, o_alenZ, o_cast, o_objinit, o_new, o_newi, o_newq, o_newqZ, o_alZ, o_getC, o_iret, o_zret, o_lret, o_aret, o_vret, o_mm, o_st, o_sc, o_br, o_sw, o_ret, o_al, o_call, mx_sw, mx_pop, mx_lk, mx_s1, mx_s2, mx_cat, mx_rr, mx_rv, mx_z01_0, mx_z01_1, mx_vI, mx_vJ, mx_vA, va_rf, List.filter_cons, List.filter_nil, Value.category, List.map_cons, List.map_nil, List.sum_cons, List.sum_nil, reduceCtorEq, ↓reduceIte, if_true, if_false, decide_true, decide_false, Bool.not_true, Bool.not_false, Bool.and_true, Bool.true_and, Bool.and_false, Bool.false_and, beq_self_eq_true, Nat.reduceAdd, Nat.reduceBEq, Nat.reduceEqDiff, Nat.reduceLeDiff, Nat.add_zero, Nat.zero_add, Nat.le_refl, Nat.zero_le, true_and, and_true, Option.toList_some, Option.toList_none, List.cons_append, List.nil_append, and_self, not_false_eq_true, not_true_eq_false, forall_const, imp_self, true_implies, false_implies, i10, i01]
      refine ⟨fun e => absurd e (nI_ge hj8 (by omega)), fun _ => ⟨fun e => ?_, fun e => ?_⟩⟩
      · exact ih (j + 1) (by omega) (by rw [se_any_s, hf, bt' e]; rfl)
      · rw [(se_any_iff _ _).mpr ⟨j, hj8, by show (!(s.2 17 (8 * t + j) == 0)) = true; rw [bf e]; rfl⟩] at hP
        exact hP
  simp only [st_Tb_hasFramesAlone_0, st_Tb_hasFramesAlone_1, st_Tb_hasFramesAlone_3, st_Tb_hasFramesAlone_4, st_Tb_hasFramesAlone_7, st_Tb_hasFramesAlone_10, st_Tb_hasFramesAlone_13, st_Tb_hasFramesAlone_14, st_Tb_hasFramesAlone_17, st_Tb_hasFramesAlone_18, st_Tb_hasFramesAlone_21, st_Tb_hasFramesAlone_24, st_Tb_hasFramesAlone_27, st_Tb_hasFramesAlone_30, st_Tb_hasFramesAlone_31, st_Tb_hasFramesAlone_32, st_Tb_hasFramesAlone_35, st_Tb_hasFramesAlone_38, st_Tb_hasFramesAlone_39, lv_args, o_push, o_iload, o_lload, o_aload, o_istore, o_lstore, o_astore, o_iinc, o_iincW, o_ii, o_iiz, o_i1, o_l1, o_ll, o_li, o_dup, o_pop, o_dupx1, o_dup2, o_goto, o_if, o_icmp, o_acmp, o_ifnull, o_ifnonnull, o_get, o_put, o_iald, o_iast, o_aald, o_aast, o_alen, o_alenZ, o_cast, o_objinit, o_new, o_newi, o_newq, o_newqZ, o_alZ, o_getC, o_iret, o_zret, o_lret, o_aret, o_vret, o_mm, o_st, o_sc, o_br, o_sw, o_ret, o_al, o_call, mx_sw, mx_pop, mx_lk, mx_s1, mx_s2, mx_cat, mx_rr, mx_rv, mx_z01_0, mx_z01_1, mx_vI, mx_vJ, mx_vA, va_rf, List.filter_cons, List.filter_nil, Value.category, List.map_cons, List.map_nil, List.sum_cons, List.sum_nil, reduceCtorEq, ↓reduceIte, if_true, if_false, decide_true, decide_false, Bool.not_true, Bool.not_false, Bool.and_true, Bool.true_and, Bool.and_false, Bool.false_and, beq_self_eq_true, Nat.reduceAdd, Nat.reduceBEq, Nat.reduceEqDiff, Nat.reduceLeDiff, Nat.add_zero, Nat.zero_add, Nat.le_refl, Nat.zero_le, true_and, and_true, Option.toList_some, Option.toList_none, List.cons_append, List.nil_append, and_self, not_false_eq_true, not_true_eq_false, forall_const, imp_self, true_implies, false_implies, i10, i01]
  exact L _ 0 (Nat.zero_add _) rfl
