def xas (x : xX) (f : Nat) : xX := (x.1, up2 (up2 x.2.1 1 f (x.2.1 1 f ||| 255)) 0 f ((x.2.1 0 f &&& (-256)) ||| (x.1 1 f).toInt64), x.2.2)
theorem XputDO {tab : List (Nat × mx_O)} {r : mx_T} {pc : Nat} {ls : mx_L} {t : List Value} {h : mx_H} {c n : Nat} {zz : Nat × Nat} {ad : Nat → Nat → Nat} {s : se_S} {x : xX} {ok : Value → Prop} {v : Int64} {f : Nat} (st : mx_G r tab pc ls (.long v :: .ref (ad 6 f) :: t) h c n = o_put 1 5 ok r (mx_G r tab) pc ls (.long v :: .ref (ad 6 f) :: t) h c n) (hR : RX zz h ad s x) (hf : f < s.1 0) (hok : ok (.long v)) (kk : ∀ (h' : mx_H) (x1 : xX), x1 = (x.1, up2 x.2.1 0 f v, x.2.2) → (∀ y, y ≠ ad 6 f → h' y = h y) → RX zz h' ad s x1 → mx_G r tab (pc + 3) ls t h' c n) : mx_G r tab pc ls (.long v :: .ref (ad 6 f) :: t) h c n := by
  obtain ⟨h', p1, hR'⟩ := hR.put (s' := s) (x' := (x.1, up2 x.2.1 0 f v, x.2.2)) (k := 6) (i := f) (ci := 1) (j := 5) (v := .long v) hf rfl (by decide : 5 < 8) rfl rfl (by
    show (Sum.inr (1, [.int (nI f), .int (x.1 1 f), .int (s.2 2 f), .int (s.2 3 f), .int (s.2 4 f), .long (up2 x.2.1 0 f v 0 f), .long (x.2.1 1 f), .int (s.2 5 f)]) : mx_E) = _
    rw [up2_self]
    rfl) (by
    intro k' i' hl hne
    exact (match k', i', hl, hne with
                | 0, _, _, _ => rfl
                | 1, _, _, _ => rfl
                | 2, _, _, _ => rfl
                | 3, 0, _, _ => rfl
                | 3, 1, _, _ => rfl
                | 3, _ + 2, _, _ => rfl
                | 4, 0, _, _ => rfl
                | 4, 1, _, _ => rfl
                | 4, _ + 2, _, _ => rfl
                | 5, _, _, _ => rfl
                | 6, j, _, hne => by
                                  show (Sum.inr (1, [.int (nI j), .int (x.1 1 j), .int (s.2 2 j), .int (s.2 3 j), .int (s.2 4 j), .long (up2 x.2.1 0 f v 0 j), .long (x.2.1 1 j), .int (s.2 5 j)]) : mx_E) = _
                                  rw [up2_ne _ _ (fun z => hne ⟨rfl, z.2⟩)]
                                  rfl
                | 7, _, _, _ => rfl
                | 8, _, _, _ => rfl
                | 9, _, _, _ => rfl
                | 10, _, _, _ => rfl
                | 11, _, _, _ => rfl
                | 12, _, _, _ => rfl
                | _ + 13, _, hl, _ => hl.elim))
  rw [st]
  simp only [o_put, o_sc, p1]
  exact ⟨hok, kk h' _ rfl (mx_put_off p1) hR'⟩
theorem q_associate {zz : Nat × Nat} {h : mx_H} {ad : Nat → Nat → Nat} {s : se_S} {x : xX} (hR : RX zz h ad s x) {f : Nat} (hf : f < s.1 0) (P : Option Value → mx_H → Prop) (hP : ∀ h', (∀ y, y ≠ ad 6 f → h' y = h y) → RX zz h' ad s (xas x f) → P none h') : S_Fr_associate zz [.ref (ad 6 f)] h P := by
  rw [S_Fr_associate, mx_S_eq (Nat.le_of_ble_eq_true rfl)]
  simp only [st_Fr_associate_0, st_Fr_associate_1, st_Fr_associate_2, st_Fr_associate_5, st_Fr_associate_8, st_Fr_associate_12, st_Fr_associate_13, st_Fr_associate_14, st_Fr_associate_17, st_Fr_associate_20, st_Fr_associate_21, st_Fr_associate_22, st_Fr_associate_25, st_Fr_associate_26, st_Fr_associate_30, lv_args, (hR.fd (k := 6) (i := f) hf rfl 6 rfl), o_push, o_iload, o_lload, o_aload, o_istore, o_lstore, o_astore, o_iinc, o_iincW, o_ii, o_iiz, o_i1, o_l1, o_ll, o_li, o_dup, o_pop, o_dupx1, o_dup2, o_goto, o_if, o_icmp, o_acmp, o_ifnull, o_ifnonnull, o_get, o_put, o_iald, o_iast, o_aald, o_aast, o_alen, o_alenZ, o_cast, o_objinit, o_new, o_newi, o_newq, o_newqZ, o_alZ, o_getC, o_iret, o_zret, o_lret, o_aret, o_vret, o_mm, o_st, o_sc, o_br, o_sw, o_ret, o_al, o_call, mx_sw, mx_pop, mx_lk, mx_s1, mx_s2, mx_cat, mx_rr, mx_rv, mx_z01_0, mx_z01_1, mx_vI, mx_vJ, mx_vA, va_rf, List.filter_cons, List.filter_nil, Value.category, List.map_cons, List.map_nil, List.sum_cons, List.sum_nil, reduceCtorEq, ↓reduceIte, if_true, if_false, decide_true, decide_false, Bool.not_true, Bool.not_false, Bool.and_true, Bool.true_and, Bool.and_false, Bool.false_and, beq_self_eq_true, Nat.reduceAdd, Nat.reduceBEq, Nat.reduceEqDiff, Nat.reduceLeDiff, Nat.add_zero, Nat.zero_add, Nat.le_refl, Nat.zero_le, true_and, and_true, Option.toList_some, Option.toList_none, List.cons_append, List.nil_append, and_self, not_false_eq_true, not_true_eq_false, forall_const, imp_self, true_implies, false_implies, i10, i01]
  refine XputTO (st_Fr_associate_9 ..) hR hf trivial (fun h1 x1 e1 o1 hR1 => ?_)
  simp only [st_Fr_associate_0, st_Fr_associate_1, st_Fr_associate_2, st_Fr_associate_5, st_Fr_associate_8, st_Fr_associate_12, st_Fr_associate_13, st_Fr_associate_14, st_Fr_associate_17, st_Fr_associate_20, st_Fr_associate_21, st_Fr_associate_22, st_Fr_associate_25, st_Fr_associate_26, st_Fr_associate_30, (hR1.fd (k := 6) (i := f) hf rfl 5 rfl), (hR1.fd (k := 6) (i := f) hf rfl 1 rfl), o_push, o_iload, o_lload, o_aload, o_istore, o_lstore, o_astore, o_iinc, o_iincW, o_ii, o_iiz, o_i1, o_l1, o_ll, o_li, o_dup, o_pop, o_dupx1, o_dup2, o_goto, o_if, o_icmp, o_acmp, o_ifnull, o_ifnonnull, o_get, o_put, o_iald, o_iast, o_aald, o_aast, o_alen, o_alenZ, o_cast, o_objinit, o_new, o_newi, o_newq, o_newqZ, o_alZ, o_getC, o_iret, o_zret, o_lret, o_aret, o_vret, o_mm, o_st, o_sc, o_br, o_sw, o_ret, o_al, o_call, mx_sw, mx_pop, mx_lk, mx_s1, mx_s2, mx_cat, mx_rr, mx_rv, mx_z01_0, mx_z01_1, mx_vI, mx_vJ, mx_vA, va_rf, List.filter_cons, List.filter_nil, Value.category, List.map_cons, List.map_nil, List.sum_cons, List.sum_nil, reduceCtorEq, ↓reduceIte, if_true, if_false, decide_true, decide_false, Bool.not_true, Bool.not_false, Bool.and_true, Bool.true_and, Bool.and_false, Bool.false_and, beq_self_eq_true, Nat.reduceAdd, Nat.reduceBEq, Nat.reduceEqDiff, Nat.reduceLeDiff, Nat.add_zero, Nat.zero_add, Nat.le_refl, Nat.zero_le, true_and, and_true, Option.toList_some, Option.toList_none, List.cons_append, List.nil_append, and_self, not_false_eq_true, not_true_eq_false, forall_const, imp_self, true_implies, false_implies, i10, i01]
  refine XputDO (st_Fr_associate_27 ..) hR1 hf trivial (fun h2 x2 e2 o2 hR2 => ?_)
  simp only [st_Fr_associate_0, st_Fr_associate_1, st_Fr_associate_2, st_Fr_associate_5, st_Fr_associate_8, st_Fr_associate_12, st_Fr_associate_13, st_Fr_associate_14, st_Fr_associate_17, st_Fr_associate_20, st_Fr_associate_21, st_Fr_associate_22, st_Fr_associate_25, st_Fr_associate_26, st_Fr_associate_30, o_push, o_iload, o_lload, o_aload, o_istore, o_lstore, o_astore, o_iinc, o_iincW, o_ii, o_iiz, o_i1, o_l1, o_ll, o_li, o_dup, o_pop, o_dupx1, o_dup2, o_goto, o_if, o_icmp, o_acmp, o_ifnull, o_ifnonnull, o_get, o_put, o_iald, o_iast, o_aald, o_aast, o_alen, o_alenZ, o_cast, o_objinit, o_new, o_newi, o_newq, o_newqZ, o_alZ, o_getC, o_iret, o_zret, o_lret, o_aret, o_vret, o_mm, o_st, o_sc, o_br, o_sw, o_ret, o_al, o_call, mx_sw, mx_pop, mx_lk, mx_s1, mx_s2, mx_cat, mx_rr, mx_rv, mx_z01_0, mx_z01_1, mx_vI, mx_vJ, mx_vA, va_rf, List.filter_cons, List.filter_nil, Value.category, List.map_cons, List.map_nil, List.sum_cons, List.sum_nil, reduceCtorEq, ↓reduceIte, if_true, if_false, decide_true, decide_false, Bool.not_true, Bool.not_false, Bool.and_true, Bool.true_and, Bool.and_false, Bool.false_and, beq_self_eq_true, Nat.reduceAdd, Nat.reduceBEq, Nat.reduceEqDiff, Nat.reduceLeDiff, Nat.add_zero, Nat.zero_add, Nat.le_refl, Nat.zero_le, true_and, and_true, Option.toList_some, Option.toList_none, List.cons_append, List.nil_append, and_self, not_false_eq_true, not_true_eq_false, forall_const, imp_self, true_implies, false_implies, i10, i01]
  refine hP h2 (fun y hy => (o2 y hy).trans (o1 y hy)) ?_
  rw [e2, e1] at hR2
  unfold xas
  exact hR2
