theorem dt_kp {s : se_S} {I : Nat → Nat → Int32} {d : Nat → Int64} (h : dt s d) (hk : kp s I) : dt (s.1, I) d := by
  have r := fun q a b c e g => hk.r q a b c e g
  intro f hf c hc
  have e1 := hk.r 1 (by decide) (by decide) (by decide) (by decide) (by decide)
  have e6 := hk.r 6 (by decide) (by decide) (by decide) (by decide) (by decide)
  have ez : zr (s.1, I) f c (s.1 1) = zr s f c (s.1 1) := zr_as (s := s) (s' := (s.1, I)) (hk.r 7 (by decide) (by decide) (by decide) (by decide) (by decide)) (hk.r 8 (by decide) (by decide) (by decide) (by decide) (by decide)) (hk.r 9 (by decide) (by decide) (by decide) (by decide) (by decide)) (hk.r 10 (by decide) (by decide) (by decide) (by decide) (by decide)) f c _
  have := h f hf c hc
  show lb (d f) c = true ↔ ((0 < I 6 f ∧ c < 8) ∧ ib (sf_grd (I 1 f)) c = true) ∨ (¬ (0 < I 6 f ∧ c < 8) ∧ ¬ zr (s.1, I) f c (s.1 1))
  rw [ez, e1, e6]
  exact this
theorem JX_kp {s : se_S} {I : Nat → Nat → Int32} {x x' : xX} (h : JX s x) (hk : kp s I) (x1 : ∀ q, q = 1 ∨ q = 2 ∨ q = 3 → x'.1 q = x.1 q) (x2 : x'.2.1 = x.2.1) (rb : x'.1 4 0 = if 0 < I 0 9 then s.2 16 (I 0 9 - 1).toNatClampNeg else -1) (nb : x'.1 4 1 = if I 0 11 = 0 then -1 else I 0 12) : JX (s.1, I) x' :=
  JX_as h rfl rfl rfl (fun q hq => hk.r q (by omega) (by omega) (by omega) (by omega) (by omega)) x1 x2 rb nb
theorem pend_at {s : se_S} {f : Nat} (hf : f < 2 ^ 30) : se_pend s (nI f) = !(s.2 5 f == 0) := by
  unfold se_pend
  rw [bf (nI_nm1 hf), nI_clamp (by omega)]
  rfl
theorem pend_m1 {s : se_S} : se_pend s (-1) = false := rfl
theorem q_firstPending {zz : Nat × Nat} {h : mx_H} {ad : Nat → Nat → Nat} {s : se_S} {x : xX} (hR : RX zz h ad s x) (hA : GA s) {g : Nat} (hg : g < s.1 2) (P : Option Value → mx_H → Prop) (hq : ∀ q f, q < 3 → f < s.1 0 → s.2 13 (3 * g + q) = nI f → se_pend s (nI f) = true → (∀ q', q' < q → se_pend s (s.2 13 (3 * g + q')) = false) → P (some (.ref (ad 6 f))) h) (hn : (∀ q', q' < 3 → se_pend s (s.2 13 (3 * g + q')) = false) → P (some .null) h) : S_Gr_firstPending zz [.ref (ad 8 g)] h P := by
  have h8 := hA.c0
  obtain ⟨N, hN⟩ : ∃ N, N = xn (s.2 13) g := ⟨_, rfl⟩
  have hN3 := xn_23 (s.2 13) g
  rw [← hN] at hN3
  have mem : mx_fld h (ad 8 g) 3 0 = some (.ref (ad 9 g)) := hR.fd (k := 8) (i := g) hg rfl 0 rfl
  have qa' : mx_qar h (ad 9 g) = some ("HeaderSchedule$Frame", N, xr ad (s.2 13) g) := by rw [hN]; exact hR.qr (k := 9) (i := g) hg rfl
  have ql : mx_len h (ad 9 g) = some N := by rw [hN]; exact hR.ln (k := 9) (i := g) hg rfl
  rw [S_Gr_firstPending, mx_S_eq (Nat.le_of_ble_eq_true rfl)]
  have L : ∀ d q, q + d = N → (∀ q', q' < q → se_pend s (s.2 13 (3 * g + q')) = false) → mx_G (fun r h c n => P r h ∧ c ≤ 0 ∧ n ≤ 0) (t_Gr_firstPending zz) 10 [(3, .int (nI q)), (2, .int (nI N)), (1, .ref (ad 9 g)), (0, .ref (ad 8 g))] [] h 0 0 := by
    intro d
    induction d with
    | zero =>
      intro q hq' hall
      have hq' : q = N := by omega
      subst hq'
      rw [st_Gr_firstPending_10]
      simp only [st_Gr_firstPending_0, st_Gr_firstPending_1, st_Gr_firstPending_4, st_Gr_firstPending_5, st_Gr_firstPending_6, st_Gr_firstPending_7, st_Gr_firstPending_8, st_Gr_firstPending_9, st_Gr_firstPending_11, st_Gr_firstPending_12, st_Gr_firstPending_15, st_Gr_firstPending_16, st_Gr_firstPending_18, st_Gr_firstPending_20, st_Gr_firstPending_22, st_Gr_firstPending_25, st_Gr_firstPending_28, st_Gr_firstPending_30, st_Gr_firstPending_31, st_Gr_firstPending_34, st_Gr_firstPending_37, st_Gr_firstPending_38, o_push, o_iload, o_lload, o_aload, o_istore, o_lstore, o_astore, o_iinc, o_iincW, o_ii, o_iiz, o_i1, o_l1, o_ll, o_li, o_dup, o_pop, o_dupx1, o_dup2, o_goto, o_if, o_icmp, o_acmp, o_ifnull, o_ifnonnull, o_get, o_put, o_iald, o_iast, o_aald, o_aast, o_alen, o_alenZ, o_cast, o_objinit, o_new, o_newi, o_newq, o_newqZ, o_alZ, o_getC, o_iret, o_zret, o_lret, o_aret, o_vret, o_mm, o_st, o_sc, o_br, o_sw, o_ret, o_al, o_call, mx_sw, mx_pop, mx_lk, mx_s1, mx_s2, mx_cat, mx_rr, mx_rv, mx_z01_0, mx_z01_1, mx_vI, mx_vJ, mx_vA, va_rf, List.filter_cons, List.filter_nil, Value.category, List.map_cons, List.map_nil, List.sum_cons, List.sum_nil, reduceCtorEq, ↓reduceIte, if_true, if_false, decide_true, decide_false, Bool.not_true, Bool.not_false, Bool.and_true, Bool.true_and, Bool.and_false, Bool.false_and, beq_self_eq_true, Nat.reduceAdd, Nat.reduceBEq, Nat.reduceEqDiff, Nat.reduceLeDiff, Nat.add_zero, Nat.zero_add, Nat.le_refl, Nat.zero_le, true_and, and_true, Option.toList_some, Option.toList_none, List.cons_append, List.nil_append, and_self, not_false_eq_true, not_true_eq_false, forall_const, imp_self, true_implies, false_implies, i10, i01]
      refine ⟨fun _ => hn (fun q' h3 => ?_), fun e => absurd (nI_le (Nat.le_refl _) (by omega)) e⟩
      by_cases hl : q' < q
      · exact hall q' hl
      · rw [gm_out (r := s.2 13) (g := g) (by rw [← hN]; exact hl) h3, pend_m1]
    | succ d ih =>
      intro q hq' hall
      have hqN : q < N := by omega
      obtain ⟨f, hf, ef⟩ := gm_at (hA.gg g hg) h8 (q := q) (by rw [← hN]; exact hqN)
      have xrq : xr ad (s.2 13) g q = some (ad 6 f) := xr_at (by rw [← hN]; exact hqN) ef (by omega)
      have vq : vp_in (nI q) N = True := eq_true (vp_in_nI hqN (by omega))
      have cq : (nI q).toNatClampNeg = q := nI_clamp (by omega)
      have n7 : mx_fld h (ad 6 f) 1 7 = some (.int (s.2 5 f)) := hR.fd (k := 6) (i := f) hf rfl 7 rfl
      rw [st_Gr_firstPending_10]
      simp only [st_Gr_firstPending_0, st_Gr_firstPending_1, st_Gr_firstPending_4, st_Gr_firstPending_5, st_Gr_firstPending_6, st_Gr_firstPending_7, st_Gr_firstPending_8, st_Gr_firstPending_9, st_Gr_firstPending_11, st_Gr_firstPending_12, st_Gr_firstPending_15, st_Gr_firstPending_16, st_Gr_firstPending_17, st_Gr_firstPending_18, st_Gr_firstPending_20, st_Gr_firstPending_22, st_Gr_firstPending_25, st_Gr_firstPending_28, st_Gr_firstPending_30, st_Gr_firstPending_31, st_Gr_firstPending_34, st_Gr_firstPending_37, st_Gr_firstPending_38, qa', vq, cq, xrq, n7, nI_1, o_push, o_iload, o_lload, o_aload, o_istore, o_lstore, o_astore, o_iinc, o_iincW, o_ii, o_iiz, o_i1, o_l1, o_ll, o_li, o_dup, o_pop, o_dupx1, o_dup2, o_goto, o_if, o_icmp, o_acmp, o_ifnull, o_ifnonnull, o_get, o_put, o_iald, o_iast, o_aald, o_aast, o_alen, o_alenZ, o_cast, o_objinit, o_new, o_newi, o_newq, o_newqZ, o_alZ, o_getC, o_iret, o_zret, o_lret, o_aret, o_vret, o_mm, o_st, o_sc, o_br, o_sw, o_ret, o_al, o_call, mx_sw, mx_pop, mx_lk, mx_s1, mx_s2, mx_cat, mx_rr, mx_rv, mx_z01_0, mx_z01_1, mx_vI, mx_vJ, mx_vA, va_rf, List.filter_cons, List.filter_nil, Value.category, List.map_cons, List.map_nil, List.sum_cons, List.sum_nil, reduceCtorEq, ↓reduceIte, if_true, if_false, decide_true, decide_false, Bool.not_true, Bool.not_false, Bool.and_true, Bool.true_and, Bool.and_false, Bool.false_and, beq_self_eq_true, Nat.reduceAdd, Nat.reduceBEq, Nat.reduceEqDiff, Nat.reduceLeDiff, Nat.add_zero, Nat.zero_add, Nat.le_refl, Nat.zero_le, true_and, and_true, Option.toList_some, Option.toList_none, List.cons_append, List.nil_append, and_self, not_false_eq_true, not_true_eq_false, forall_const, imp_self, true_implies, false_implies, i10, i01]
      refine ⟨fun e => absurd e (nI_ge hqN (by omega)), fun _ => ⟨fun e => ?_, fun e => ?_⟩⟩
      · refine gx_Gr_firstPending (ih (q + 1) (by omega) (fun q' h1 => ?_)) rfl (by (repeat refine And.intro rfl ?_); exact trivial)
        by_cases eq : q' = q
        · rw [eq, ef, pend_at (by omega), bt' e]; rfl
        · exact hall q' (by omega)
      · exact hq q f (by omega) hf ef (by rw [pend_at (by omega), bf e]; rfl) hall
  simp only [st_Gr_firstPending_0, st_Gr_firstPending_1, st_Gr_firstPending_4, st_Gr_firstPending_5, st_Gr_firstPending_6, st_Gr_firstPending_7, st_Gr_firstPending_8, st_Gr_firstPending_9, st_Gr_firstPending_11, st_Gr_firstPending_12, st_Gr_firstPending_15, st_Gr_firstPending_16, st_Gr_firstPending_17, st_Gr_firstPending_18, st_Gr_firstPending_20, st_Gr_firstPending_22, st_Gr_firstPending_25, st_Gr_firstPending_28, st_Gr_firstPending_30, st_Gr_firstPending_31, st_Gr_firstPending_34, st_Gr_firstPending_37, st_Gr_firstPending_38, lv_args, mem, ql, o_push, o_iload, o_lload, o_aload, o_istore, o_lstore, o_astore, o_iinc, o_iincW, o_ii, o_iiz, o_i1, o_l1, o_ll, o_li, o_dup, o_pop, o_dupx1, o_dup2, o_goto, o_if, o_icmp, o_acmp, o_ifnull, o_ifnonnull, o_get, o_put, o_iald, o_iast, o_aald, o_aast, o_alen, o_alenZ, o_cast, o_objinit, o_new, o_newi, o_newq, o_newqZ, o_alZ, o_getC, o_iret, o_zret, o_lret, o_aret, o_vret, o_mm, o_st, o_sc, o_br, o_sw, o_ret, o_al, o_call, mx_sw, mx_pop, mx_lk, mx_s1, mx_s2, mx_cat, mx_rr, mx_rv, mx_z01_0, mx_z01_1, mx_vI, mx_vJ, mx_vA, va_rf, List.filter_cons, List.filter_nil, Value.category, List.map_cons, List.map_nil, List.sum_cons, List.sum_nil, reduceCtorEq, ↓reduceIte, if_true, if_false, decide_true, decide_false, Bool.not_true, Bool.not_false, Bool.and_true, Bool.true_and, Bool.and_false, Bool.false_and, beq_self_eq_true, Nat.reduceAdd, Nat.reduceBEq, Nat.reduceEqDiff, Nat.reduceLeDiff, Nat.add_zero, Nat.zero_add, Nat.le_refl, Nat.zero_le, true_and, and_true, Option.toList_some, Option.toList_none, List.cons_append, List.nil_append, and_self, not_false_eq_true, not_true_eq_false, forall_const, imp_self, true_implies, false_implies, i10, i01]
  exact L N 0 (by omega) (fun q' h1 => by omega)
theorem q_hasPending {zz : Nat × Nat} {h : mx_H} {ad : Nat → Nat → Nat} {s : se_S} {x : xX} (hR : RX zz h ad s x) (hA : GA s) {e : Nat} (he : e < s.1 3) (P : Option Value → mx_H → Prop) (hq : ∀ q, q < 3 → se_pend s (s.2 15 (3 * e + q)) = true → P (some (.int 1)) h) (hn : (∀ q', q' < 3 → se_pend s (s.2 15 (3 * e + q')) = false) → P (some (.int 0)) h) : S_Ev_hasPending zz [.ref (ad 10 e)] h P := by
  have h8 := hA.c0
  obtain ⟨N, hN⟩ : ∃ N, N = xn (s.2 15) e := ⟨_, rfl⟩
  have hN3 := xn_23 (s.2 15) e
  rw [← hN] at hN3
  have mem : mx_fld h (ad 10 e) 4 1 = some (.ref (ad 11 e)) := hR.fd (k := 10) (i := e) he rfl 1 rfl
  have qa' : mx_qar h (ad 11 e) = some ("HeaderSchedule$Frame", N, xr ad (s.2 15) e) := by rw [hN]; exact hR.qr (k := 11) (i := e) he rfl
  have ql : mx_len h (ad 11 e) = some N := by rw [hN]; exact hR.ln (k := 11) (i := e) he rfl
  rw [S_Ev_hasPending, mx_S_eq (Nat.le_of_ble_eq_true rfl)]
  have L : ∀ d q, q + d = N → (∀ q', q' < q → se_pend s (s.2 15 (3 * e + q')) = false) → mx_G (fun r h c n => P r h ∧ c ≤ 0 ∧ n ≤ 0) (t_Ev_hasPending zz) 10 [(3, .int (nI q)), (2, .int (nI N)), (1, .ref (ad 11 e)), (0, .ref (ad 10 e))] [] h 0 0 := by
    intro d
    induction d with
    | zero =>
      intro q hq' hall
      have hq' : q = N := by omega
      subst hq'
      rw [st_Ev_hasPending_10]
      simp only [st_Ev_hasPending_0, st_Ev_hasPending_1, st_Ev_hasPending_4, st_Ev_hasPending_5, st_Ev_hasPending_6, st_Ev_hasPending_7, st_Ev_hasPending_8, st_Ev_hasPending_9, st_Ev_hasPending_11, st_Ev_hasPending_12, st_Ev_hasPending_15, st_Ev_hasPending_16, st_Ev_hasPending_18, st_Ev_hasPending_20, st_Ev_hasPending_22, st_Ev_hasPending_25, st_Ev_hasPending_28, st_Ev_hasPending_29, st_Ev_hasPending_30, st_Ev_hasPending_33, st_Ev_hasPending_36, st_Ev_hasPending_37, o_push, o_iload, o_lload, o_aload, o_istore, o_lstore, o_astore, o_iinc, o_iincW, o_ii, o_iiz, o_i1, o_l1, o_ll, o_li, o_dup, o_pop, o_dupx1, o_dup2, o_goto, o_if, o_icmp, o_acmp, o_ifnull, o_ifnonnull, o_get, o_put, o_iald, o_iast, o_aald, o_aast, o_alen, o_alenZ, o_cast, o_objinit, o_new, o_newi, o_newq, o_newqZ, o_alZ, o_getC, o_iret, o_zret, o_lret, o_aret, o_vret, o_mm, o_st, o_sc, o_br, o_sw, o_ret, o_al, o_call, mx_sw, mx_pop, mx_lk, mx_s1, mx_s2, mx_cat, mx_rr, mx_rv, mx_z01_0, mx_z01_1, mx_vI, mx_vJ, mx_vA, va_rf, List.filter_cons, List.filter_nil, Value.category, List.map_cons, List.map_nil, List.sum_cons, List.sum_nil, reduceCtorEq, ↓reduceIte, if_true, if_false, decide_true, decide_false, Bool.not_true, Bool.not_false, Bool.and_true, Bool.true_and, Bool.and_false, Bool.false_and, beq_self_eq_true, Nat.reduceAdd, Nat.reduceBEq, Nat.reduceEqDiff, Nat.reduceLeDiff, Nat.add_zero, Nat.zero_add, Nat.le_refl, Nat.zero_le, true_and, and_true, Option.toList_some, Option.toList_none, List.cons_append, List.nil_append, and_self, not_false_eq_true, not_true_eq_false, forall_const, imp_self, true_implies, false_implies, i10, i01]
      refine ⟨fun _ => hn (fun q' h3 => ?_), fun e => absurd (nI_le (Nat.le_refl _) (by omega)) e⟩
      by_cases hl : q' < q
      · exact hall q' hl
      · rw [gm_out (r := s.2 15) (g := e) (by rw [← hN]; exact hl) h3, pend_m1]
    | succ d ih =>
      intro q hq' hall
      have hqN : q < N := by omega
      obtain ⟨f, hf, ef⟩ := gm_at (hA.ge e he) h8 (q := q) (by rw [← hN]; exact hqN)
      have xrq : xr ad (s.2 15) e q = some (ad 6 f) := xr_at (by rw [← hN]; exact hqN) ef (by omega)
      have vq : vp_in (nI q) N = True := eq_true (vp_in_nI hqN (by omega))
      have cq : (nI q).toNatClampNeg = q := nI_clamp (by omega)
      have n7 : mx_fld h (ad 6 f) 1 7 = some (.int (s.2 5 f)) := hR.fd (k := 6) (i := f) hf rfl 7 rfl
      rw [st_Ev_hasPending_10]
      simp only [st_Ev_hasPending_0, st_Ev_hasPending_1, st_Ev_hasPending_4, st_Ev_hasPending_5, st_Ev_hasPending_6, st_Ev_hasPending_7, st_Ev_hasPending_8, st_Ev_hasPending_9, st_Ev_hasPending_11, st_Ev_hasPending_12, st_Ev_hasPending_15, st_Ev_hasPending_16, st_Ev_hasPending_17, st_Ev_hasPending_18, st_Ev_hasPending_20, st_Ev_hasPending_22, st_Ev_hasPending_25, st_Ev_hasPending_28, st_Ev_hasPending_29, st_Ev_hasPending_30, st_Ev_hasPending_33, st_Ev_hasPending_36, st_Ev_hasPending_37, qa', vq, cq, xrq, n7, nI_1, o_push, o_iload, o_lload, o_aload, o_istore, o_lstore, o_astore, o_iinc, o_iincW, o_ii, o_iiz, o_i1, o_l1, o_ll, o_li, o_dup, o_pop, o_dupx1, o_dup2, o_goto, o_if, o_icmp, o_acmp, o_ifnull, o_ifnonnull, o_get, o_put, o_iald, o_iast, o_aald, o_aast, o_alen, o_alenZ, o_cast, o_objinit, o_new, o_newi, o_newq, o_newqZ, o_alZ, o_getC, o_iret, o_zret, o_lret, o_aret, o_vret, o_mm, o_st, o_sc, o_br, o_sw, o_ret, o_al, o_call, mx_sw, mx_pop, mx_lk, mx_s1, mx_s2, mx_cat, mx_rr, mx_rv, mx_z01_0, mx_z01_1, mx_vI, mx_vJ, mx_vA, va_rf, List.filter_cons, List.filter_nil, Value.category, List.map_cons, List.map_nil, List.sum_cons, List.sum_nil, reduceCtorEq, ↓reduceIte, if_true, if_false, decide_true, decide_false, Bool.not_true, Bool.not_false, Bool.and_true, Bool.true_and, Bool.and_false, Bool.false_and, beq_self_eq_true, Nat.reduceAdd, Nat.reduceBEq, Nat.reduceEqDiff, Nat.reduceLeDiff, Nat.add_zero, Nat.zero_add, Nat.le_refl, Nat.zero_le, true_and, and_true, Option.toList_some, Option.toList_none, List.cons_append, List.nil_append, and_self, not_false_eq_true, not_true_eq_false, forall_const, imp_self, true_implies, false_implies, i10, i01]
      refine ⟨fun e => absurd e (nI_ge hqN (by omega)), fun _ => ⟨fun e => ?_, fun e => ?_⟩⟩
      · refine gx_Ev_hasPending (ih (q + 1) (by omega) (fun q' h1 => ?_)) rfl (by (repeat refine And.intro rfl ?_); exact trivial)
        by_cases eq : q' = q
        · rw [eq, ef, pend_at (by omega), bt' e]; rfl
        · exact hall q' (by omega)
      · exact hq q (by omega) (by rw [ef, pend_at (by omega), bf e]; rfl)
  simp only [st_Ev_hasPending_0, st_Ev_hasPending_1, st_Ev_hasPending_4, st_Ev_hasPending_5, st_Ev_hasPending_6, st_Ev_hasPending_7, st_Ev_hasPending_8, st_Ev_hasPending_9, st_Ev_hasPending_11, st_Ev_hasPending_12, st_Ev_hasPending_15, st_Ev_hasPending_16, st_Ev_hasPending_17, st_Ev_hasPending_18, st_Ev_hasPending_20, st_Ev_hasPending_22, st_Ev_hasPending_25, st_Ev_hasPending_28, st_Ev_hasPending_29, st_Ev_hasPending_30, st_Ev_hasPending_33, st_Ev_hasPending_36, st_Ev_hasPending_37, lv_args, mem, ql, o_push, o_iload, o_lload, o_aload, o_istore, o_lstore, o_astore, o_iinc, o_iincW, o_ii, o_iiz, o_i1, o_l1, o_ll, o_li, o_dup, o_pop, o_dupx1, o_dup2, o_goto, o_if, o_icmp, o_acmp, o_ifnull, o_ifnonnull, o_get, o_put, o_iald, o_iast, o_aald, o_aast, o_alen, o_alenZ, o_cast, o_objinit, o_new, o_newi, o_newq, o_newqZ, o_alZ, o_getC, o_iret, o_zret, o_lret, o_aret, o_vret, o_mm, o_st, o_sc, o_br, o_sw, o_ret, o_al, o_call, mx_sw, mx_pop, mx_lk, mx_s1, mx_s2, mx_cat, mx_rr, mx_rv, mx_z01_0, mx_z01_1, mx_vI, mx_vJ, mx_vA, va_rf, List.filter_cons, List.filter_nil, Value.category, List.map_cons, List.map_nil, List.sum_cons, List.sum_nil, reduceCtorEq, ↓reduceIte, if_true, if_false, decide_true, decide_false, Bool.not_true, Bool.not_false, Bool.and_true, Bool.true_and, Bool.and_false, Bool.false_and, beq_self_eq_true, Nat.reduceAdd, Nat.reduceBEq, Nat.reduceEqDiff, Nat.reduceLeDiff, Nat.add_zero, Nat.zero_add, Nat.le_refl, Nat.zero_le, true_and, and_true, Option.toList_some, Option.toList_none, List.cons_append, List.nil_append, and_self, not_false_eq_true, not_true_eq_false, forall_const, imp_self, true_implies, false_implies, i10, i01]
  exact L N 0 (by omega) (fun q' h1 => by omega)
theorem le_fb (a b c d e m : Value) : mx_le [(4, a), (3, b), (2, c), (1, d), (0, e)] [(4, a), (1, d), (5, m), (3, b), (2, c), (0, e)] := by
  intro i v
  simp only [mx_lk]
  by_cases h4 : 4 = i
  · subst h4; exact fun z => z
  · by_cases h3 : 3 = i
    · subst h3; exact fun z => z
    · by_cases h2 : 2 = i
      · subst h2; exact fun z => z
      · by_cases h1 : 1 = i
        · subst h1; exact fun z => z
        · by_cases h0 : 0 = i
          · subst h0; exact fun z => z
          · rw [if_neg h4, if_neg h3, if_neg h2, if_neg h1, if_neg h0]
            exact fun z => by cases z
theorem q_firstByte {zz : Nat × Nat} {h : mx_H} {ad : Nat → Nat → Nat} {s : se_S} {x : xX} (hR : RX zz h ad s x) (hA : GA s) (hd : ∀ f, f < s.1 0 → x.1 1 f = sf_grd (s.2 1 f)) {e : Nat} (he : e < s.1 3) (P : Option Value → mx_H → Prop) (hP : P (some (.int (sf_all s e 3))) h) : S_Ev_firstByteOnBus zz [.ref (ad 10 e)] h P := by
  have h8 := hA.c0
  obtain ⟨N, hN⟩ : ∃ N, N = xn (s.2 15) e := ⟨_, rfl⟩
  have hN3 := xn_23 (s.2 15) e
  rw [← hN] at hN3
  have mem : mx_fld h (ad 10 e) 4 1 = some (.ref (ad 11 e)) := hR.fd (k := 10) (i := e) he rfl 1 rfl
  have qa' : mx_qar h (ad 11 e) = some ("HeaderSchedule$Frame", N, xr ad (s.2 15) e) := by rw [hN]; exact hR.qr (k := 11) (i := e) he rfl
  have ql : mx_len h (ad 11 e) = some N := by rw [hN]; exact hR.ln (k := 11) (i := e) he rfl
  have hall : sf_all s e N = sf_all s e 3 := by
    by_cases e3 : N = 3
    · rw [e3]
    · have : N = 2 := by omega
      rw [this]
      show sf_all s e 2 = sf_all s e (2 + 1)
      conv => rhs; unfold sf_all
      rw [gm_out (r := s.2 15) (g := e) (q := 2) (by omega) (by decide), pend_m1, if_neg (by decide)]
  rw [S_Ev_firstByteOnBus, mx_S_eq (Nat.le_of_ble_eq_true rfl)]
  have L : ∀ d q, q + d = N → mx_G (fun r h c n => P r h ∧ c ≤ 0 ∧ n ≤ 0) (t_Ev_firstByteOnBus zz) 15 [(4, .int (nI q)), (3, .int (nI N)), (2, .ref (ad 11 e)), (1, .int (sf_all s e q)), (0, .ref (ad 10 e))] [] h 0 0 := by
    intro d
    induction d with
    | zero =>
      intro q hq'
      have hq' : q = N := by omega
      subst hq'
      rw [st_Ev_firstByteOnBus_15]
      simp only [st_Ev_firstByteOnBus_0, st_Ev_firstByteOnBus_3, st_Ev_firstByteOnBus_4, st_Ev_firstByteOnBus_5, st_Ev_firstByteOnBus_8, st_Ev_firstByteOnBus_9, st_Ev_firstByteOnBus_10, st_Ev_firstByteOnBus_11, st_Ev_firstByteOnBus_12, st_Ev_firstByteOnBus_13, st_Ev_firstByteOnBus_17, st_Ev_firstByteOnBus_18, st_Ev_firstByteOnBus_21, st_Ev_firstByteOnBus_22, st_Ev_firstByteOnBus_25, st_Ev_firstByteOnBus_27, st_Ev_firstByteOnBus_29, st_Ev_firstByteOnBus_32, st_Ev_firstByteOnBus_35, st_Ev_firstByteOnBus_36, st_Ev_firstByteOnBus_38, st_Ev_firstByteOnBus_41, st_Ev_firstByteOnBus_42, st_Ev_firstByteOnBus_43, st_Ev_firstByteOnBus_46, st_Ev_firstByteOnBus_49, st_Ev_firstByteOnBus_50, o_push, o_iload, o_lload, o_aload, o_istore, o_lstore, o_astore, o_iinc, o_iincW, o_ii, o_iiz, o_i1, o_l1, o_ll, o_li, o_dup, o_pop, o_dupx1, o_dup2, o_goto, o_if, o_icmp, o_acmp, o_ifnull, o_ifnonnull, o_get, o_put, o_iald, o_iast, o_aald, o_aast, o_alen, o_alenZ, o_cast, o_objinit, o_new, o_newi, o_newq, o_newqZ, o_alZ, o_getC, o_iret, o_zret, o_lret, o_aret, o_vret, o_mm, o_st, o_sc, o_br, o_sw, o_ret, o_al, o_call, mx_sw, mx_pop, mx_lk, mx_s1, mx_s2, mx_cat, mx_rr, mx_rv, mx_z01_0, mx_z01_1, mx_vI, mx_vJ, mx_vA, va_rf, List.filter_cons, List.filter_nil, Value.category, List.map_cons, List.map_nil, List.sum_cons, List.sum_nil, reduceCtorEq, ↓reduceIte, if_true, if_false, decide_true, decide_false, Bool.not_true, Bool.not_false, Bool.and_true, Bool.true_and, Bool.and_false, Bool.false_and, beq_self_eq_true, Nat.reduceAdd, Nat.reduceBEq, Nat.reduceEqDiff, Nat.reduceLeDiff, Nat.add_zero, Nat.zero_add, Nat.le_refl, Nat.zero_le, true_and, and_true, Option.toList_some, Option.toList_none, List.cons_append, List.nil_append, and_self, not_false_eq_true, not_true_eq_false, forall_const, imp_self, true_implies, false_implies, i10, i01]
      refine ⟨fun _ => ?_, fun e => absurd (nI_le (Nat.le_refl _) (by omega)) e⟩
      rw [hall]
      exact hP
    | succ d ih =>
      intro q hq'
      have hqN : q < N := by omega
      obtain ⟨f, hf, ef⟩ := gm_at (hA.ge e he) h8 (q := q) (by rw [← hN]; exact hqN)
      have xrq : xr ad (s.2 15) e q = some (ad 6 f) := xr_at (by rw [← hN]; exact hqN) ef (by omega)
      have vq : vp_in (nI q) N = True := eq_true (vp_in_nI hqN (by omega))
      have cq : (nI q).toNatClampNeg = q := nI_clamp (by omega)
      have n7 : mx_fld h (ad 6 f) 1 7 = some (.int (s.2 5 f)) := hR.fd (k := 6) (i := f) hf rfl 7 rfl
      have n1 : mx_fld h (ad 6 f) 1 1 = some (.int (sf_grd (s.2 1 f))) := by rw [← hd f hf]; exact hR.fd (k := 6) (i := f) hf rfl 1 rfl
      have e1 := ih (q + 1) (by omega)
      unfold sf_all at e1
      rw [ef, pend_at (by omega), nI_clamp (by omega)] at e1
      rw [st_Ev_firstByteOnBus_15]
      simp only [st_Ev_firstByteOnBus_0, st_Ev_firstByteOnBus_3, st_Ev_firstByteOnBus_4, st_Ev_firstByteOnBus_5, st_Ev_firstByteOnBus_8, st_Ev_firstByteOnBus_9, st_Ev_firstByteOnBus_10, st_Ev_firstByteOnBus_11, st_Ev_firstByteOnBus_12, st_Ev_firstByteOnBus_13, st_Ev_firstByteOnBus_17, st_Ev_firstByteOnBus_18, st_Ev_firstByteOnBus_21, st_Ev_firstByteOnBus_22, st_Ev_firstByteOnBus_24, st_Ev_firstByteOnBus_25, st_Ev_firstByteOnBus_27, st_Ev_firstByteOnBus_29, st_Ev_firstByteOnBus_32, st_Ev_firstByteOnBus_35, st_Ev_firstByteOnBus_36, st_Ev_firstByteOnBus_38, st_Ev_firstByteOnBus_41, st_Ev_firstByteOnBus_42, st_Ev_firstByteOnBus_43, st_Ev_firstByteOnBus_46, st_Ev_firstByteOnBus_49, st_Ev_firstByteOnBus_50, qa', vq, cq, xrq, n7, n1, nI_1, o_push, o_iload, o_lload, o_aload, o_istore, o_lstore, o_astore, o_iinc, o_iincW, o_ii, o_iiz, o_i1, o_l1, o_ll, o_li, o_dup, o_pop, o_dupx1, o_dup2, o_goto, o_if, o_icmp, o_acmp, o_ifnull, o_ifnonnull, o_get, o_put, o_iald, o_iast, o_aald, o_aast, o_alen, o_alenZ, o_cast, o_objinit, o_new, o_newi, o_newq, o_newqZ, o_alZ, o_getC, o_iret, o_zret, o_lret, o_aret, o_vret, o_mm, o_st, o_sc, o_br, o_sw, o_ret, o_al, o_call, mx_sw, mx_pop, mx_lk, mx_s1, mx_s2, mx_cat, mx_rr, mx_rv, mx_z01_0, mx_z01_1, mx_vI, mx_vJ, mx_vA, va_rf, List.filter_cons, List.filter_nil, Value.category, List.map_cons, List.map_nil, List.sum_cons, List.sum_nil, reduceCtorEq, ↓reduceIte, if_true, if_false, decide_true, decide_false, Bool.not_true, Bool.not_false, Bool.and_true, Bool.true_and, Bool.and_false, Bool.false_and, beq_self_eq_true, Nat.reduceAdd, Nat.reduceBEq, Nat.reduceEqDiff, Nat.reduceLeDiff, Nat.add_zero, Nat.zero_add, Nat.le_refl, Nat.zero_le, true_and, and_true, Option.toList_some, Option.toList_none, List.cons_append, List.nil_append, and_self, not_false_eq_true, not_true_eq_false, forall_const, imp_self, true_implies, false_implies, i10, i01]
      refine ⟨fun e => absurd e (nI_ge hqN (by omega)), fun _ => ⟨fun e => ?_, fun e => ?_⟩⟩
      · rw [if_neg (by rw [bt' e]; decide)] at e1
        exact gx_Ev_firstByteOnBus e1 rfl (by (repeat refine And.intro rfl ?_); exact trivial)
      · rw [if_pos (by rw [bf e]; rfl)] at e1
        refine mx_G_ext (tm_Ev_firstByteOnBus zz) (te_Ev_firstByteOnBus zz) ?_ (le_fb _ _ _ _ _ _) e1
        unfold mx_Nd
        rfl
  simp only [st_Ev_firstByteOnBus_0, st_Ev_firstByteOnBus_3, st_Ev_firstByteOnBus_4, st_Ev_firstByteOnBus_5, st_Ev_firstByteOnBus_8, st_Ev_firstByteOnBus_9, st_Ev_firstByteOnBus_10, st_Ev_firstByteOnBus_11, st_Ev_firstByteOnBus_12, st_Ev_firstByteOnBus_13, st_Ev_firstByteOnBus_17, st_Ev_firstByteOnBus_18, st_Ev_firstByteOnBus_21, st_Ev_firstByteOnBus_22, st_Ev_firstByteOnBus_24, st_Ev_firstByteOnBus_25, st_Ev_firstByteOnBus_27, st_Ev_firstByteOnBus_29, st_Ev_firstByteOnBus_32, st_Ev_firstByteOnBus_35, st_Ev_firstByteOnBus_36, st_Ev_firstByteOnBus_38, st_Ev_firstByteOnBus_41, st_Ev_firstByteOnBus_42, st_Ev_firstByteOnBus_43, st_Ev_firstByteOnBus_46, st_Ev_firstByteOnBus_49, st_Ev_firstByteOnBus_50, lv_args, mem, ql, o_push, o_iload, o_lload, o_aload, o_istore, o_lstore, o_astore, o_iinc, o_iincW, o_ii, o_iiz, o_i1, o_l1, o_ll, o_li, o_dup, o_pop, o_dupx1, o_dup2, o_goto, o_if, o_icmp, o_acmp, o_ifnull, o_ifnonnull, o_get, o_put, o_iald, o_iast, o_aald, o_aast, o_alen, o_alenZ, o_cast, o_objinit, o_new, o_newi, o_newq, o_newqZ, o_alZ, o_getC, o_iret, o_zret, o_lret, o_aret, o_vret, o_mm, o_st, o_sc, o_br, o_sw, o_ret, o_al, o_call, mx_sw, mx_pop, mx_lk, mx_s1, mx_s2, mx_cat, mx_rr, mx_rv, mx_z01_0, mx_z01_1, mx_vI, mx_vJ, mx_vA, va_rf, List.filter_cons, List.filter_nil, Value.category, List.map_cons, List.map_nil, List.sum_cons, List.sum_nil, reduceCtorEq, ↓reduceIte, if_true, if_false, decide_true, decide_false, Bool.not_true, Bool.not_false, Bool.and_true, Bool.true_and, Bool.and_false, Bool.false_and, beq_self_eq_true, Nat.reduceAdd, Nat.reduceBEq, Nat.reduceEqDiff, Nat.reduceLeDiff, Nat.add_zero, Nat.zero_add, Nat.le_refl, Nat.zero_le, true_and, and_true, Option.toList_some, Option.toList_none, List.cons_append, List.nil_append, and_self, not_false_eq_true, not_true_eq_false, forall_const, imp_self, true_implies, false_implies, i10, i01]
  exact L N 0 (by omega)
