theorem iX_of {s : se_S} (h : GA s) : iX s := ⟨h.c0, h.c1, h.c2, h.c3, h.c4, fun j hj => by
  obtain ⟨f, _, _, _, hf, _, _, e, _⟩ := h.sg j hj
  exact ⟨f, hf, e⟩, h.gg, h.ge⟩
theorem sv_of {s : se_S} (h : GA s) : sv s := ⟨h.c0, h.c1, h.ln, h.sg⟩
theorem p6_of {s : se_S} (h : GA s) : ∀ f, f < s.1 0 → ¬ 0 < s.2 6 f → s.2 6 f = 0 := fun f _ hn => by
  obtain ⟨k, hk, e⟩ := h.pt f
  rw [e] at hn ⊢
  by_cases h0 : k = 0
  · rw [h0]; rfl
  · exact absurd (by rw [← nI_0]; exact nI_lt (by omega) (by omega)) hn
theorem ev_gh {zz : Nat × Nat} {h : mx_H} {ad : Nat → Nat → Nat} {s : se_S} {x : xX} (id a b c t : Int32) (hR : RX zz h ad (va_up s.1 3 (s.1 3 + 1), r3 (up2 s.2 16 (s.1 3) t) 15 (s.1 3) a b c) x) : RX zz h ad (va_up s.1 3 (s.1 3 + 1), evI s id a b c t) x := by
  refine hR.gh rfl (fun j _ _ _ => ?_) (fun q h0 h1 h6 h10 h14 => ?_)
  · show evI s id a b c t 0 j = r3 (up2 s.2 16 (s.1 3) t) 15 (s.1 3) a b c 0 j
    rw [evI_row s id a b c t 0 (by decide) (by decide) (by decide) (by decide)]
    unfold r3
    rw [up2_k _ _ (show (0 : Nat) ≠ 15 by decide), up2_k _ _ (show (0 : Nat) ≠ 15 by decide), up2_k _ _ (show (0 : Nat) ≠ 15 by decide), up2_k _ _ (show (0 : Nat) ≠ 16 by decide)]
  · show evI s id a b c t q = r3 (up2 s.2 16 (s.1 3) t) 15 (s.1 3) a b c q
    by_cases h15 : q = 15
    · subst h15
      rw [evI_15]
      unfold r3
      simp only [up2_row, up2_k _ _ (show (15 : Nat) ≠ 16 by decide)]
    · unfold r3
      rw [up2_k _ _ h15, up2_k _ _ h15, up2_k _ _ h15]
      by_cases h16 : q = 16
      · subst h16
        exact evI_16 s id a b c t
      · rw [evI_row s id a b c t q h6 h14 h15 h16, up2_k _ _ h16]
theorem c_event {zz : Nat × Nat} {h : mx_H} {ad : Nat → Nat → Nat} {s : se_S} {x : xX} (hR : RX zz h ad s x) (hG : GI s) (hJ : JX s x) (id a b c t : Int32) (P : Option Value → mx_H → Prop) (hP : ∀ (h' : mx_H) (ad' : Nat → Nat → Nat) (x' : xX), ad' 0 0 = ad 0 0 → RX zz h' ad' (se_event s id a b c t).2 x' → JX (se_event s id a b c t).2 x' → P (some (.int (se_event s id a b c t).1)) h') : S_Hs_event zz [.ref (ad 0 0), .int id, .int a, .int b, .int c, .int t] h P := by
  have c0 := hG.a.c0
  have c3 := hG.a.c3
  have hfree := q_isAssoc hR hJ.tk (p6_of hG.a)
  have rej : ∀ h', RX zz h' ad s x → evC s id a b c t = false → P (some (.int (-1))) h' := fun h' hR' hc => by
    rw [se_event_f hc] at hP
    exact hP h' ad x rfl hR' hJ
  rw [S_Hs_event, mx_S_eq (Nat.le_of_ble_eq_true rfl)]
  simp only [st_Hs_event_0, st_Hs_event_1, st_Hs_event_4, st_Hs_event_7, st_Hs_event_8, st_Hs_event_11, st_Hs_event_14, st_Hs_event_15, st_Hs_event_18, st_Hs_event_19, st_Hs_event_20, st_Hs_event_23, st_Hs_event_26, st_Hs_event_28, st_Hs_event_31, st_Hs_event_34, st_Hs_event_35, st_Hs_event_36, st_Hs_event_37, st_Hs_event_38, st_Hs_event_41, st_Hs_event_44, st_Hs_event_45, st_Hs_event_46, st_Hs_event_49, st_Hs_event_52, st_Hs_event_54, st_Hs_event_55, st_Hs_event_58, st_Hs_event_59, st_Hs_event_61, st_Hs_event_64, st_Hs_event_67, st_Hs_event_68, st_Hs_event_70, st_Hs_event_71, st_Hs_event_72, st_Hs_event_74, st_Hs_event_77, st_Hs_event_79, st_Hs_event_81, st_Hs_event_84, st_Hs_event_87, st_Hs_event_88, st_Hs_event_89, st_Hs_event_91, st_Hs_event_93, st_Hs_event_95, st_Hs_event_96, st_Hs_event_98, st_Hs_event_99, st_Hs_event_101, st_Hs_event_103, st_Hs_event_105, st_Hs_event_108, st_Hs_event_110, st_Hs_event_112, st_Hs_event_113, st_Hs_event_115, st_Hs_event_117, st_Hs_event_120, st_Hs_event_123, st_Hs_event_126, st_Hs_event_127, st_Hs_event_130, st_Hs_event_133, st_Hs_event_134, st_Hs_event_135, st_Hs_event_138, st_Hs_event_140, st_Hs_event_142, st_Hs_event_145, st_Hs_event_148, st_Hs_event_149, st_Hs_event_150, st_Hs_event_153, st_Hs_event_154, st_Hs_event_156, st_Hs_event_157, st_Hs_event_160, st_Hs_event_163, st_Hs_event_164, st_Hs_event_165, lv_args, hR.fd (k := 0) (i := 0) rfl rfl 0 rfl, hR.fd (k := 0) (i := 0) rfl rfl 1 rfl, hR.fd (k := 0) (i := 0) rfl rfl 2 rfl, hR.fd (k := 0) (i := 0) rfl rfl 3 rfl, hR.fd (k := 0) (i := 0) rfl rfl 4 rfl, hR.fd (k := 0) (i := 0) rfl rfl 5 rfl, hR.fd (k := 0) (i := 0) rfl rfl 6 rfl, hR.fd (k := 0) (i := 0) rfl rfl 7 rfl, hR.fd (k := 0) (i := 0) rfl rfl 8 rfl, hR.fd (k := 0) (i := 0) rfl rfl 9 rfl, hR.fd (k := 0) (i := 0) rfl rfl 10 rfl, hR.size 0 (by decide), hR.size 1 (by decide), hR.size 2 (by decide), hR.size 3 (by decide), hR.size 4 (by decide), hR.size 5 (by decide), hR.size 6 (by decide), hR.ir (k := 3) (i := 0) (show 0 < 3 by decide) rfl, hR.ir (k := 3) (i := 1) (show 1 < 3 by decide) rfl, hR.ir (k := 3) (i := 2) (show 2 < 3 by decide) rfl, hR.il (k := 3) (i := 2) (show 2 < 3 by decide) rfl, hR.fd (k := 4) (i := 0) (show 0 < 3 by decide) rfl 0 rfl, hR.fd (k := 4) (i := 0) (show 0 < 3 by decide) rfl 1 rfl, hR.fd (k := 4) (i := 0) (show 0 < 3 by decide) rfl 2 rfl, hR.fd (k := 4) (i := 0) (show 0 < 3 by decide) rfl 3 rfl, hR.fd (k := 4) (i := 0) (show 0 < 3 by decide) rfl 4 rfl, hR.fd (k := 4) (i := 0) (show 0 < 3 by decide) rfl 5 rfl, hR.fd (k := 4) (i := 0) (show 0 < 3 by decide) rfl 6 rfl, hR.fd (k := 4) (i := 0) (show 0 < 3 by decide) rfl 7 rfl, hR.fd (k := 4) (i := 1) (show 1 < 3 by decide) rfl 0 rfl, hR.fd (k := 4) (i := 1) (show 1 < 3 by decide) rfl 1 rfl, hR.fd (k := 4) (i := 1) (show 1 < 3 by decide) rfl 2 rfl, hR.fd (k := 4) (i := 1) (show 1 < 3 by decide) rfl 3 rfl, hR.cl (k := 0) (i := 0) rfl rfl, hR.cl (k := 4) (i := 0) (show 0 < 3 by decide) rfl, hR.cl (k := 4) (i := 1) (show 1 < 3 by decide) rfl, hR.cl (k := 1) (i := 0) (show 0 < 7 by decide) rfl, hR.cl (k := 1) (i := 1) (show 1 < 7 by decide) rfl, hR.cl (k := 1) (i := 2) (show 2 < 7 by decide) rfl, hR.cl (k := 1) (i := 3) (show 3 < 7 by decide) rfl, hR.cl (k := 1) (i := 4) (show 4 < 7 by decide) rfl, hR.cl (k := 1) (i := 5) (show 5 < 7 by decide) rfl, hR.cl (k := 1) (i := 6) (show 6 < 7 by decide) rfl, hR.qr (k := 4) (i := 2) (show 2 < 3 by decide) rfl, (q_isFree hR hJ.bo id), q_Hs_isTable, hfree, o_push, o_iload, o_lload, o_aload, o_istore, o_lstore, o_astore, o_iinc, o_iincW, o_ii, o_iiz, o_i1, o_l1, o_ll, o_li, o_dup, o_pop, o_dupx1, o_dup2, o_goto, o_if, o_icmp, o_acmp, o_ifnull, o_ifnonnull, o_get, o_put, o_iald, o_iast, o_aald, o_aast, o_alen, o_alenZ, o_cast, o_objinit, o_new, o_newi, o_newq, o_newqZ, o_alZ, o_getC, o_iret, o_zret, o_lret, o_aret, o_vret, o_mm, o_st, o_sc, o_br, o_sw, o_ret, o_al, o_call, mx_sw, mx_pop, mx_lk, mx_s1, mx_s2, mx_cat, mx_rr, mx_rv, mx_z01_0, mx_z01_1, mx_vI, mx_vJ, mx_vA, va_rf, List.filter_cons, List.filter_nil, Value.category, List.map_cons, List.map_nil, List.sum_cons, List.sum_nil, reduceCtorEq, ↓reduceIte, if_true, if_false, decide_true, decide_false, Bool.not_true, Bool.not_false, Bool.and_true, Bool.true_and, Bool.and_false, Bool.false_and, beq_self_eq_true, Nat.reduceAdd, Nat.reduceBEq, Nat.reduceEqDiff, Nat.reduceLeDiff, Nat.add_zero, Nat.zero_add, Nat.le_refl, Nat.zero_le, true_and, and_true, Option.toList_some, Option.toList_none, List.cons_append, List.nil_append, and_self, not_false_eq_true, not_true_eq_false, forall_const, imp_self, true_implies, false_implies, i10, i01]
  have K : (c = -1 ∨ se_free s c = true) → se_free s a = true → se_free s b = true → s.2 0 0 = 0 → ¬ s.1 3 = 2 → se_wi id 0 59 = true → se_tk s id = false → se_wi t 0 2 = true → mx_G (fun r h c n => P r h ∧ c ≤ 5 ∧ n ≤ 136) (t_Hs_event zz) 69 [(0, .ref (ad 0 0)), (1, .int id), (2, .int a), (3, .int b), (4, .int c), (5, .int t)] [] h 0 0 := by
    intro hc ha hb h0 h3 h59 htk ht
    obtain ⟨i, _, hi, ei⟩ := se_wi_c (a := 0) (b := 59) h59 rfl rfl (by decide) (by decide)
    obtain ⟨a0, ha0, ea, _⟩ := free_nI hG.a ha
    obtain ⟨b0, hb0, eb, _⟩ := free_nI hG.a hb
    have hev : ∀ r : Bool, ((c = -1 → r = se_fit s a b) ∧ (¬ c = -1 → r = (se_fit s a b && se_fit s a c && se_fit s b c))) → evC s id a b c t = r := fun r hr => by
      unfold evC
      rw [bt' h0, nf h3, h59, htk, ht, ha, hb]
      rcases hc with z | z
      · rw [hr.1 z, bt' z]
        cases se_fit s a b <;> rfl
      · by_cases zc : c = -1
        · rw [hr.1 zc, bt' zc]
          cases se_fit s a b <;> rfl
        · rw [hr.2 zc, bf zc, z]
          cases se_fit s a b <;> cases se_fit s a c <;> cases se_fit s b c <;> rfl
    subst ei ea eb
    by_cases zc : c = -1
    · subst zc
      refine ev_main2 hR (iX_of hG.a) (by omega) ha0 hb0 (by omega) t P (fun h' hR' e => rej h' hR' (hev false ⟨fun _ => e.symm, fun z => absurd rfl z⟩)) (fun e h' ad' L x' ead ex' hR' => ?_)
      have hc : evC s (nI i) (nI a0) (nI b0) (-1) t = true := hev true ⟨fun _ => e.symm, fun z => absurd rfl z⟩
      obtain ⟨i', a0', b0', t0, F⟩ := evF_of hG hc
      have e1 : i' = i := by have := F.ei; have := F.hi; exact ((nI_eq (by omega) (by omega)).mp F.ei).symm
      have e2 : a0' = a0 := by have := F.ha; exact ((nI_eq (by omega) (by omega)).mp F.ea).symm
      have e3 : b0' = b0 := by have := F.hb; exact ((nI_eq (by omega) (by omega)).mp F.eb).symm
      subst e1 e2 e3
      rw [se_event_t hc] at hP
      refine hP h' ad' x' ead (ev_gh (nI i') _ _ _ _ hR') ?_
      rw [ex']
      exact JX_event2 hG hJ F
    · obtain ⟨d0, hd0, ed, _⟩ := free_nI hG.a (hc.resolve_left zc)
      subst ed
      refine ev_main3 hR (iX_of hG.a) (by omega) ha0 hb0 hd0 (by omega) t P (fun h' hR' e => rej h' hR' (hev false ⟨fun z => absurd z zc, fun _ => e.symm⟩)) (fun e h' ad' L x' ead ex' hR' => ?_)
      have hc : evC s (nI i) (nI a0) (nI b0) (nI d0) t = true := hev true ⟨fun z => absurd z zc, fun _ => e.symm⟩
      obtain ⟨i', a0', b0', t0, F⟩ := evF_of hG hc
      have e1 : i' = i := by have := F.ei; have := F.hi; exact ((nI_eq (by omega) (by omega)).mp F.ei).symm
      have e2 : a0' = a0 := by have := F.ha; exact ((nI_eq (by omega) (by omega)).mp F.ea).symm
      have e3 : b0' = b0 := by have := F.hb; exact ((nI_eq (by omega) (by omega)).mp F.eb).symm
      subst e1 e2 e3
      rw [se_event_t hc] at hP
      refine hP h' ad' x' ead (ev_gh (nI i') _ _ _ _ hR') ?_
      rw [ex']
      exact JX_event3 hG hJ hd0 F
  have hrj : evC s id a b c t = false → P (some (.int (-1))) h := rej h hR
  refine ⟨fun e => hrj (by unfold evC; rw [bf e]; rfl), fun e => ⟨fun e2 => hrj ?_, fun e2 => ⟨fun e3 => hrj ?_, fun e3 => ⟨fun e4 => ⟨fun e5 => hrj ?_, fun e5 => ⟨fun e6 => hrj ?_, fun e6 => ⟨fun e7 => ?_, fun e7 => ⟨fun e8 => ?_, fun e8 => hrj ?_⟩⟩⟩⟩, fun e4 => hrj ?_⟩⟩⟩⟩
  · rw [nI_2, nI_leI (by decide) (by omega)] at e2
    unfold evC
    rw [show (s.1 3 == 2) = true by simp; omega]
    simp
  · have e3 := zb e3
    unfold evC
    rw [Bool.and_eq_false_iff] at e3
    rcases e3 with z | z
    · rw [z]; simp
    · rw [Bool.not_eq_false'] at z
      rw [z]; simp
  · unfold evC; rw [zb e5]; simp
  · unfold evC; rw [zb e6]; simp
  · have e3 := nb e3
    rw [Bool.and_eq_true, Bool.not_eq_true'] at e3
    exact K (Or.inl e7) (nb e5) (nb e6) (Classical.not_not.mp e) (fun z => e2 (by rw [z, nI_2]; exact nI_le (Nat.le_refl _) (by decide))) e3.1 e3.2 (nb e4)
  · have e3 := nb e3
    rw [Bool.and_eq_true, Bool.not_eq_true'] at e3
    exact K (Or.inr (nb e8)) (nb e5) (nb e6) (Classical.not_not.mp e) (fun z => e2 (by rw [z, nI_2]; exact nI_le (Nat.le_refl _) (by decide))) e3.1 e3.2 (nb e4)
  · unfold evC; rw [zb (Classical.not_not.mp e8), bf e7]; simp
  · unfold evC; rw [zb (Classical.not_not.mp e4)]; simp
