def xmod (x : xX) (i L : Nat) : xX := (up2 x.1 0 i (x.1 0 i + 1), x.2.1, va_up x.2.2 i L)
theorem xmod_c3 (x : xX) (i L : Nat) : ∀ j, (xmod x i L).1 0 j = if j = i then x.1 0 i + 1 else x.1 0 j := fun j => by
  show up2 x.1 0 i (x.1 0 i + 1) 0 j = _
  by_cases hj : j = i
  · rw [hj, up2_self, if_pos rfl]
  · rw [up2_ne _ _ (fun w => hj w.2), if_neg hj]
theorem RX.entry {zz : Nat × Nat} {h h' : mx_H} {ad : Nat → Nat → Nat} {s : se_S} {x : xX} (r : RX zz h ad s x) (hI : iX s) {t : Nat} (ht : t < 3) (h8 : s.1 (4 + t) < 8) {q b L : Nat} {kind num d : Int32} (hq : h q = none) (hb : (b = ad 2 (4 + t) ∧ L = x.2.2 (4 + t) ∧ 0 < x.2.2 (4 + t)) ∨ va_up h q (some (.inr (5, [.int kind, .int num, .int d]))) b = none) (hz : b ≠ zz.1) (hL : s.1 (4 + t) < L) (hL2 : L ≤ 24) (hoff : ∀ y, y ≠ ad 1 (4 + t) → y ≠ b → h' y = va_up h q (some (.inr (5, [.int kind, .int num, .int d]))) y) (ha : h' (ad 1 (4 + t)) = some (.inr (9, [.int (x.1 0 (4 + t) + 1), .ref b, .int (nI (s.1 (4 + t) + 1))]))) (hb' : h' b = some (qa "java/lang/Object" L (va_up (xg ad (s.1 (4 + t)) (4 + t)) (s.1 (4 + t)) (some q)))) : RX zz h' (up2 (up2 ad 12 (8 * t + s.1 (4 + t)) q) 2 (4 + t) b) (va_up s.1 (4 + t) (s.1 (4 + t) + 1), up2 (up2 (up2 s.2 17 (8 * t + s.1 (4 + t)) kind) 18 (8 * t + s.1 (4 + t)) num) 19 (8 * t + s.1 (4 + t)) d) (xmod x (4 + t) L) := by
  obtain ⟨i0, i1, i2, i3, i4, i5, i6, i7⟩ := hI
  have hn : ¬ lvX s x 12 (8 * t + s.1 (4 + t)) := fun ⟨t', p, z1, z2, z3⟩ => by
    have := i4 t' z1
    have e : t' = t := by omega
    subst e
    omega
  have ek : xk (4 + t) = 12 := by
    unfold xk
    rw [if_neg (by omega), if_neg (by omega), if_neg (by omega), if_neg (by omega)]
  have eb : xb (4 + t) = 8 * t := by unfold xb; omega
  have r1 := rp_new r.1 (k := 12) (i := 8 * t + s.1 (4 + t)) hq hn (.inr (5, [.int kind, .int num, .int d]))
  have cj : ∀ j, j ≠ 4 + t → va_up s.1 (4 + t) (s.1 (4 + t) + 1) j = s.1 j := fun j hj => va_up_ne _ _ hj
  refine r.add r1 (fun k j z => Or.inl z) (fun k j z => up2_ne _ _ (fun w => hn (by rw [← w.1, ← w.2]; exact z))) (fun k j hk z => up2_ne _ _ (fun w => by omega)) (i := 4 + t) (by omega) (by rw [ek, eb, up2_self]) hb hz hL hL2 hoff ha hb' rfl rfl (xmod_c3 x (4 + t) L) ?_ ?_
  · intro k j k1 k2 z
    match k, k1, k2, z with
    | 0, _, _, z => exact Or.inl z
    | 1, k1, _, _ => exact absurd rfl k1
    | 2, _, k2, _ => exact absurd rfl k2
    | 3, _, _, z => exact Or.inl z
    | 4, _, _, z => exact Or.inl z
    | 5, _, _, z => exact Or.inl z
    | 6, _, _, z => exact Or.inl (show j < s.1 0 by have z : j < va_up s.1 (4 + t) (s.1 (4 + t) + 1) 0 := z; rw [cj 0 (by omega)] at z; exact z)
    | 7, _, _, z => exact Or.inl (show j < s.1 1 by have z : j < va_up s.1 (4 + t) (s.1 (4 + t) + 1) 1 := z; rw [cj 1 (by omega)] at z; exact z)
    | 8, _, _, z => exact Or.inl (show j < s.1 2 by have z : j < va_up s.1 (4 + t) (s.1 (4 + t) + 1) 2 := z; rw [cj 2 (by omega)] at z; exact z)
    | 9, _, _, z => exact Or.inl (show j < s.1 2 by have z : j < va_up s.1 (4 + t) (s.1 (4 + t) + 1) 2 := z; rw [cj 2 (by omega)] at z; exact z)
    | 10, _, _, z => exact Or.inl (show j < s.1 3 by have z : j < va_up s.1 (4 + t) (s.1 (4 + t) + 1) 3 := z; rw [cj 3 (by omega)] at z; exact z)
    | 11, _, _, z => exact Or.inl (show j < s.1 3 by have z : j < va_up s.1 (4 + t) (s.1 (4 + t) + 1) 3 := z; rw [cj 3 (by omega)] at z; exact z)
    | 12, _, _, z =>
      obtain ⟨t', p, h1, h2, h3⟩ := z
      have h2 : p < va_up s.1 (4 + t) (s.1 (4 + t) + 1) (4 + t') := h2
      by_cases ht' : t' = t
      · rw [ht', va_up_self] at h2
        by_cases hp : p = s.1 (4 + t)
        · exact Or.inr ⟨rfl, by rw [h3, hp, ht']⟩
        · exact Or.inl ⟨t, p, ht, by omega, by rw [h3, ht']⟩
      · rw [va_up_ne _ _ (by omega)] at h2
        exact Or.inl ⟨t', p, h1, h2, h3⟩
    | k + 13, _, _, z => exact z.elim
  · intro k j k1 k2 z
    match k, k1, k2, z with
    | 0, _, _, z => rfl
    | 1, k1, _, _ => exact absurd rfl k1
    | 2, _, k2, _ => exact absurd rfl k2
    | 3, _, _, z =>
      match j with
      | 0 => rfl
      | 1 => rfl
      | j + 2 => rfl
    | 4, _, _, z =>
      match j with
      | 0 => rfl
      | 1 => rfl
      | j + 2 => rfl
    | 5, _, _, z => rfl
    | 6, _, _, z => rfl
    | 7, _, _, z => rfl
    | 8, _, _, z => rfl
    | 9, _, _, z => rfl
    | 10, _, _, z => rfl
    | 11, _, _, z => rfl
    | 12, _, _, z =>
      show (Sum.inr (5, [.int (up2 (up2 (up2 s.2 17 (8 * t + s.1 (4 + t)) kind) 18 (8 * t + s.1 (4 + t)) num) 19 (8 * t + s.1 (4 + t)) d 17 j), .int (up2 (up2 (up2 s.2 17 (8 * t + s.1 (4 + t)) kind) 18 (8 * t + s.1 (4 + t)) num) 19 (8 * t + s.1 (4 + t)) d 18 j), .int (up2 (up2 (up2 s.2 17 (8 * t + s.1 (4 + t)) kind) 18 (8 * t + s.1 (4 + t)) num) 19 (8 * t + s.1 (4 + t)) d 19 j)]) : mx_E) = _
      by_cases hj : j = 8 * t + s.1 (4 + t)
      · rw [hj]
        simp only [up2_self, up2_k _ _ (show (17 : Nat) ≠ 19 by decide), up2_k _ _ (show (17 : Nat) ≠ 18 by decide), up2_k _ _ (show (18 : Nat) ≠ 19 by decide)]
      · have e : ∀ {α : Type} (F : Nat → Nat → α) (a c : Nat) (v : α), up2 F a (8 * t + s.1 (4 + t)) v c j = F c j := fun F a c v => up2_ne _ _ (fun w => hj w.2)
        rw [up2_ne _ _ (fun w => hj w.2)]
        simp only [e]
        rfl
    | k + 13, _, _, z => exact z.elim
theorem q_howMany {zz : Nat × Nat} {h : mx_H} {ad : Nat → Nat → Nat} {s : se_S} {x : xX} (hR : RX zz h ad s x) (kind : Int32) (P : Option Value → mx_H → Prop) : S_Hs_howManyOf zz [.ref (ad 0 0), .int kind] h P = P (some (.int (if kind = 0 then nI (s.1 0) else if kind = 1 then nI (s.1 2) else if kind = 2 then nI (s.1 3) else 0))) h := by
  rw [S_Hs_howManyOf, mx_S_eq (Nat.le_of_ble_eq_true rfl)]
  simp only [st_Hs_howManyOf_0, st_Hs_howManyOf_1, st_Hs_howManyOf_28, st_Hs_howManyOf_29, st_Hs_howManyOf_32, st_Hs_howManyOf_35, st_Hs_howManyOf_36, st_Hs_howManyOf_37, st_Hs_howManyOf_40, st_Hs_howManyOf_43, st_Hs_howManyOf_44, st_Hs_howManyOf_45, st_Hs_howManyOf_48, st_Hs_howManyOf_51, st_Hs_howManyOf_52, st_Hs_howManyOf_53, lv_args, hR.fd (k := 0) (i := 0) rfl rfl 0 rfl, hR.fd (k := 0) (i := 0) rfl rfl 1 rfl, hR.fd (k := 0) (i := 0) rfl rfl 2 rfl, hR.fd (k := 0) (i := 0) rfl rfl 3 rfl, hR.fd (k := 0) (i := 0) rfl rfl 4 rfl, hR.fd (k := 0) (i := 0) rfl rfl 5 rfl, hR.fd (k := 0) (i := 0) rfl rfl 6 rfl, hR.fd (k := 0) (i := 0) rfl rfl 7 rfl, hR.fd (k := 0) (i := 0) rfl rfl 8 rfl, hR.fd (k := 0) (i := 0) rfl rfl 9 rfl, hR.fd (k := 0) (i := 0) rfl rfl 10 rfl, hR.size 0 (by decide), hR.size 1 (by decide), hR.size 2 (by decide), hR.size 3 (by decide), hR.size 4 (by decide), hR.size 5 (by decide), hR.size 6 (by decide), hR.ir (k := 3) (i := 0) (show 0 < 3 by decide) rfl, hR.ir (k := 3) (i := 1) (show 1 < 3 by decide) rfl, hR.ir (k := 3) (i := 2) (show 2 < 3 by decide) rfl, hR.il (k := 3) (i := 2) (show 2 < 3 by decide) rfl, hR.fd (k := 4) (i := 0) (show 0 < 3 by decide) rfl 0 rfl, hR.fd (k := 4) (i := 0) (show 0 < 3 by decide) rfl 1 rfl, hR.fd (k := 4) (i := 0) (show 0 < 3 by decide) rfl 2 rfl, hR.fd (k := 4) (i := 0) (show 0 < 3 by decide) rfl 3 rfl, hR.fd (k := 4) (i := 0) (show 0 < 3 by decide) rfl 4 rfl, hR.fd (k := 4) (i := 0) (show 0 < 3 by decide) rfl 5 rfl, hR.fd (k := 4) (i := 0) (show 0 < 3 by decide) rfl 6 rfl, hR.fd (k := 4) (i := 0) (show 0 < 3 by decide) rfl 7 rfl, hR.fd (k := 4) (i := 1) (show 1 < 3 by decide) rfl 0 rfl, hR.fd (k := 4) (i := 1) (show 1 < 3 by decide) rfl 1 rfl, hR.fd (k := 4) (i := 1) (show 1 < 3 by decide) rfl 2 rfl, hR.fd (k := 4) (i := 1) (show 1 < 3 by decide) rfl 3 rfl, hR.cl (k := 0) (i := 0) rfl rfl, hR.cl (k := 4) (i := 0) (show 0 < 3 by decide) rfl, hR.cl (k := 4) (i := 1) (show 1 < 3 by decide) rfl, hR.cl (k := 1) (i := 0) (show 0 < 7 by decide) rfl, hR.cl (k := 1) (i := 1) (show 1 < 7 by decide) rfl, hR.cl (k := 1) (i := 2) (show 2 < 7 by decide) rfl, hR.cl (k := 1) (i := 3) (show 3 < 7 by decide) rfl, hR.cl (k := 1) (i := 4) (show 4 < 7 by decide) rfl, hR.cl (k := 1) (i := 5) (show 5 < 7 by decide) rfl, hR.cl (k := 1) (i := 6) (show 6 < 7 by decide) rfl, hR.qr (k := 4) (i := 2) (show 2 < 3 by decide) rfl, o_push, o_iload, o_lload, o_aload, o_istore, o_lstore, o_astore, o_iinc, o_iincW, o_ii, o_iiz, o_i1, o_l1, o_ll, o_li, o_dup, o_pop, o_dupx1, o_dup2, o_goto, o_if, o_icmp, o_acmp, o_ifnull, o_ifnonnull, o_get, o_put, o_iald, o_iast, o_aald, o_aast, o_alen, o_alenZ, o_cast, o_objinit, o_new, o_newi, o_newq, o_newqZ, o_alZ, o_getC, o_iret, o_zret, o_lret, o_aret, o_vret, o_mm, o_st, o_sc, o_br, o_sw, o_ret, o_al, o_call, mx_sw, mx_pop, mx_lk, mx_s1, mx_s2, mx_cat, mx_rr, mx_rv, mx_z01_0, mx_z01_1, mx_vI, mx_vJ, mx_vA, va_rf, List.filter_cons, List.filter_nil, Value.category, List.map_cons, List.map_nil, List.sum_cons, List.sum_nil, reduceCtorEq, ↓reduceIte, if_true, if_false, decide_true, decide_false, Bool.not_true, Bool.not_false, Bool.and_true, Bool.true_and, Bool.and_false, Bool.false_and, beq_self_eq_true, Nat.reduceAdd, Nat.reduceBEq, Nat.reduceEqDiff, Nat.reduceLeDiff, Nat.add_zero, Nat.zero_add, Nat.le_refl, Nat.zero_le, true_and, and_true, Option.toList_some, Option.toList_none, List.cons_append, List.nil_append, and_self, not_false_eq_true, not_true_eq_false, forall_const, imp_self, true_implies, false_implies, i10, i01]
  by_cases k0 : kind = 0
  · simp [k0]
  · by_cases k1 : kind = 1
    · simp [k1]
    · by_cases k2 : kind = 2
      · simp [k2]
      · simp [k0, k1, k2]
theorem se_wi_neg (v : Int32) : se_wi v 0 (0 - 1) = false := by
  cases e : se_wi v 0 (0 - 1) with
  | false => rfl
  | true =>
    unfold se_wi at e
    simp only [Bool.and_eq_true, Bool.not_eq_true', decide_eq_false_iff_not] at e
    exfalso
    have h1 := Int32.not_lt.mp e.1
    have h2 := Int32.not_lt.mp e.2
    exact absurd (Int32.le_trans h1 h2) (by decide)
theorem se_kind {k : Int32} (h0 : ¬ k = 0) (h1 : ¬ k = 1) (h2 : ¬ k = 2) : se_wi k 0 2 = false := by
  cases e : se_wi k 0 2 with
  | false => rfl
  | true =>
    obtain ⟨j, _, hj, rfl⟩ := se_wi_c (a := 0) (b := 2) e rfl rfl (by decide) (by decide)
    exfalso
    match j, hj with
    | 0, _ => exact h0 rfl
    | 1, _ => exact h1 rfl
    | 2, _ => exact h2 rfl
theorem q_Hs_entry {zz : Nat × Nat} {h : mx_H} {ad : Nat → Nat → Nat} {s : se_S} {x : xX} (hR : RX zz h ad s x) (hI : iX s) (t kind num d : Int32) (P : Option Value → mx_H → Prop) (hrej : se_entry s t kind num d = (0, s) → P (some (.int 0)) h) (hacc : ∀ (h' : mx_H) (ad' : Nat → Nat → Nat) (x' : xX), ad' 0 0 = ad 0 0 → (∃ i L, x' = xmod x i L) → (∃ t0, t0 < 3 ∧ t = nI t0 ∧ s.1 (4 + t0) < 8 ∧ se_wi kind 0 2 = true ∧ se_wi d 1 20 = true ∧ s.2 0 0 = 0 ∧ se_wi num 0 (nI (s.1 (if kind == 0 then 0 else if kind == 1 then 2 else 3)) - 1) = true) → (se_entry s t kind num d).1 = 1 → RX zz h' ad' (se_entry s t kind num d).2 x' → P (some (.int 1)) h') : S_Hs_entry zz [.ref (ad 0 0), .int t, .int kind, .int num, .int d] h P := by
  rw [S_Hs_entry, mx_S_eq (Nat.le_of_ble_eq_true rfl)]
  have rej : (!(s.2 0 0 == 0) || !se_wi t 0 2 || s.1 (4 + t.toNatClampNeg) == 8 || !se_wi kind 0 2 || !se_wi d 1 20) = true → P (some (.int 0)) h := fun e => hrej (by unfold se_entry; rw [if_pos e])
  have rej2 : (se_wi num 0 (nI (s.1 (if kind == 0 then 0 else if kind == 1 then 2 else 3)) - 1)) = false → P (some (.int 0)) h := fun e => hrej (by
    unfold se_entry
    rw [e]
    split <;> rfl)
  simp only [st_Hs_entry_0, st_Hs_entry_1, st_Hs_entry_4, st_Hs_entry_7, st_Hs_entry_8, st_Hs_entry_11, st_Hs_entry_14, st_Hs_entry_15, st_Hs_entry_18, st_Hs_entry_22, st_Hs_entry_24, st_Hs_entry_27, st_Hs_entry_28, st_Hs_entry_29, st_Hs_entry_30, st_Hs_entry_31, st_Hs_entry_32, st_Hs_entry_33, st_Hs_entry_36, st_Hs_entry_37, st_Hs_entry_38, st_Hs_entry_41, st_Hs_entry_44, st_Hs_entry_46, st_Hs_entry_47, st_Hs_entry_49, st_Hs_entry_52, st_Hs_entry_55, st_Hs_entry_56, st_Hs_entry_57, st_Hs_entry_58, st_Hs_entry_61, st_Hs_entry_64, st_Hs_entry_65, st_Hs_entry_66, st_Hs_entry_72, st_Hs_entry_73, st_Hs_entry_74, st_Hs_entry_75, st_Hs_entry_77, st_Hs_entry_80, st_Hs_entry_83, st_Hs_entry_84, st_Hs_entry_85, lv_args, hR.fd (k := 0) (i := 0) rfl rfl 0 rfl, hR.fd (k := 0) (i := 0) rfl rfl 1 rfl, hR.fd (k := 0) (i := 0) rfl rfl 2 rfl, hR.fd (k := 0) (i := 0) rfl rfl 3 rfl, hR.fd (k := 0) (i := 0) rfl rfl 4 rfl, hR.fd (k := 0) (i := 0) rfl rfl 5 rfl, hR.fd (k := 0) (i := 0) rfl rfl 6 rfl, hR.fd (k := 0) (i := 0) rfl rfl 7 rfl, hR.fd (k := 0) (i := 0) rfl rfl 8 rfl, hR.fd (k := 0) (i := 0) rfl rfl 9 rfl, hR.fd (k := 0) (i := 0) rfl rfl 10 rfl, hR.size 0 (by decide), hR.size 1 (by decide), hR.size 2 (by decide), hR.size 3 (by decide), hR.size 4 (by decide), hR.size 5 (by decide), hR.size 6 (by decide), hR.ir (k := 3) (i := 0) (show 0 < 3 by decide) rfl, hR.ir (k := 3) (i := 1) (show 1 < 3 by decide) rfl, hR.ir (k := 3) (i := 2) (show 2 < 3 by decide) rfl, hR.il (k := 3) (i := 2) (show 2 < 3 by decide) rfl, hR.fd (k := 4) (i := 0) (show 0 < 3 by decide) rfl 0 rfl, hR.fd (k := 4) (i := 0) (show 0 < 3 by decide) rfl 1 rfl, hR.fd (k := 4) (i := 0) (show 0 < 3 by decide) rfl 2 rfl, hR.fd (k := 4) (i := 0) (show 0 < 3 by decide) rfl 3 rfl, hR.fd (k := 4) (i := 0) (show 0 < 3 by decide) rfl 4 rfl, hR.fd (k := 4) (i := 0) (show 0 < 3 by decide) rfl 5 rfl, hR.fd (k := 4) (i := 0) (show 0 < 3 by decide) rfl 6 rfl, hR.fd (k := 4) (i := 0) (show 0 < 3 by decide) rfl 7 rfl, hR.fd (k := 4) (i := 1) (show 1 < 3 by decide) rfl 0 rfl, hR.fd (k := 4) (i := 1) (show 1 < 3 by decide) rfl 1 rfl, hR.fd (k := 4) (i := 1) (show 1 < 3 by decide) rfl 2 rfl, hR.fd (k := 4) (i := 1) (show 1 < 3 by decide) rfl 3 rfl, hR.cl (k := 0) (i := 0) rfl rfl, hR.cl (k := 4) (i := 0) (show 0 < 3 by decide) rfl, hR.cl (k := 4) (i := 1) (show 1 < 3 by decide) rfl, hR.cl (k := 1) (i := 0) (show 0 < 7 by decide) rfl, hR.cl (k := 1) (i := 1) (show 1 < 7 by decide) rfl, hR.cl (k := 1) (i := 2) (show 2 < 7 by decide) rfl, hR.cl (k := 1) (i := 3) (show 3 < 7 by decide) rfl, hR.cl (k := 1) (i := 4) (show 4 < 7 by decide) rfl, hR.cl (k := 1) (i := 5) (show 5 < 7 by decide) rfl, hR.cl (k := 1) (i := 6) (show 6 < 7 by decide) rfl, hR.qr (k := 4) (i := 2) (show 2 < 3 by decide) rfl, q_Hs_isTable, o_push, o_iload, o_lload, o_aload, o_istore, o_lstore, o_astore, o_iinc, o_iincW, o_ii, o_iiz, o_i1, o_l1, o_ll, o_li, o_dup, o_pop, o_dupx1, o_dup2, o_goto, o_if, o_icmp, o_acmp, o_ifnull, o_ifnonnull, o_get, o_put, o_iald, o_iast, o_aald, o_aast, o_alen, o_alenZ, o_cast, o_objinit, o_new, o_newi, o_newq, o_newqZ, o_alZ, o_getC, o_iret, o_zret, o_lret, o_aret, o_vret, o_mm, o_st, o_sc, o_br, o_sw, o_ret, o_al, o_call, mx_sw, mx_pop, mx_lk, mx_s1, mx_s2, mx_cat, mx_rr, mx_rv, mx_z01_0, mx_z01_1, mx_vI, mx_vJ, mx_vA, va_rf, List.filter_cons, List.filter_nil, Value.category, List.map_cons, List.map_nil, List.sum_cons, List.sum_nil, reduceCtorEq, ↓reduceIte, if_true, if_false, decide_true, decide_false, Bool.not_true, Bool.not_false, Bool.and_true, Bool.true_and, Bool.and_false, Bool.false_and, beq_self_eq_true, Nat.reduceAdd, Nat.reduceBEq, Nat.reduceEqDiff, Nat.reduceLeDiff, Nat.add_zero, Nat.zero_add, Nat.le_refl, Nat.zero_le, true_and, and_true, Option.toList_some, Option.toList_none, List.cons_append, List.nil_append, and_self, not_false_eq_true, not_true_eq_false, forall_const, imp_self, true_implies, false_implies, i10, i01]
  refine ⟨fun e => rej (by simp [e]), fun e => ⟨fun e2 => rej (by simp [zb e2]), fun e2 => ?_⟩⟩
  have e0 : s.2 0 0 = 0 := Classical.not_not.mp e
  have e2 := nb e2
  obtain ⟨t0, _, ht0, rfl⟩ := se_wi_c (a := 0) (b := 2) e2 rfl rfl (by decide) (by decide)
  have ht : t0 < 3 := by omega
  have hct : (nI t0).toNatClampNeg = t0 := nI_clamp (by omega)
  have h48 := hI.2.2.2.2.1 t0 ht
  simp only [st_Hs_entry_0, st_Hs_entry_1, st_Hs_entry_4, st_Hs_entry_7, st_Hs_entry_8, st_Hs_entry_11, st_Hs_entry_14, st_Hs_entry_15, st_Hs_entry_18, st_Hs_entry_19, st_Hs_entry_22, st_Hs_entry_24, st_Hs_entry_27, st_Hs_entry_28, st_Hs_entry_29, st_Hs_entry_30, st_Hs_entry_31, st_Hs_entry_32, st_Hs_entry_33, st_Hs_entry_36, st_Hs_entry_37, st_Hs_entry_38, st_Hs_entry_41, st_Hs_entry_44, st_Hs_entry_46, st_Hs_entry_47, st_Hs_entry_49, st_Hs_entry_52, st_Hs_entry_55, st_Hs_entry_56, st_Hs_entry_57, st_Hs_entry_58, st_Hs_entry_61, st_Hs_entry_64, st_Hs_entry_65, st_Hs_entry_66, st_Hs_entry_72, st_Hs_entry_73, st_Hs_entry_74, st_Hs_entry_75, st_Hs_entry_77, st_Hs_entry_80, st_Hs_entry_83, st_Hs_entry_84, st_Hs_entry_85, hR.fd (k := 0) (i := 0) rfl rfl 0 rfl, hR.fd (k := 0) (i := 0) rfl rfl 1 rfl, hR.fd (k := 0) (i := 0) rfl rfl 2 rfl, hR.fd (k := 0) (i := 0) rfl rfl 3 rfl, hR.fd (k := 0) (i := 0) rfl rfl 4 rfl, hR.fd (k := 0) (i := 0) rfl rfl 5 rfl, hR.fd (k := 0) (i := 0) rfl rfl 6 rfl, hR.fd (k := 0) (i := 0) rfl rfl 7 rfl, hR.fd (k := 0) (i := 0) rfl rfl 8 rfl, hR.fd (k := 0) (i := 0) rfl rfl 9 rfl, hR.fd (k := 0) (i := 0) rfl rfl 10 rfl, hR.size 0 (by decide), hR.size 1 (by decide), hR.size 2 (by decide), hR.size 3 (by decide), hR.size 4 (by decide), hR.size 5 (by decide), hR.size 6 (by decide), hR.ir (k := 3) (i := 0) (show 0 < 3 by decide) rfl, hR.ir (k := 3) (i := 1) (show 1 < 3 by decide) rfl, hR.ir (k := 3) (i := 2) (show 2 < 3 by decide) rfl, hR.il (k := 3) (i := 2) (show 2 < 3 by decide) rfl, hR.fd (k := 4) (i := 0) (show 0 < 3 by decide) rfl 0 rfl, hR.fd (k := 4) (i := 0) (show 0 < 3 by decide) rfl 1 rfl, hR.fd (k := 4) (i := 0) (show 0 < 3 by decide) rfl 2 rfl, hR.fd (k := 4) (i := 0) (show 0 < 3 by decide) rfl 3 rfl, hR.fd (k := 4) (i := 0) (show 0 < 3 by decide) rfl 4 rfl, hR.fd (k := 4) (i := 0) (show 0 < 3 by decide) rfl 5 rfl, hR.fd (k := 4) (i := 0) (show 0 < 3 by decide) rfl 6 rfl, hR.fd (k := 4) (i := 0) (show 0 < 3 by decide) rfl 7 rfl, hR.fd (k := 4) (i := 1) (show 1 < 3 by decide) rfl 0 rfl, hR.fd (k := 4) (i := 1) (show 1 < 3 by decide) rfl 1 rfl, hR.fd (k := 4) (i := 1) (show 1 < 3 by decide) rfl 2 rfl, hR.fd (k := 4) (i := 1) (show 1 < 3 by decide) rfl 3 rfl, hR.cl (k := 0) (i := 0) rfl rfl, hR.cl (k := 4) (i := 0) (show 0 < 3 by decide) rfl, hR.cl (k := 4) (i := 1) (show 1 < 3 by decide) rfl, hR.cl (k := 1) (i := 0) (show 0 < 7 by decide) rfl, hR.cl (k := 1) (i := 1) (show 1 < 7 by decide) rfl, hR.cl (k := 1) (i := 2) (show 2 < 7 by decide) rfl, hR.cl (k := 1) (i := 3) (show 3 < 7 by decide) rfl, hR.cl (k := 1) (i := 4) (show 4 < 7 by decide) rfl, hR.cl (k := 1) (i := 5) (show 5 < 7 by decide) rfl, hR.cl (k := 1) (i := 6) (show 6 < 7 by decide) rfl, hR.qr (k := 4) (i := 2) (show 2 < 3 by decide) rfl, (q_Sc_sizeOf hR ht), (q_howMany hR), q_Hs_isWithin, o_push, o_iload, o_lload, o_aload, o_istore, o_lstore, o_astore, o_iinc, o_iincW, o_ii, o_iiz, o_i1, o_l1, o_ll, o_li, o_dup, o_pop, o_dupx1, o_dup2, o_goto, o_if, o_icmp, o_acmp, o_ifnull, o_ifnonnull, o_get, o_put, o_iald, o_iast, o_aald, o_aast, o_alen, o_alenZ, o_cast, o_objinit, o_new, o_newi, o_newq, o_newqZ, o_alZ, o_getC, o_iret, o_zret, o_lret, o_aret, o_vret, o_mm, o_st, o_sc, o_br, o_sw, o_ret, o_al, o_call, mx_sw, mx_pop, mx_lk, mx_s1, mx_s2, mx_cat, mx_rr, mx_rv, mx_z01_0, mx_z01_1, mx_vI, mx_vJ, mx_vA, va_rf, List.filter_cons, List.filter_nil, Value.category, List.map_cons, List.map_nil, List.sum_cons, List.sum_nil, reduceCtorEq, ↓reduceIte, if_true, if_false, decide_true, decide_false, Bool.not_true, Bool.not_false, Bool.and_true, Bool.true_and, Bool.and_false, Bool.false_and, beq_self_eq_true, Nat.reduceAdd, Nat.reduceBEq, Nat.reduceEqDiff, Nat.reduceLeDiff, Nat.add_zero, Nat.zero_add, Nat.le_refl, Nat.zero_le, true_and, and_true, Option.toList_some, Option.toList_none, List.cons_append, List.nil_append, and_self, not_false_eq_true, not_true_eq_false, forall_const, imp_self, true_implies, false_implies, i10, i01]
  refine ⟨fun e3 => ⟨fun e4 => ?_, fun e4 => ⟨fun e5 => ?_, fun e5 => rej (by simp [zb (Classical.not_not.mp e5)])⟩⟩, fun e3 => rej (by
    rw [nI_8] at e3
    have := (not_congr (nI_ltI (a := s.1 (4 + t0)) (b := 8) (by omega) (by omega))).mp e3
    simp [hct, show s.1 (4 + t0) = 8 by omega])⟩
  · by_cases k0 : kind = 0
    · refine rej2 ?_
      rw [if_pos k0] at e4
      simp only [k0, beq_self_eq_true, ↓reduceIte]
      exact zb e4
    · by_cases k1 : kind = 1
      · refine rej2 ?_
        rw [if_neg k0, if_pos k1] at e4
        have : ((1 : Int32) == 0) = false := by decide
        simp only [k1, this, beq_self_eq_true, ↓reduceIte, Bool.false_eq_true]
        exact zb e4
      · by_cases k2 : kind = 2
        · refine rej2 ?_
          rw [if_neg k0, if_neg k1, if_pos k2] at e4
          have q1 : ((2 : Int32) == 0) = false := by decide
          have q2 : ((2 : Int32) == 1) = false := by decide
          simp only [k2, q1, q2, ↓reduceIte, Bool.false_eq_true]
          exact zb e4
        · exact rej (by simp [se_kind k0 k1 k2])
  · have h8 : s.1 (4 + t0) < 8 := by
      rw [nI_8] at e3
      exact (nI_ltI (by omega) (by omega)).mp e3
    have e4 := nb e4
    have ek : se_wi kind 0 2 = true ∧ se_wi num 0 (nI (s.1 (if kind == 0 then 0 else if kind == 1 then 2 else 3)) - 1) = true := by
      by_cases k0 : kind = 0
      · rw [if_pos k0] at e4
        refine ⟨by rw [k0]; decide, ?_⟩
        simp only [k0, beq_self_eq_true, ↓reduceIte]
        exact e4
      · by_cases k1 : kind = 1
        · rw [if_neg k0, if_pos k1] at e4
          refine ⟨by rw [k1]; decide, ?_⟩
          have : ((1 : Int32) == 0) = false := by decide
          simp only [k1, this, beq_self_eq_true, ↓reduceIte, Bool.false_eq_true]
          exact e4
        · by_cases k2 : kind = 2
          · rw [if_neg k0, if_neg k1, if_pos k2] at e4
            refine ⟨by rw [k2]; decide, ?_⟩
            have q1 : ((2 : Int32) == 0) = false := by decide
            have q2 : ((2 : Int32) == 1) = false := by decide
            simp only [k2, q1, q2, ↓reduceIte, Bool.false_eq_true]
            exact e4
          · rw [if_neg k0, if_neg k1, if_neg k2, se_wi_neg] at e4
            cases e4
    have ee : se_entry s (nI t0) kind num d = (1, va_up s.1 (4 + t0) (s.1 (4 + t0) + 1), up2 (up2 (up2 s.2 17 (8 * t0 + s.1 (4 + t0)) kind) 18 (8 * t0 + s.1 (4 + t0)) num) 19 (8 * t0 + s.1 (4 + t0)) d) := by
      unfold se_entry
      rw [if_neg, if_neg, hct]
      · rw [ek.2]; decide
      · simp [e0, e2, hct, show s.1 (4 + t0) ≠ 8 by omega, ek.1, nb e5]
    have vt : vp_in (nI t0) 3 = True := eq_true (vp_in_nI ht (by decide))
    have hqt : (if t0 < 3 then some (ad 5 t0) else none) = some (ad 5 t0) := if_pos ht
    simp only [st_Hs_entry_0, st_Hs_entry_1, st_Hs_entry_4, st_Hs_entry_7, st_Hs_entry_8, st_Hs_entry_11, st_Hs_entry_14, st_Hs_entry_15, st_Hs_entry_18, st_Hs_entry_19, st_Hs_entry_22, st_Hs_entry_24, st_Hs_entry_27, st_Hs_entry_28, st_Hs_entry_29, st_Hs_entry_30, st_Hs_entry_31, st_Hs_entry_32, st_Hs_entry_33, st_Hs_entry_36, st_Hs_entry_37, st_Hs_entry_38, st_Hs_entry_41, st_Hs_entry_44, st_Hs_entry_46, st_Hs_entry_47, st_Hs_entry_49, st_Hs_entry_52, st_Hs_entry_55, st_Hs_entry_56, st_Hs_entry_57, st_Hs_entry_58, st_Hs_entry_61, st_Hs_entry_64, st_Hs_entry_65, st_Hs_entry_66, st_Hs_entry_72, st_Hs_entry_73, st_Hs_entry_74, st_Hs_entry_75, st_Hs_entry_77, st_Hs_entry_80, st_Hs_entry_83, st_Hs_entry_84, st_Hs_entry_85, hR.fd (k := 0) (i := 0) rfl rfl 0 rfl, hR.fd (k := 0) (i := 0) rfl rfl 1 rfl, hR.fd (k := 0) (i := 0) rfl rfl 2 rfl, hR.fd (k := 0) (i := 0) rfl rfl 3 rfl, hR.fd (k := 0) (i := 0) rfl rfl 4 rfl, hR.fd (k := 0) (i := 0) rfl rfl 5 rfl, hR.fd (k := 0) (i := 0) rfl rfl 6 rfl, hR.fd (k := 0) (i := 0) rfl rfl 7 rfl, hR.fd (k := 0) (i := 0) rfl rfl 8 rfl, hR.fd (k := 0) (i := 0) rfl rfl 9 rfl, hR.fd (k := 0) (i := 0) rfl rfl 10 rfl, hR.size 0 (by decide), hR.size 1 (by decide), hR.size 2 (by decide), hR.size 3 (by decide), hR.size 4 (by decide), hR.size 5 (by decide), hR.size 6 (by decide), hR.ir (k := 3) (i := 0) (show 0 < 3 by decide) rfl, hR.ir (k := 3) (i := 1) (show 1 < 3 by decide) rfl, hR.ir (k := 3) (i := 2) (show 2 < 3 by decide) rfl, hR.il (k := 3) (i := 2) (show 2 < 3 by decide) rfl, hR.fd (k := 4) (i := 0) (show 0 < 3 by decide) rfl 0 rfl, hR.fd (k := 4) (i := 0) (show 0 < 3 by decide) rfl 1 rfl, hR.fd (k := 4) (i := 0) (show 0 < 3 by decide) rfl 2 rfl, hR.fd (k := 4) (i := 0) (show 0 < 3 by decide) rfl 3 rfl, hR.fd (k := 4) (i := 0) (show 0 < 3 by decide) rfl 4 rfl, hR.fd (k := 4) (i := 0) (show 0 < 3 by decide) rfl 5 rfl, hR.fd (k := 4) (i := 0) (show 0 < 3 by decide) rfl 6 rfl, hR.fd (k := 4) (i := 0) (show 0 < 3 by decide) rfl 7 rfl, hR.fd (k := 4) (i := 1) (show 1 < 3 by decide) rfl 0 rfl, hR.fd (k := 4) (i := 1) (show 1 < 3 by decide) rfl 1 rfl, hR.fd (k := 4) (i := 1) (show 1 < 3 by decide) rfl 2 rfl, hR.fd (k := 4) (i := 1) (show 1 < 3 by decide) rfl 3 rfl, hR.cl (k := 0) (i := 0) rfl rfl, hR.cl (k := 4) (i := 0) (show 0 < 3 by decide) rfl, hR.cl (k := 4) (i := 1) (show 1 < 3 by decide) rfl, hR.cl (k := 1) (i := 0) (show 0 < 7 by decide) rfl, hR.cl (k := 1) (i := 1) (show 1 < 7 by decide) rfl, hR.cl (k := 1) (i := 2) (show 2 < 7 by decide) rfl, hR.cl (k := 1) (i := 3) (show 3 < 7 by decide) rfl, hR.cl (k := 1) (i := 4) (show 4 < 7 by decide) rfl, hR.cl (k := 1) (i := 5) (show 5 < 7 by decide) rfl, hR.cl (k := 1) (i := 6) (show 6 < 7 by decide) rfl, hR.qr (k := 4) (i := 2) (show 2 < 3 by decide) rfl, hct, vt, hqt, (hR.fd (k := 5) (i := t0) ht rfl 0 rfl), o_push, o_iload, o_lload, o_aload, o_istore, o_lstore, o_astore, o_iinc, o_iincW, o_ii, o_iiz, o_i1, o_l1, o_ll, o_li, o_dup, o_pop, o_dupx1, o_dup2, o_goto, o_if, o_icmp, o_acmp, o_ifnull, o_ifnonnull, o_get, o_put, o_iald, o_iast, o_aald, o_aast, o_alen, o_alenZ, o_cast, o_objinit, o_new, o_newi, o_newq, o_newqZ, o_alZ, o_getC, o_iret, o_zret, o_lret, o_aret, o_vret, o_mm, o_st, o_sc, o_br, o_sw, o_ret, o_al, o_call, mx_sw, mx_pop, mx_lk, mx_s1, mx_s2, mx_cat, mx_rr, mx_rv, mx_z01_0, mx_z01_1, mx_vI, mx_vJ, mx_vA, va_rf, List.filter_cons, List.filter_nil, Value.category, List.map_cons, List.map_nil, List.sum_cons, List.sum_nil, reduceCtorEq, ↓reduceIte, if_true, if_false, decide_true, decide_false, Bool.not_true, Bool.not_false, Bool.and_true, Bool.true_and, Bool.and_false, Bool.false_and, beq_self_eq_true, Nat.reduceAdd, Nat.reduceBEq, Nat.reduceEqDiff, Nat.reduceLeDiff, Nat.add_zero, Nat.zero_add, Nat.le_refl, Nat.zero_le, true_and, and_true, Option.toList_some, Option.toList_none, List.cons_append, List.nil_append, and_self, not_false_eq_true, not_true_eq_false, forall_const, imp_self, true_implies, false_implies, i10, i01]
    rw [st_Hs_entry_69]
    simp only [o_new, o_al]
    refine ⟨trivial, by decide, by decide, fun q hq => ?_⟩
    have nq := hR.nq hq
    have hc1 : va_up h q (some (.inr (5, [.int 0, .int 0, .int 0]))) q = _ := va_up_self _ _ _
    simp only [st_Hs_entry_0, st_Hs_entry_1, st_Hs_entry_4, st_Hs_entry_7, st_Hs_entry_8, st_Hs_entry_11, st_Hs_entry_14, st_Hs_entry_15, st_Hs_entry_18, st_Hs_entry_19, st_Hs_entry_22, st_Hs_entry_24, st_Hs_entry_27, st_Hs_entry_28, st_Hs_entry_29, st_Hs_entry_30, st_Hs_entry_31, st_Hs_entry_32, st_Hs_entry_33, st_Hs_entry_36, st_Hs_entry_37, st_Hs_entry_38, st_Hs_entry_41, st_Hs_entry_44, st_Hs_entry_46, st_Hs_entry_47, st_Hs_entry_49, st_Hs_entry_52, st_Hs_entry_55, st_Hs_entry_56, st_Hs_entry_57, st_Hs_entry_58, st_Hs_entry_61, st_Hs_entry_64, st_Hs_entry_65, st_Hs_entry_66, st_Hs_entry_69, st_Hs_entry_72, st_Hs_entry_73, st_Hs_entry_74, st_Hs_entry_75, st_Hs_entry_80, st_Hs_entry_83, st_Hs_entry_84, st_Hs_entry_85, o_push, o_iload, o_lload, o_aload, o_istore, o_lstore, o_astore, o_iinc, o_iincW, o_ii, o_iiz, o_i1, o_l1, o_ll, o_li, o_dup, o_pop, o_dupx1, o_dup2, o_goto, o_if, o_icmp, o_acmp, o_ifnull, o_ifnonnull, o_get, o_put, o_iald, o_iast, o_aald, o_aast, o_alen, o_alenZ, o_cast, o_objinit, o_new, o_newi, o_newq, o_newqZ, o_alZ, o_getC, o_iret, o_zret, o_lret, o_aret, o_vret, o_mm, o_st, o_sc, o_br, o_sw, o_ret, o_al, o_call, mx_sw, mx_pop, mx_lk, mx_s1, mx_s2, mx_cat, mx_rr, mx_rv, mx_z01_0, mx_z01_1, mx_vI, mx_vJ, mx_vA, va_rf, List.filter_cons, List.filter_nil, Value.category, List.map_cons, List.map_nil, List.sum_cons, List.sum_nil, reduceCtorEq, ↓reduceIte, if_true, if_false, decide_true, decide_false, Bool.not_true, Bool.not_false, Bool.and_true, Bool.true_and, Bool.and_false, Bool.false_and, beq_self_eq_true, Nat.reduceAdd, Nat.reduceBEq, Nat.reduceEqDiff, Nat.reduceLeDiff, Nat.add_zero, Nat.zero_add, Nat.le_refl, Nat.zero_le, true_and, and_true, Option.toList_some, Option.toList_none, List.cons_append, List.nil_append, and_self, not_false_eq_true, not_true_eq_false, forall_const, imp_self, true_implies, false_implies, i10, i01]
    rw [st_Hs_entry_77]
    simp only [o_call, mx_pop]
    refine ⟨trivial, Nat.le_of_ble_eq_true rfl, by decide, by decide, ?_⟩
    refine q_En_init zz hc1 _ _ _ _ (fun h2 o2 c2 => ?_)
    have eh : h2 = va_up h q (some (.inr (5, [.int kind, .int num, .int d]))) := by
      funext y
      by_cases hy : y = q
      · rw [hy, c2, va_up_self]
      · rw [o2 y hy, va_up_ne _ _ hy, va_up_ne _ _ hy]
    have hR2 := hR.fresh nq (some (.inr (5, [.int kind, .int num, .int d])))
    rw [← eh] at hR2
    simp only [st_Hs_entry_0, st_Hs_entry_1, st_Hs_entry_4, st_Hs_entry_7, st_Hs_entry_8, st_Hs_entry_11, st_Hs_entry_14, st_Hs_entry_15, st_Hs_entry_18, st_Hs_entry_19, st_Hs_entry_22, st_Hs_entry_24, st_Hs_entry_27, st_Hs_entry_28, st_Hs_entry_29, st_Hs_entry_30, st_Hs_entry_31, st_Hs_entry_32, st_Hs_entry_33, st_Hs_entry_36, st_Hs_entry_37, st_Hs_entry_38, st_Hs_entry_41, st_Hs_entry_44, st_Hs_entry_46, st_Hs_entry_47, st_Hs_entry_49, st_Hs_entry_52, st_Hs_entry_55, st_Hs_entry_56, st_Hs_entry_57, st_Hs_entry_58, st_Hs_entry_61, st_Hs_entry_64, st_Hs_entry_65, st_Hs_entry_66, st_Hs_entry_69, st_Hs_entry_72, st_Hs_entry_73, st_Hs_entry_74, st_Hs_entry_75, st_Hs_entry_77, st_Hs_entry_83, st_Hs_entry_84, st_Hs_entry_85, hR2.fd (k := 0) (i := 0) rfl rfl 0 rfl, hR2.fd (k := 0) (i := 0) rfl rfl 1 rfl, hR2.fd (k := 0) (i := 0) rfl rfl 2 rfl, hR2.fd (k := 0) (i := 0) rfl rfl 3 rfl, hR2.fd (k := 0) (i := 0) rfl rfl 4 rfl, hR2.fd (k := 0) (i := 0) rfl rfl 5 rfl, hR2.fd (k := 0) (i := 0) rfl rfl 6 rfl, hR2.fd (k := 0) (i := 0) rfl rfl 7 rfl, hR2.fd (k := 0) (i := 0) rfl rfl 8 rfl, hR2.fd (k := 0) (i := 0) rfl rfl 9 rfl, hR2.fd (k := 0) (i := 0) rfl rfl 10 rfl, hR2.size 0 (by decide), hR2.size 1 (by decide), hR2.size 2 (by decide), hR2.size 3 (by decide), hR2.size 4 (by decide), hR2.size 5 (by decide), hR2.size 6 (by decide), hR2.ir (k := 3) (i := 0) (show 0 < 3 by decide) rfl, hR2.ir (k := 3) (i := 1) (show 1 < 3 by decide) rfl, hR2.ir (k := 3) (i := 2) (show 2 < 3 by decide) rfl, hR2.il (k := 3) (i := 2) (show 2 < 3 by decide) rfl, hR2.fd (k := 4) (i := 0) (show 0 < 3 by decide) rfl 0 rfl, hR2.fd (k := 4) (i := 0) (show 0 < 3 by decide) rfl 1 rfl, hR2.fd (k := 4) (i := 0) (show 0 < 3 by decide) rfl 2 rfl, hR2.fd (k := 4) (i := 0) (show 0 < 3 by decide) rfl 3 rfl, hR2.fd (k := 4) (i := 0) (show 0 < 3 by decide) rfl 4 rfl, hR2.fd (k := 4) (i := 0) (show 0 < 3 by decide) rfl 5 rfl, hR2.fd (k := 4) (i := 0) (show 0 < 3 by decide) rfl 6 rfl, hR2.fd (k := 4) (i := 0) (show 0 < 3 by decide) rfl 7 rfl, hR2.fd (k := 4) (i := 1) (show 1 < 3 by decide) rfl 0 rfl, hR2.fd (k := 4) (i := 1) (show 1 < 3 by decide) rfl 1 rfl, hR2.fd (k := 4) (i := 1) (show 1 < 3 by decide) rfl 2 rfl, hR2.fd (k := 4) (i := 1) (show 1 < 3 by decide) rfl 3 rfl, hR2.cl (k := 0) (i := 0) rfl rfl, hR2.cl (k := 4) (i := 0) (show 0 < 3 by decide) rfl, hR2.cl (k := 4) (i := 1) (show 1 < 3 by decide) rfl, hR2.cl (k := 1) (i := 0) (show 0 < 7 by decide) rfl, hR2.cl (k := 1) (i := 1) (show 1 < 7 by decide) rfl, hR2.cl (k := 1) (i := 2) (show 2 < 7 by decide) rfl, hR2.cl (k := 1) (i := 3) (show 3 < 7 by decide) rfl, hR2.cl (k := 1) (i := 4) (show 4 < 7 by decide) rfl, hR2.cl (k := 1) (i := 5) (show 5 < 7 by decide) rfl, hR2.cl (k := 1) (i := 6) (show 6 < 7 by decide) rfl, hR2.qr (k := 4) (i := 2) (show 2 < 3 by decide) rfl, o_push, o_iload, o_lload, o_aload, o_istore, o_lstore, o_astore, o_iinc, o_iincW, o_ii, o_iiz, o_i1, o_l1, o_ll, o_li, o_dup, o_pop, o_dupx1, o_dup2, o_goto, o_if, o_icmp, o_acmp, o_ifnull, o_ifnonnull, o_get, o_put, o_iald, o_iast, o_aald, o_aast, o_alen, o_alenZ, o_cast, o_objinit, o_new, o_newi, o_newq, o_newqZ, o_alZ, o_getC, o_iret, o_zret, o_lret, o_aret, o_vret, o_mm, o_st, o_sc, o_br, o_sw, o_ret, o_al, o_call, mx_sw, mx_pop, mx_lk, mx_s1, mx_s2, mx_cat, mx_rr, mx_rv, mx_z01_0, mx_z01_1, mx_vI, mx_vJ, mx_vA, va_rf, List.filter_cons, List.filter_nil, Value.category, List.map_cons, List.map_nil, List.sum_cons, List.sum_nil, reduceCtorEq, ↓reduceIte, if_true, if_false, decide_true, decide_false, Bool.not_true, Bool.not_false, Bool.and_true, Bool.true_and, Bool.and_false, Bool.false_and, beq_self_eq_true, Nat.reduceAdd, Nat.reduceBEq, Nat.reduceEqDiff, Nat.reduceLeDiff, Nat.add_zero, Nat.zero_add, Nat.le_refl, Nat.zero_le, true_and, and_true, Option.toList_some, Option.toList_none, List.cons_append, List.nil_append, and_self, not_false_eq_true, not_true_eq_false, forall_const, imp_self, true_implies, false_implies, i10, i01]
    rw [st_Hs_entry_80]
    simp only [o_call, mx_pop]
    refine ⟨hR2.cl (k := 1) (i := 4 + t0) (show 4 + t0 < 7 by omega) rfl, Nat.le_of_ble_eq_true rfl, by decide, by decide, ?_⟩
    refine X_add hR hR2 (i := 4 + t0) (by omega) (by omega) nq c2 (by decide) _ (fun h3 b L hb hz hL hL2 hoff ha hb' => ?_)
    rw [eh] at hb hoff
    have hR3 := hR.entry hI ht h8 hq hb hz hL hL2 hoff ha hb'
    have a00 : up2 (up2 ad 12 (8 * t0 + s.1 (4 + t0)) q) 2 (4 + t0) b 0 0 = ad 0 0 := by
      rw [up2_ne _ _ (fun w => by omega), up2_ne _ _ (fun w => by omega)]
    simp only [st_Hs_entry_0, st_Hs_entry_1, st_Hs_entry_4, st_Hs_entry_7, st_Hs_entry_8, st_Hs_entry_11, st_Hs_entry_14, st_Hs_entry_15, st_Hs_entry_18, st_Hs_entry_19, st_Hs_entry_22, st_Hs_entry_24, st_Hs_entry_27, st_Hs_entry_28, st_Hs_entry_29, st_Hs_entry_30, st_Hs_entry_31, st_Hs_entry_32, st_Hs_entry_33, st_Hs_entry_36, st_Hs_entry_37, st_Hs_entry_38, st_Hs_entry_41, st_Hs_entry_44, st_Hs_entry_46, st_Hs_entry_47, st_Hs_entry_49, st_Hs_entry_52, st_Hs_entry_55, st_Hs_entry_56, st_Hs_entry_57, st_Hs_entry_58, st_Hs_entry_61, st_Hs_entry_64, st_Hs_entry_65, st_Hs_entry_66, st_Hs_entry_69, st_Hs_entry_72, st_Hs_entry_73, st_Hs_entry_74, st_Hs_entry_75, st_Hs_entry_77, st_Hs_entry_80, st_Hs_entry_83, st_Hs_entry_84, st_Hs_entry_85, o_push, o_iload, o_lload, o_aload, o_istore, o_lstore, o_astore, o_iinc, o_iincW, o_ii, o_iiz, o_i1, o_l1, o_ll, o_li, o_dup, o_pop, o_dupx1, o_dup2, o_goto, o_if, o_icmp, o_acmp, o_ifnull, o_ifnonnull, o_get, o_put, o_iald, o_iast, o_aald, o_aast, o_alen, o_alenZ, o_cast, o_objinit, o_new, o_newi, o_newq, o_newqZ, o_alZ, o_getC, o_iret, o_zret, o_lret, o_aret, o_vret, o_mm, o_st, o_sc, o_br, o_sw, o_ret, o_al, o_call, mx_sw, mx_pop, mx_lk, mx_s1, mx_s2, mx_cat, mx_rr, mx_rv, mx_z01_0, mx_z01_1, mx_vI, mx_vJ, mx_vA, va_rf, List.filter_cons, List.filter_nil, Value.category, List.map_cons, List.map_nil, List.sum_cons, List.sum_nil, reduceCtorEq, ↓reduceIte, if_true, if_false, decide_true, decide_false, Bool.not_true, Bool.not_false, Bool.and_true, Bool.true_and, Bool.and_false, Bool.false_and, beq_self_eq_true, Nat.reduceAdd, Nat.reduceBEq, Nat.reduceEqDiff, Nat.reduceLeDiff, Nat.add_zero, Nat.zero_add, Nat.le_refl, Nat.zero_le, true_and, and_true, Option.toList_some, Option.toList_none, List.cons_append, List.nil_append, and_self, not_false_eq_true, not_true_eq_false, forall_const, imp_self, true_implies, false_implies, i10, i01]
    exact hacc h3 _ _ a00 ⟨_, _, rfl⟩ ⟨t0, ht, rfl, h8, ek.1, nb e5, e0, ek.2⟩ (by rw [ee]) (by rw [ee]; exact hR3)
