theorem RX.signal {zz : Nat × Nat} {h h' : mx_H} {ad : Nat → Nat → Nat} {s : se_S} {x : xX} (r : RX zz h ad s x) (hI : iX s) {q b L f : Nat} {off w v : Int32} (hf : f < s.1 0) (hq : h q = none) (hw : s.2 12 (s.1 1) = 0) (hb : (b = ad 2 1 ∧ L = x.2.2 1 ∧ 0 < x.2.2 1) ∨ va_up h q (some (.inr (2, [.ref (ad 6 f), .int off, .int w, .int v, .int 0]))) b = none) (hz : b ≠ zz.1) (hL : s.1 1 < L) (hL2 : L ≤ 24) (hoff : ∀ y, y ≠ ad 1 1 → y ≠ b → h' y = va_up h q (some (.inr (2, [.ref (ad 6 f), .int off, .int w, .int v, .int 0]))) y) (ha : h' (ad 1 1) = some (.inr (9, [.int (x.1 0 1 + 1), .ref b, .int (nI (s.1 1 + 1))]))) (hb' : h' b = some (qa "java/lang/Object" L (va_up (xg ad (s.1 1) 1) (s.1 1) (some q)))) : RX zz h' (up2 (up2 ad 7 (s.1 1) q) 2 1 b) (va_up s.1 1 (s.1 1 + 1), up2 (up2 (up2 (up2 (up2 s.2 7 (s.1 1) (nI f)) 8 (s.1 1) off) 9 (s.1 1) w) 10 (s.1 1) v) 11 (s.1 1) v) (xmod x 1 L) := by
  have hn : ¬ lvX s x 7 (s.1 1) := fun z => absurd (show s.1 1 < s.1 1 from z) (by omega)
  have r1 := rp_new r.1 (k := 7) (i := s.1 1) hq hn (.inr (2, [.ref (ad 6 f), .int off, .int w, .int v, .int 0]))
  obtain ⟨i0, i1, i2, i3, i4, i5, i6, i7⟩ := hI
  refine r.add r1 (fun k j z => Or.inl z) (fun k j z => up2_ne _ _ (fun w => hn (by rw [← w.1, ← w.2]; exact z))) (fun k j hk z => up2_ne _ _ (fun w => by omega)) (i := 1) (by decide) (show up2 ad 7 (s.1 1) q 7 (0 + s.1 1) = q by rw [Nat.zero_add, up2_self]) hb hz hL hL2 hoff ha hb' rfl rfl (xmod_c3 x 1 L) ?_ ?_
  · intro k j k1 k2 z
    match k, k1, k2, z with
    | 0, _, _, z => exact Or.inl z
    | 1, k1, _, _ => exact absurd rfl k1
    | 2, _, k2, _ => exact absurd rfl k2
    | 3, _, _, z => exact Or.inl z
    | 4, _, _, z => exact Or.inl z
    | 5, _, _, z => exact Or.inl z
    | 6, _, _, z => exact Or.inl z
    | 7, _, _, z =>
      have z : j < s.1 1 + 1 := z
      by_cases hj : j = s.1 1
      · exact Or.inr ⟨rfl, hj⟩
      · exact Or.inl (show j < s.1 1 by omega)
    | 8, _, _, z => exact Or.inl z
    | 9, _, _, z => exact Or.inl z
    | 10, _, _, z => exact Or.inl z
    | 11, _, _, z => exact Or.inl z
    | 12, _, _, z =>
      obtain ⟨t, p, h1, h2, h3⟩ := z
      have h2 : p < va_up s.1 1 (s.1 1 + 1) (4 + t) := h2
      rw [va_up_ne _ _ (by omega)] at h2
      exact Or.inl ⟨t, p, h1, h2, h3⟩
    | k + 13, _, _, z => exact z.elim
  · intro k j k1 k2 z
    match k, k1, k2, z with
    | 0, _, _, z => rfl
    | 1, k1, _, _ => exact absurd rfl k1
    | 2, _, k2, _ => exact absurd rfl k2
    | 3, _, _, z =>
      match j with
      | 0 => rfl
      | 1 => rfl
      | j + 2 => rfl
    | 4, _, _, z =>
      match j with
      | 0 => rfl
      | 1 => rfl
      | j + 2 => rfl
    | 5, _, _, z => rfl
    | 6, _, _, z => rfl
    | 7, _, _, z =>
      show (Sum.inr (2, [.ref (up2 (up2 ad 7 (s.1 1) q) 2 1 b 6 (up2 (up2 (up2 (up2 (up2 s.2 7 (s.1 1) (nI f)) 8 (s.1 1) off) 9 (s.1 1) w) 10 (s.1 1) v) 11 (s.1 1) v 7 j).toNatClampNeg), .int (up2 (up2 (up2 (up2 (up2 s.2 7 (s.1 1) (nI f)) 8 (s.1 1) off) 9 (s.1 1) w) 10 (s.1 1) v) 11 (s.1 1) v 8 j), .int (up2 (up2 (up2 (up2 (up2 s.2 7 (s.1 1) (nI f)) 8 (s.1 1) off) 9 (s.1 1) w) 10 (s.1 1) v) 11 (s.1 1) v 9 j), .int (up2 (up2 (up2 (up2 (up2 s.2 7 (s.1 1) (nI f)) 8 (s.1 1) off) 9 (s.1 1) w) 10 (s.1 1) v) 11 (s.1 1) v 11 j), .int (s.2 12 j)]) : mx_E) = _
      rw [up2_k _ _ (show (6 : Nat) ≠ 2 by decide), up2_k _ _ (show (6 : Nat) ≠ 7 by decide)]
      by_cases hj : j = s.1 1
      · rw [hj]
        simp only [up2_self, up2_k _ _ (show (7 : Nat) ≠ 11 by decide), up2_k _ _ (show (7 : Nat) ≠ 10 by decide), up2_k _ _ (show (7 : Nat) ≠ 9 by decide), up2_k _ _ (show (7 : Nat) ≠ 8 by decide), up2_k _ _ (show (8 : Nat) ≠ 11 by decide), up2_k _ _ (show (8 : Nat) ≠ 10 by decide), up2_k _ _ (show (8 : Nat) ≠ 9 by decide), up2_k _ _ (show (9 : Nat) ≠ 11 by decide), up2_k _ _ (show (9 : Nat) ≠ 10 by decide), hw, nI_clamp (show f < 2 ^ 31 by omega)]
      · have e : ∀ {α : Type} (F : Nat → Nat → α) (a c : Nat) (v : α), up2 F a (s.1 1) v c j = F c j := fun F a c v => up2_ne _ _ (fun w => hj w.2)
        rw [up2_ne _ _ (fun w => hj w.2)]
        simp only [e]
        rfl
    | 8, _, _, z => rfl
    | 9, _, _, z => rfl
    | 10, _, _, z => rfl
    | 11, _, _, z => rfl
    | 12, _, _, z => rfl
    | k + 13, _, _, z => exact z.elim
theorem mx_put_off {h h' : mx_H} {a ci k : Nat} {v : Value} (e : mx_put h a ci k v = some h') : ∀ y, y ≠ a → h' y = h y := by
  unfold mx_put at e
  split at e
  · split at e
    · cases e
      exact fun y hy => va_up_ne _ _ hy
    · cases e
  · cases e
theorem XputTO {tab : List (Nat × mx_O)} {r : mx_T} {pc : Nat} {ls : mx_L} {t : List Value} {h : mx_H} {c n : Nat} {zz : Nat × Nat} {ad : Nat → Nat → Nat} {s : se_S} {x : xX} {ok : Value → Prop} {v : Int64} {f : Nat} (st : mx_G r tab pc ls (.long v :: .ref (ad 6 f) :: t) h c n = o_put 1 6 ok r (mx_G r tab) pc ls (.long v :: .ref (ad 6 f) :: t) h c n) (hR : RX zz h ad s x) (hf : f < s.1 0) (hok : ok (.long v)) (kk : ∀ (h' : mx_H) (x1 : xX), x1 = (x.1, up2 x.2.1 1 f v, x.2.2) → (∀ y, y ≠ ad 6 f → h' y = h y) → RX zz h' ad s x1 → mx_G r tab (pc + 3) ls t h' c n) : mx_G r tab pc ls (.long v :: .ref (ad 6 f) :: t) h c n := by
  obtain ⟨h', p1, hR'⟩ := hR.put (s' := s) (x' := (x.1, up2 x.2.1 1 f v, x.2.2)) (k := 6) (i := f) (ci := 1) (j := 6) (v := .long v) hf rfl (by decide : 6 < 8) rfl rfl (by
    show (Sum.inr (1, [.int (nI f), .int (x.1 1 f), .int (s.2 2 f), .int (s.2 3 f), .int (s.2 4 f), .long (x.2.1 0 f), .long (up2 x.2.1 1 f v 1 f), .int (s.2 5 f)]) : mx_E) = _
    rw [up2_self]
    rfl) (by
    intro k' i' hl hne
    exact (match k', i', hl, hne with
                | 0, _, _, _ => rfl
                | 1, _, _, _ => rfl
                | 2, _, _, _ => rfl
                | 3, 0, _, _ => rfl
                | 3, 1, _, _ => rfl
                | 3, _ + 2, _, _ => rfl
                | 4, 0, _, _ => rfl
                | 4, 1, _, _ => rfl
                | 4, _ + 2, _, _ => rfl
                | 5, _, _, _ => rfl
                | 6, j, _, hne => by
                                  show (Sum.inr (1, [.int (nI j), .int (x.1 1 j), .int (s.2 2 j), .int (s.2 3 j), .int (s.2 4 j), .long (x.2.1 0 j), .long (up2 x.2.1 1 f v 1 j), .int (s.2 5 j)]) : mx_E) = _
                                  rw [up2_ne _ _ (fun z => hne ⟨rfl, z.2⟩)]
                                  rfl
                | 7, _, _, _ => rfl
                | 8, _, _, _ => rfl
                | 9, _, _, _ => rfl
                | 10, _, _, _ => rfl
                | 11, _, _, _ => rfl
                | 12, _, _, _ => rfl
                | _ + 13, _, hl, _ => hl.elim))
  rw [st]
  simp only [o_put, o_sc, p1]
  exact ⟨hok, kk h' _ rfl (mx_put_off p1) hR'⟩
theorem tk_and {s : se_S} {x : xX} {f o w : Nat} (htk : ∀ c, c < 64 → lb (x.2.1 1 f) c = (decide (0 < s.2 6 f ∧ c < 8) || se_bt s (nI f) (nI c))) (h1 : 1 ≤ w) (hw : w ≤ 16) (ho : o + w ≤ 64) : x.2.1 1 f &&& bts (nI o) (nI w) = 0 ↔ (¬ (0 < s.2 6 f ∧ o < 8) ∧ se_any (fun j => se_bt s (nI f) (nI o + nI j)) w = false) := by
  constructor
  · intro e
    have key : ∀ j, j < w → (decide (0 < s.2 6 f ∧ o + j < 8) || se_bt s (nI f) (nI (o + j))) = false := fun j hj => by
      have h2 : lb (x.2.1 1 f &&& bts (nI o) (nI w)) (o + j) = false := by rw [e, lb_0]
      rw [lb_and, lb_bts hw ho h1, htk (o + j) (by omega)] at h2
      simpa [show o + j < o + w by omega] using h2
    refine ⟨fun z => ?_, ?_⟩
    · have := key 0 (by omega)
      simp [z.1, z.2] at this
    · cases ea : se_any (fun j => se_bt s (nI f) (nI o + nI j)) w with
      | false => rfl
      | true =>
        obtain ⟨j, hj, hb⟩ := (se_any_iff _ _).mp ea
        have := key j hj
        rw [nI_add] at hb
        simp [hb] at this
  · intro ⟨e1, e2⟩
    refine lb_ext (fun c hc => ?_)
    rw [lb_and, lb_bts hw ho h1, htk c hc, lb_0]
    by_cases h2 : o ≤ c ∧ c < o + w
    · have h3 : se_bt s (nI f) (nI c) = false := by
        cases eb : se_bt s (nI f) (nI c) with
        | false => rfl
        | true =>
          have : se_any (fun j => se_bt s (nI f) (nI o + nI j)) w = true := (se_any_iff _ _).mpr ⟨c - o, by omega, by
            rw [nI_add, show o + (c - o) = c by omega]
            exact eb⟩
          rw [e2] at this
          cases this
      have h4 : ¬ (0 < s.2 6 f ∧ c < 8) := fun z => e1 ⟨z.1, by omega⟩
      rw [h3, decide_eq_false h4]
      rfl
    · have : (decide (o ≤ c) && decide (c < o + w)) = false := by
        by_cases h3 : o ≤ c
        · have : ¬ c < o + w := fun z => h2 ⟨h3, z⟩
          simp [this]
        · simp [h3]
      rw [this, Bool.and_false]
def xsig (x : xX) (f L : Nat) (o w v : Int32) : xX := xmod (x.1, up2 (up2 x.2.1 1 f (x.2.1 1 f ||| bts o w)) 0 f (wrt (x.2.1 0 f) o w v), x.2.2) 1 L
theorem q_Hs_signal {zz : Nat × Nat} {h : mx_H} {ad : Nat → Nat → Nat} {s : se_S} {x : xX} (hR : RX zz h ad s x) (hI : iX s) (hlen : ∀ f, f < s.1 0 → ∃ n, 1 ≤ n ∧ n ≤ 8 ∧ s.2 3 f = nI n) (htk : ∀ f, f < s.1 0 → ∀ c, c < 64 → lb (x.2.1 1 f) c = (decide (0 < s.2 6 f ∧ c < 8) || se_bt s (nI f) (nI c))) (hw12 : s.2 12 (s.1 1) = 0) (fr off w v : Int32) (P : Option Value → mx_H → Prop) (hrej : ∀ h', RX zz h' ad s x → se_signal s fr off w v = (-1, s) → P (some (.int (-1))) h')
    (hacc : ∀ (h' : mx_H) (ad' : Nat → Nat → Nat) (L f o w0 n : Nat), ad' 0 0 = ad 0 0 → f < s.1 0 → fr = nI f → off = nI o → w = nI w0 → 1 ≤ w0 → w0 ≤ 16 → s.2 3 f = nI n → n ≤ 8 → o + w0 ≤ 8 * n → s.1 1 < 16 → s.2 0 0 = 0 → ¬ (0 < s.2 6 f ∧ o < 8) → se_any (fun j => se_bt s (nI f) (nI o + nI j)) w0 = false → se_wi v 0 ((1 <<< (w &&& 31)) - 1) = true → se_signal s fr off w v = (nI (s.1 1), va_up s.1 1 (s.1 1 + 1), up2 (up2 (up2 (up2 (up2 s.2 7 (s.1 1) fr) 8 (s.1 1) off) 9 (s.1 1) w) 10 (s.1 1) v) 11 (s.1 1) v) → RX zz h' ad' (se_signal s fr off w v).2 (xsig x f L off w v) → P (some (.int (nI (s.1 1)))) h') : S_Hs_signal zz [.ref (ad 0 0), .int fr, .int off, .int w, .int v] h P := by
  have h8 := hI.1
  have h16 := hI.2.1
  have rej : (!(s.2 0 0 == 0) || s.1 1 == 16 || !se_wi fr 0 (nI (s.1 0) - 1) || !se_wi w 1 16) = true → P (some (.int (-1))) h := fun e => hrej h hR (by unfold se_signal; rw [if_pos e])
  rw [S_Hs_signal, mx_S_eq (Nat.le_of_ble_eq_true rfl)]
  cases ef : se_wi fr 0 (nI (s.1 0) - 1) with
  | false =>
    simp only [st_Hs_signal_0, st_Hs_signal_1, st_Hs_signal_2, st_Hs_signal_5, st_Hs_signal_7, st_Hs_signal_8, st_Hs_signal_11, st_Hs_signal_14, st_Hs_signal_15, st_Hs_signal_18, st_Hs_signal_21, st_Hs_signal_23, st_Hs_signal_26, st_Hs_signal_28, st_Hs_signal_31, st_Hs_signal_32, st_Hs_signal_33, st_Hs_signal_34, st_Hs_signal_35, st_Hs_signal_37, st_Hs_signal_40, st_Hs_signal_43, st_Hs_signal_44, st_Hs_signal_45, st_Hs_signal_47, st_Hs_signal_49, st_Hs_signal_52, st_Hs_signal_53, st_Hs_signal_54, st_Hs_signal_55, st_Hs_signal_58, st_Hs_signal_61, st_Hs_signal_62, st_Hs_signal_66, st_Hs_signal_67, st_Hs_signal_69, st_Hs_signal_70, st_Hs_signal_71, st_Hs_signal_73, st_Hs_signal_76, st_Hs_signal_78, st_Hs_signal_80, st_Hs_signal_83, st_Hs_signal_85, st_Hs_signal_88, st_Hs_signal_89, st_Hs_signal_90, st_Hs_signal_91, st_Hs_signal_94, st_Hs_signal_96, st_Hs_signal_98, st_Hs_signal_101, st_Hs_signal_104, st_Hs_signal_105, st_Hs_signal_106, st_Hs_signal_108, st_Hs_signal_109, st_Hs_signal_112, st_Hs_signal_114, st_Hs_signal_117, st_Hs_signal_121, st_Hs_signal_123, st_Hs_signal_125, st_Hs_signal_128, st_Hs_signal_129, st_Hs_signal_132, st_Hs_signal_134, st_Hs_signal_137, st_Hs_signal_138, st_Hs_signal_139, st_Hs_signal_142, st_Hs_signal_145, st_Hs_signal_146, st_Hs_signal_147, lv_args, hR.fd (k := 0) (i := 0) rfl rfl 0 rfl, hR.fd (k := 0) (i := 0) rfl rfl 1 rfl, hR.fd (k := 0) (i := 0) rfl rfl 2 rfl, hR.fd (k := 0) (i := 0) rfl rfl 3 rfl, hR.fd (k := 0) (i := 0) rfl rfl 4 rfl, hR.fd (k := 0) (i := 0) rfl rfl 5 rfl, hR.fd (k := 0) (i := 0) rfl rfl 6 rfl, hR.fd (k := 0) (i := 0) rfl rfl 7 rfl, hR.fd (k := 0) (i := 0) rfl rfl 8 rfl, hR.fd (k := 0) (i := 0) rfl rfl 9 rfl, hR.fd (k := 0) (i := 0) rfl rfl 10 rfl, hR.size 0 (by decide), hR.size 1 (by decide), hR.size 2 (by decide), hR.size 3 (by decide), hR.size 4 (by decide), hR.size 5 (by decide), hR.size 6 (by decide), hR.ir (k := 3) (i := 0) (show 0 < 3 by decide) rfl, hR.ir (k := 3) (i := 1) (show 1 < 3 by decide) rfl, hR.ir (k := 3) (i := 2) (show 2 < 3 by decide) rfl, hR.il (k := 3) (i := 2) (show 2 < 3 by decide) rfl, hR.fd (k := 4) (i := 0) (show 0 < 3 by decide) rfl 0 rfl, hR.fd (k := 4) (i := 0) (show 0 < 3 by decide) rfl 1 rfl, hR.fd (k := 4) (i := 0) (show 0 < 3 by decide) rfl 2 rfl, hR.fd (k := 4) (i := 0) (show 0 < 3 by decide) rfl 3 rfl, hR.fd (k := 4) (i := 0) (show 0 < 3 by decide) rfl 4 rfl, hR.fd (k := 4) (i := 0) (show 0 < 3 by decide) rfl 5 rfl, hR.fd (k := 4) (i := 0) (show 0 < 3 by decide) rfl 6 rfl, hR.fd (k := 4) (i := 0) (show 0 < 3 by decide) rfl 7 rfl, hR.fd (k := 4) (i := 1) (show 1 < 3 by decide) rfl 0 rfl, hR.fd (k := 4) (i := 1) (show 1 < 3 by decide) rfl 1 rfl, hR.fd (k := 4) (i := 1) (show 1 < 3 by decide) rfl 2 rfl, hR.fd (k := 4) (i := 1) (show 1 < 3 by decide) rfl 3 rfl, hR.cl (k := 0) (i := 0) rfl rfl, hR.cl (k := 4) (i := 0) (show 0 < 3 by decide) rfl, hR.cl (k := 4) (i := 1) (show 1 < 3 by decide) rfl, hR.cl (k := 1) (i := 0) (show 0 < 7 by decide) rfl, hR.cl (k := 1) (i := 1) (show 1 < 7 by decide) rfl, hR.cl (k := 1) (i := 2) (show 2 < 7 by decide) rfl, hR.cl (k := 1) (i := 3) (show 3 < 7 by decide) rfl, hR.cl (k := 1) (i := 4) (show 4 < 7 by decide) rfl, hR.cl (k := 1) (i := 5) (show 5 < 7 by decide) rfl, hR.cl (k := 1) (i := 6) (show 6 < 7 by decide) rfl, hR.qr (k := 4) (i := 2) (show 2 < 3 by decide) rfl, (q_frameAt_f hR ef), o_push, o_iload, o_lload, o_aload, o_istore, o_lstore, o_astore, o_iinc, o_iincW, o_ii, o_iiz, o_i1, o_l1, o_ll, o_li, o_dup, o_pop, o_dupx1, o_dup2, o_goto, o_if, o_icmp, o_acmp, o_ifnull, o_ifnonnull, o_get, o_put, o_iald, o_iast, o_aald, o_aast, o_alen, o_alenZ, o_cast, o_objinit, o_new, o_newi, o_newq, o_newqZ, o_alZ, o_getC, o_iret, o_zret, o_lret, o_aret, o_vret, o_mm, o_st, o_sc, o_br, o_sw, o_ret, o_al, o_call, mx_sw, mx_pop, mx_lk, mx_s1, mx_s2, mx_cat, mx_rr, mx_rv, mx_z01_0, mx_z01_1, mx_vI, mx_vJ, mx_vA, va_rf, List.filter_cons, List.filter_nil, Value.category, List.map_cons, List.map_nil, List.sum_cons, List.sum_nil, reduceCtorEq, ↓reduceIte, if_true, if_false, decide_true, decide_false, Bool.not_true, Bool.not_false, Bool.and_true, Bool.true_and, Bool.and_false, Bool.false_and, beq_self_eq_true, Nat.reduceAdd, Nat.reduceBEq, Nat.reduceEqDiff, Nat.reduceLeDiff, Nat.add_zero, Nat.zero_add, Nat.le_refl, Nat.zero_le, true_and, and_true, Option.toList_some, Option.toList_none, List.cons_append, List.nil_append, and_self, not_false_eq_true, not_true_eq_false, forall_const, imp_self, true_implies, false_implies, i10, i01]
    exact ⟨fun _ => rej (by simp [ef]), fun _ => ⟨fun _ => rej (by simp [ef]), fun _ => rej (by simp [ef])⟩⟩
  | true =>
    obtain ⟨f, hf, rfl⟩ := se_wi_nI ef (by omega)
    have hcf : (nI f).toNatClampNeg = f := nI_clamp (by omega)
    obtain ⟨n, hn1, hn8, e3⟩ := hlen f hf
    simp only [st_Hs_signal_0, st_Hs_signal_1, st_Hs_signal_2, st_Hs_signal_5, st_Hs_signal_7, st_Hs_signal_8, st_Hs_signal_11, st_Hs_signal_14, st_Hs_signal_15, st_Hs_signal_18, st_Hs_signal_21, st_Hs_signal_23, st_Hs_signal_26, st_Hs_signal_28, st_Hs_signal_31, st_Hs_signal_32, st_Hs_signal_33, st_Hs_signal_34, st_Hs_signal_35, st_Hs_signal_37, st_Hs_signal_40, st_Hs_signal_43, st_Hs_signal_44, st_Hs_signal_45, st_Hs_signal_47, st_Hs_signal_49, st_Hs_signal_52, st_Hs_signal_53, st_Hs_signal_54, st_Hs_signal_55, st_Hs_signal_58, st_Hs_signal_61, st_Hs_signal_62, st_Hs_signal_66, st_Hs_signal_67, st_Hs_signal_69, st_Hs_signal_70, st_Hs_signal_71, st_Hs_signal_73, st_Hs_signal_76, st_Hs_signal_78, st_Hs_signal_80, st_Hs_signal_83, st_Hs_signal_85, st_Hs_signal_88, st_Hs_signal_89, st_Hs_signal_90, st_Hs_signal_91, st_Hs_signal_94, st_Hs_signal_96, st_Hs_signal_98, st_Hs_signal_101, st_Hs_signal_104, st_Hs_signal_105, st_Hs_signal_106, st_Hs_signal_108, st_Hs_signal_109, st_Hs_signal_112, st_Hs_signal_114, st_Hs_signal_117, st_Hs_signal_121, st_Hs_signal_123, st_Hs_signal_125, st_Hs_signal_128, st_Hs_signal_129, st_Hs_signal_132, st_Hs_signal_134, st_Hs_signal_137, st_Hs_signal_138, st_Hs_signal_139, st_Hs_signal_142, st_Hs_signal_145, st_Hs_signal_146, st_Hs_signal_147, lv_args, hR.fd (k := 0) (i := 0) rfl rfl 0 rfl, hR.fd (k := 0) (i := 0) rfl rfl 1 rfl, hR.fd (k := 0) (i := 0) rfl rfl 2 rfl, hR.fd (k := 0) (i := 0) rfl rfl 3 rfl, hR.fd (k := 0) (i := 0) rfl rfl 4 rfl, hR.fd (k := 0) (i := 0) rfl rfl 5 rfl, hR.fd (k := 0) (i := 0) rfl rfl 6 rfl, hR.fd (k := 0) (i := 0) rfl rfl 7 rfl, hR.fd (k := 0) (i := 0) rfl rfl 8 rfl, hR.fd (k := 0) (i := 0) rfl rfl 9 rfl, hR.fd (k := 0) (i := 0) rfl rfl 10 rfl, hR.size 0 (by decide), hR.size 1 (by decide), hR.size 2 (by decide), hR.size 3 (by decide), hR.size 4 (by decide), hR.size 5 (by decide), hR.size 6 (by decide), hR.ir (k := 3) (i := 0) (show 0 < 3 by decide) rfl, hR.ir (k := 3) (i := 1) (show 1 < 3 by decide) rfl, hR.ir (k := 3) (i := 2) (show 2 < 3 by decide) rfl, hR.il (k := 3) (i := 2) (show 2 < 3 by decide) rfl, hR.fd (k := 4) (i := 0) (show 0 < 3 by decide) rfl 0 rfl, hR.fd (k := 4) (i := 0) (show 0 < 3 by decide) rfl 1 rfl, hR.fd (k := 4) (i := 0) (show 0 < 3 by decide) rfl 2 rfl, hR.fd (k := 4) (i := 0) (show 0 < 3 by decide) rfl 3 rfl, hR.fd (k := 4) (i := 0) (show 0 < 3 by decide) rfl 4 rfl, hR.fd (k := 4) (i := 0) (show 0 < 3 by decide) rfl 5 rfl, hR.fd (k := 4) (i := 0) (show 0 < 3 by decide) rfl 6 rfl, hR.fd (k := 4) (i := 0) (show 0 < 3 by decide) rfl 7 rfl, hR.fd (k := 4) (i := 1) (show 1 < 3 by decide) rfl 0 rfl, hR.fd (k := 4) (i := 1) (show 1 < 3 by decide) rfl 1 rfl, hR.fd (k := 4) (i := 1) (show 1 < 3 by decide) rfl 2 rfl, hR.fd (k := 4) (i := 1) (show 1 < 3 by decide) rfl 3 rfl, hR.cl (k := 0) (i := 0) rfl rfl, hR.cl (k := 4) (i := 0) (show 0 < 3 by decide) rfl, hR.cl (k := 4) (i := 1) (show 1 < 3 by decide) rfl, hR.cl (k := 1) (i := 0) (show 0 < 7 by decide) rfl, hR.cl (k := 1) (i := 1) (show 1 < 7 by decide) rfl, hR.cl (k := 1) (i := 2) (show 2 < 7 by decide) rfl, hR.cl (k := 1) (i := 3) (show 3 < 7 by decide) rfl, hR.cl (k := 1) (i := 4) (show 4 < 7 by decide) rfl, hR.cl (k := 1) (i := 5) (show 5 < 7 by decide) rfl, hR.cl (k := 1) (i := 6) (show 6 < 7 by decide) rfl, hR.qr (k := 4) (i := 2) (show 2 < 3 by decide) rfl, (q_frameAt_t hR hf), q_Hs_isWithin, (hR.fd (k := 6) (i := f) hf rfl 3 rfl), o_push, o_iload, o_lload, o_aload, o_istore, o_lstore, o_astore, o_iinc, o_iincW, o_ii, o_iiz, o_i1, o_l1, o_ll, o_li, o_dup, o_pop, o_dupx1, o_dup2, o_goto, o_if, o_icmp, o_acmp, o_ifnull, o_ifnonnull, o_get, o_put, o_iald, o_iast, o_aald, o_aast, o_alen, o_alenZ, o_cast, o_objinit, o_new, o_newi, o_newq, o_newqZ, o_alZ, o_getC, o_iret, o_zret, o_lret, o_aret, o_vret, o_mm, o_st, o_sc, o_br, o_sw, o_ret, o_al, o_call, mx_sw, mx_pop, mx_lk, mx_s1, mx_s2, mx_cat, mx_rr, mx_rv, mx_z01_0, mx_z01_1, mx_vI, mx_vJ, mx_vA, va_rf, List.filter_cons, List.filter_nil, Value.category, List.map_cons, List.map_nil, List.sum_cons, List.sum_nil, reduceCtorEq, ↓reduceIte, if_true, if_false, decide_true, decide_false, Bool.not_true, Bool.not_false, Bool.and_true, Bool.true_and, Bool.and_false, Bool.false_and, beq_self_eq_true, Nat.reduceAdd, Nat.reduceBEq, Nat.reduceEqDiff, Nat.reduceLeDiff, Nat.add_zero, Nat.zero_add, Nat.le_refl, Nat.zero_le, true_and, and_true, Option.toList_some, Option.toList_none, List.cons_append, List.nil_append, and_self, not_false_eq_true, not_true_eq_false, forall_const, imp_self, true_implies, false_implies, i10, i01]
    refine ⟨fun e => rej (by simp [e]), fun e => ⟨fun e2 => rej (by
      rw [nI_16] at e2
      have := (nI_leI (by omega) (by omega)).mp e2
      simp [show s.1 1 = 16 by omega]), fun e2 => ⟨fun e4 => rej (by simp [zb e4]), fun e4 => ⟨fun e5 => ?_, fun e5 => ?_⟩⟩⟩⟩
    · have e0 : s.2 0 0 = 0 := Classical.not_not.mp e
      have hn16 : s.1 1 < 16 := by
        rw [nI_16] at e2
        have := (not_congr (nI_leI (a := 16) (b := s.1 1) (by omega) (by omega))).mp e2
        omega
      obtain ⟨w0, hw1, hw2, rfl⟩ := se_wi_c (a := 1) (b := 16) (nb e4) rfl rfl (by decide) (by decide)
      have hcw : (nI w0).toNatClampNeg = w0 := nI_clamp (by omega)
      have e5 := nb e5
      obtain ⟨o, ho, how⟩ : ∃ o : Nat, off = nI o ∧ o + w0 ≤ 8 * n := by
        rw [e3, nI_8, pk_mul] at e5
        by_cases hle : w0 ≤ 8 * n
        · have e6 : nI (8 * n) - nI w0 = nI (8 * n - w0) := by
            have : nI (8 * n) = nI (8 * n - w0) + nI w0 := by rw [nI_add]; congr 1; omega
            rw [this, Int32.add_sub_cancel]
          rw [e6] at e5
          obtain ⟨o, _, ho, rfl⟩ := se_wi_c (a := 0) (b := 8 * n - w0) e5 rfl rfl (by decide) (by omega)
          exact ⟨o, rfl, by omega⟩
        · exfalso
          unfold se_wi at e5
          simp only [Bool.and_eq_true, Bool.not_eq_true', decide_eq_false_iff_not] at e5
          have h1 := Int32.not_lt.mp e5.1
          have h2 := Int32.not_lt.mp e5.2
          have h3 := Int32.le_trans h1 h2
          rw [Int32.le_iff_toInt_le] at h3
          have : (nI (8 * n) - nI w0).toInt = (8 * n : Int) - w0 := by
            have k : ∀ n : Fin 9, ∀ w : Fin 17, (nI (8 * n.1) - nI w.1).toInt = (8 * n.1 : Int) - w.1 := by decide +kernel
            exact k ⟨n, by omega⟩ ⟨w0, by omega⟩
          rw [this] at h3
          have z : (0 : Int32).toInt = 0 := by decide
          omega
      subst ho
      have hbt := tk_and (htk f hf) hw1 hw2 (show o + w0 ≤ 64 by omega)
      have e16 : se_wi (nI w0) 1 16 = true := nb e4
      have n1 : (!(s.2 0 0 == 0) || s.1 1 == 16 || !se_wi (nI f) 0 (nI (s.1 0) - 1) || !se_wi (nI w0) 1 16) = false := by simp [e0, ef, e16, show s.1 1 ≠ 16 by omega]
      rw [st_Hs_signal_63]
      simp only [o_new, o_al]
      refine ⟨trivial, by decide, by decide, fun q hq => ?_⟩
      have nq := hR.nq hq
      have hc1 : va_up h q (some (.inr (2, [.null, .int 0, .int 0, .int 0, .int 0]))) q = _ := va_up_self _ _ _
      simp only [st_Hs_signal_0, st_Hs_signal_1, st_Hs_signal_2, st_Hs_signal_5, st_Hs_signal_7, st_Hs_signal_8, st_Hs_signal_11, st_Hs_signal_14, st_Hs_signal_15, st_Hs_signal_18, st_Hs_signal_21, st_Hs_signal_23, st_Hs_signal_26, st_Hs_signal_28, st_Hs_signal_31, st_Hs_signal_32, st_Hs_signal_33, st_Hs_signal_34, st_Hs_signal_35, st_Hs_signal_37, st_Hs_signal_40, st_Hs_signal_43, st_Hs_signal_44, st_Hs_signal_45, st_Hs_signal_47, st_Hs_signal_49, st_Hs_signal_52, st_Hs_signal_53, st_Hs_signal_54, st_Hs_signal_55, st_Hs_signal_58, st_Hs_signal_61, st_Hs_signal_62, st_Hs_signal_63, st_Hs_signal_66, st_Hs_signal_67, st_Hs_signal_69, st_Hs_signal_70, st_Hs_signal_71, st_Hs_signal_76, st_Hs_signal_78, st_Hs_signal_80, st_Hs_signal_83, st_Hs_signal_85, st_Hs_signal_88, st_Hs_signal_89, st_Hs_signal_90, st_Hs_signal_91, st_Hs_signal_94, st_Hs_signal_96, st_Hs_signal_98, st_Hs_signal_101, st_Hs_signal_104, st_Hs_signal_105, st_Hs_signal_106, st_Hs_signal_108, st_Hs_signal_109, st_Hs_signal_112, st_Hs_signal_114, st_Hs_signal_117, st_Hs_signal_121, st_Hs_signal_123, st_Hs_signal_125, st_Hs_signal_128, st_Hs_signal_129, st_Hs_signal_132, st_Hs_signal_134, st_Hs_signal_137, st_Hs_signal_138, st_Hs_signal_139, st_Hs_signal_142, st_Hs_signal_145, st_Hs_signal_146, st_Hs_signal_147, o_push, o_iload, o_lload, o_aload, o_istore, o_lstore, o_astore, o_iinc, o_iincW, o_ii, o_iiz, o_i1, o_l1, o_ll, o_li, o_dup, o_pop, o_dupx1, o_dup2, o_goto, o_if, o_icmp, o_acmp, o_ifnull, o_ifnonnull, o_get, o_put, o_iald, o_iast, o_aald, o_aast, o_alen, o_alenZ, o_cast, o_objinit, o_new, o_newi, o_newq, o_newqZ, o_alZ, o_getC, o_iret, o_zret, o_lret, o_aret, o_vret, o_mm, o_st, o_sc, o_br, o_sw, o_ret, o_al, o_call, mx_sw, mx_pop, mx_lk, mx_s1, mx_s2, mx_cat, mx_rr, mx_rv, mx_z01_0, mx_z01_1, mx_vI, mx_vJ, mx_vA, va_rf, List.filter_cons, List.filter_nil, Value.category, List.map_cons, List.map_nil, List.sum_cons, List.sum_nil, reduceCtorEq, ↓reduceIte, if_true, if_false, decide_true, decide_false, Bool.not_true, Bool.not_false, Bool.and_true, Bool.true_and, Bool.and_false, Bool.false_and, beq_self_eq_true, Nat.reduceAdd, Nat.reduceBEq, Nat.reduceEqDiff, Nat.reduceLeDiff, Nat.add_zero, Nat.zero_add, Nat.le_refl, Nat.zero_le, true_and, and_true, Option.toList_some, Option.toList_none, List.cons_append, List.nil_append, and_self, not_false_eq_true, not_true_eq_false, forall_const, imp_self, true_implies, false_implies, i10, i01]
      rw [st_Hs_signal_73]
      simp only [o_call, mx_pop]
      refine ⟨trivial, Nat.le_of_ble_eq_true rfl, by decide, by decide, ?_⟩
      refine q_Sg_init zz hc1 _ _ _ _ _ (fun h2 o2 c2 => ?_)
      have eh : h2 = va_up h q (some (.inr (2, [.ref (ad 6 f), .int (nI o), .int (nI w0), .int v, .int 0]))) := by
        funext y
        by_cases hy : y = q
        · rw [hy, c2, va_up_self]
        · rw [o2 y hy, va_up_ne _ _ hy, va_up_ne _ _ hy]
      have hR2 := hR.fresh nq (some (.inr (2, [.ref (ad 6 f), .int (nI o), .int (nI w0), .int v, .int 0])))
      rw [← eh] at hR2
      have bq : ∀ P, S_Sg_bits zz [.ref q] h2 P = P (some (.long (bts (nI o) (nI w0)))) h2 := fun P => q_Sg_bits zz (clsc c2) (fldc (k := 1) c2 rfl) (fldc (k := 2) c2 rfl) P
      have cq : ∀ P, S_Sg_canHold zz [.ref q, .int v] h2 P = P (some (.int (se_b (se_wi v 0 ((1 <<< (nI w0 &&& 31)) - 1))))) h2 := fun P => q_canHold zz hw2 (clsc c2) (fldc (k := 2) c2 rfl) v P
      simp only [st_Hs_signal_0, st_Hs_signal_1, st_Hs_signal_2, st_Hs_signal_5, st_Hs_signal_7, st_Hs_signal_8, st_Hs_signal_11, st_Hs_signal_14, st_Hs_signal_15, st_Hs_signal_18, st_Hs_signal_21, st_Hs_signal_23, st_Hs_signal_26, st_Hs_signal_28, st_Hs_signal_31, st_Hs_signal_32, st_Hs_signal_33, st_Hs_signal_34, st_Hs_signal_35, st_Hs_signal_37, st_Hs_signal_40, st_Hs_signal_43, st_Hs_signal_44, st_Hs_signal_45, st_Hs_signal_47, st_Hs_signal_49, st_Hs_signal_52, st_Hs_signal_53, st_Hs_signal_54, st_Hs_signal_55, st_Hs_signal_58, st_Hs_signal_61, st_Hs_signal_62, st_Hs_signal_63, st_Hs_signal_66, st_Hs_signal_67, st_Hs_signal_69, st_Hs_signal_70, st_Hs_signal_71, st_Hs_signal_73, st_Hs_signal_76, st_Hs_signal_78, st_Hs_signal_80, st_Hs_signal_83, st_Hs_signal_85, st_Hs_signal_88, st_Hs_signal_89, st_Hs_signal_90, st_Hs_signal_91, st_Hs_signal_94, st_Hs_signal_96, st_Hs_signal_98, st_Hs_signal_101, st_Hs_signal_104, st_Hs_signal_105, st_Hs_signal_106, st_Hs_signal_108, st_Hs_signal_109, st_Hs_signal_112, st_Hs_signal_114, st_Hs_signal_117, st_Hs_signal_121, st_Hs_signal_123, st_Hs_signal_128, st_Hs_signal_129, st_Hs_signal_132, st_Hs_signal_134, st_Hs_signal_137, st_Hs_signal_138, st_Hs_signal_139, st_Hs_signal_142, st_Hs_signal_145, st_Hs_signal_146, st_Hs_signal_147, (hR2.fd (k := 6) (i := f) hf rfl 6 rfl), bq, cq, (clsc c2), lg_cmp_eq, o_push, o_iload, o_lload, o_aload, o_istore, o_lstore, o_astore, o_iinc, o_iincW, o_ii, o_iiz, o_i1, o_l1, o_ll, o_li, o_dup, o_pop, o_dupx1, o_dup2, o_goto, o_if, o_icmp, o_acmp, o_ifnull, o_ifnonnull, o_get, o_put, o_iald, o_iast, o_aald, o_aast, o_alen, o_alenZ, o_cast, o_objinit, o_new, o_newi, o_newq, o_newqZ, o_alZ, o_getC, o_iret, o_zret, o_lret, o_aret, o_vret, o_mm, o_st, o_sc, o_br, o_sw, o_ret, o_al, o_call, mx_sw, mx_pop, mx_lk, mx_s1, mx_s2, mx_cat, mx_rr, mx_rv, mx_z01_0, mx_z01_1, mx_vI, mx_vJ, mx_vA, va_rf, List.filter_cons, List.filter_nil, Value.category, List.map_cons, List.map_nil, List.sum_cons, List.sum_nil, reduceCtorEq, ↓reduceIte, if_true, if_false, decide_true, decide_false, Bool.not_true, Bool.not_false, Bool.and_true, Bool.true_and, Bool.and_false, Bool.false_and, beq_self_eq_true, Nat.reduceAdd, Nat.reduceBEq, Nat.reduceEqDiff, Nat.reduceLeDiff, Nat.add_zero, Nat.zero_add, Nat.le_refl, Nat.zero_le, true_and, and_true, Option.toList_some, Option.toList_none, List.cons_append, List.nil_append, and_self, not_false_eq_true, not_true_eq_false, forall_const, imp_self, true_implies, false_implies, i10, i01]
      have rej2 : (!se_wi (nI o) (if 0 < s.2 6 f then 8 else 0) (8 * s.2 3 f - nI w0) || !se_wi v 0 ((1 <<< (nI w0 &&& 31)) - 1)) = true ∨ se_any (fun j => se_bt s (nI f) (nI o + nI j)) w0 = true → P (some (.int (-1))) h2 := fun z => hrej h2 hR2 (by
        unfold se_signal
        rw [n1, hcf, hcw]
        rcases z with z | z
        · rw [z]
          rfl
        · rw [z]
          simp only [Bool.false_eq_true, ↓reduceIte, ite_self])
      refine ⟨fun e7 => rej2 ?_, fun e7 => ⟨fun e9 => ?_, fun e9 => rej2 (Or.inl (by simp [zb (Classical.not_not.mp e9)]))⟩⟩
      · by_cases hp : 0 < s.2 6 f ∧ o < 8
        · left
          rw [if_pos hp.1]
          have : se_wi (nI o) 8 (8 * s.2 3 f - nI w0) = false := by
            have h1 : nI o < 8 := nI_lt (a := o) (b := 8) hp.2 (by decide)
            simp [se_wi, h1]
          rw [this]
          rfl
        · right
          cases ea : se_any (fun j => se_bt s (nI f) (nI o + nI j)) w0 with
          | true => rfl
          | false => exact absurd (hbt.mpr ⟨hp, ea⟩) e7
      · obtain ⟨g1, g2⟩ := hbt.mp (Classical.not_not.mp e7)
        have e9 := nb e9
        have es : se_signal s (nI f) (nI o) (nI w0) v = (nI (s.1 1), va_up s.1 1 (s.1 1 + 1), up2 (up2 (up2 (up2 (up2 s.2 7 (s.1 1) (nI f)) 8 (s.1 1) (nI o)) 9 (s.1 1) (nI w0)) 10 (s.1 1) v) 11 (s.1 1) v) := by
          have k1 : se_wi (nI o) (if 0 < s.2 6 f then 8 else 0) (8 * s.2 3 f - nI w0) = true := by
            split
            · rename_i hp
              unfold se_wi at e5 ⊢
              have : ¬ nI o < 8 := nI_nlt (a := o) (b := 8) (by
                have g3 : ¬ o < 8 := fun z => g1 ⟨hp, z⟩
                omega) (by omega)
              simp only [Bool.and_eq_true] at e5 ⊢
              exact ⟨by simp [this], e5.2⟩
            · exact e5
          unfold se_signal
          rw [n1, hcf, hcw, k1, e9, g2]
          rfl
        have nqf : q ≠ ad 6 f := fun z => nq 6 f hf z.symm
        refine XputTO (st_Hs_signal_118 ..) hR2 hf trivial (fun h3 x3 ex3 o3 hR3 => ?_)
        have c3 := (o3 q nqf).trans c2
        simp only [st_Hs_signal_0, st_Hs_signal_1, st_Hs_signal_2, st_Hs_signal_5, st_Hs_signal_7, st_Hs_signal_8, st_Hs_signal_11, st_Hs_signal_14, st_Hs_signal_15, st_Hs_signal_18, st_Hs_signal_21, st_Hs_signal_23, st_Hs_signal_26, st_Hs_signal_28, st_Hs_signal_31, st_Hs_signal_32, st_Hs_signal_33, st_Hs_signal_34, st_Hs_signal_35, st_Hs_signal_37, st_Hs_signal_40, st_Hs_signal_43, st_Hs_signal_44, st_Hs_signal_45, st_Hs_signal_47, st_Hs_signal_49, st_Hs_signal_52, st_Hs_signal_53, st_Hs_signal_54, st_Hs_signal_55, st_Hs_signal_58, st_Hs_signal_61, st_Hs_signal_62, st_Hs_signal_63, st_Hs_signal_66, st_Hs_signal_67, st_Hs_signal_69, st_Hs_signal_70, st_Hs_signal_71, st_Hs_signal_73, st_Hs_signal_76, st_Hs_signal_78, st_Hs_signal_80, st_Hs_signal_83, st_Hs_signal_85, st_Hs_signal_88, st_Hs_signal_89, st_Hs_signal_90, st_Hs_signal_91, st_Hs_signal_94, st_Hs_signal_96, st_Hs_signal_98, st_Hs_signal_101, st_Hs_signal_104, st_Hs_signal_105, st_Hs_signal_106, st_Hs_signal_108, st_Hs_signal_109, st_Hs_signal_112, st_Hs_signal_114, st_Hs_signal_117, st_Hs_signal_121, st_Hs_signal_123, st_Hs_signal_128, st_Hs_signal_129, st_Hs_signal_132, st_Hs_signal_134, st_Hs_signal_137, st_Hs_signal_138, st_Hs_signal_139, st_Hs_signal_142, st_Hs_signal_145, st_Hs_signal_146, st_Hs_signal_147, o_push, o_iload, o_lload, o_aload, o_istore, o_lstore, o_astore, o_iinc, o_iincW, o_ii, o_iiz, o_i1, o_l1, o_ll, o_li, o_dup, o_pop, o_dupx1, o_dup2, o_goto, o_if, o_icmp, o_acmp, o_ifnull, o_ifnonnull, o_get, o_put, o_iald, o_iast, o_aald, o_aast, o_alen, o_alenZ, o_cast, o_objinit, o_new, o_newi, o_newq, o_newqZ, o_alZ, o_getC, o_iret, o_zret, o_lret, o_aret, o_vret, o_mm, o_st, o_sc, o_br, o_sw, o_ret, o_al, o_call, mx_sw, mx_pop, mx_lk, mx_s1, mx_s2, mx_cat, mx_rr, mx_rv, mx_z01_0, mx_z01_1, mx_vI, mx_vJ, mx_vA, va_rf, List.filter_cons, List.filter_nil, Value.category, List.map_cons, List.map_nil, List.sum_cons, List.sum_nil, reduceCtorEq, ↓reduceIte, if_true, if_false, decide_true, decide_false, Bool.not_true, Bool.not_false, Bool.and_true, Bool.true_and, Bool.and_false, Bool.false_and, beq_self_eq_true, Nat.reduceAdd, Nat.reduceBEq, Nat.reduceEqDiff, Nat.reduceLeDiff, Nat.add_zero, Nat.zero_add, Nat.le_refl, Nat.zero_le, true_and, and_true, Option.toList_some, Option.toList_none, List.cons_append, List.nil_append, and_self, not_false_eq_true, not_true_eq_false, forall_const, imp_self, true_implies, false_implies, i10, i01]
        rw [st_Hs_signal_125]
        simp only [o_call, mx_pop]
        refine ⟨clsc c3, Nat.le_of_ble_eq_true rfl, by decide, by decide, ?_⟩
        refine q_putWritten hR3 hf (clsc c3) (fldc (k := 0) c3 rfl) (fldc (k := 1) c3 rfl) (fldc (k := 2) c3 rfl) v _ (fun h4 o4 hR4 => ?_)
        have c4 : h4 q = some (.inr (2, [.ref (ad 6 f), .int (nI o), .int (nI w0), .int v, .int 0])) := by
          rw [o4, va_up_ne _ _ nqf]
          exact c3
        simp only [st_Hs_signal_0, st_Hs_signal_1, st_Hs_signal_2, st_Hs_signal_5, st_Hs_signal_7, st_Hs_signal_8, st_Hs_signal_11, st_Hs_signal_14, st_Hs_signal_15, st_Hs_signal_18, st_Hs_signal_21, st_Hs_signal_23, st_Hs_signal_26, st_Hs_signal_28, st_Hs_signal_31, st_Hs_signal_32, st_Hs_signal_33, st_Hs_signal_34, st_Hs_signal_35, st_Hs_signal_37, st_Hs_signal_40, st_Hs_signal_43, st_Hs_signal_44, st_Hs_signal_45, st_Hs_signal_47, st_Hs_signal_49, st_Hs_signal_52, st_Hs_signal_53, st_Hs_signal_54, st_Hs_signal_55, st_Hs_signal_58, st_Hs_signal_61, st_Hs_signal_62, st_Hs_signal_63, st_Hs_signal_66, st_Hs_signal_67, st_Hs_signal_69, st_Hs_signal_70, st_Hs_signal_71, st_Hs_signal_73, st_Hs_signal_76, st_Hs_signal_78, st_Hs_signal_80, st_Hs_signal_83, st_Hs_signal_85, st_Hs_signal_88, st_Hs_signal_89, st_Hs_signal_90, st_Hs_signal_91, st_Hs_signal_94, st_Hs_signal_96, st_Hs_signal_98, st_Hs_signal_101, st_Hs_signal_104, st_Hs_signal_105, st_Hs_signal_106, st_Hs_signal_108, st_Hs_signal_109, st_Hs_signal_112, st_Hs_signal_114, st_Hs_signal_117, st_Hs_signal_121, st_Hs_signal_123, st_Hs_signal_125, st_Hs_signal_128, st_Hs_signal_129, st_Hs_signal_132, st_Hs_signal_137, st_Hs_signal_138, st_Hs_signal_139, st_Hs_signal_142, st_Hs_signal_145, st_Hs_signal_146, st_Hs_signal_147, hR4.fd (k := 0) (i := 0) rfl rfl 0 rfl, hR4.fd (k := 0) (i := 0) rfl rfl 1 rfl, hR4.fd (k := 0) (i := 0) rfl rfl 2 rfl, hR4.fd (k := 0) (i := 0) rfl rfl 3 rfl, hR4.fd (k := 0) (i := 0) rfl rfl 4 rfl, hR4.fd (k := 0) (i := 0) rfl rfl 5 rfl, hR4.fd (k := 0) (i := 0) rfl rfl 6 rfl, hR4.fd (k := 0) (i := 0) rfl rfl 7 rfl, hR4.fd (k := 0) (i := 0) rfl rfl 8 rfl, hR4.fd (k := 0) (i := 0) rfl rfl 9 rfl, hR4.fd (k := 0) (i := 0) rfl rfl 10 rfl, hR4.size 0 (by decide), hR4.size 1 (by decide), hR4.size 2 (by decide), hR4.size 3 (by decide), hR4.size 4 (by decide), hR4.size 5 (by decide), hR4.size 6 (by decide), hR4.ir (k := 3) (i := 0) (show 0 < 3 by decide) rfl, hR4.ir (k := 3) (i := 1) (show 1 < 3 by decide) rfl, hR4.ir (k := 3) (i := 2) (show 2 < 3 by decide) rfl, hR4.il (k := 3) (i := 2) (show 2 < 3 by decide) rfl, hR4.fd (k := 4) (i := 0) (show 0 < 3 by decide) rfl 0 rfl, hR4.fd (k := 4) (i := 0) (show 0 < 3 by decide) rfl 1 rfl, hR4.fd (k := 4) (i := 0) (show 0 < 3 by decide) rfl 2 rfl, hR4.fd (k := 4) (i := 0) (show 0 < 3 by decide) rfl 3 rfl, hR4.fd (k := 4) (i := 0) (show 0 < 3 by decide) rfl 4 rfl, hR4.fd (k := 4) (i := 0) (show 0 < 3 by decide) rfl 5 rfl, hR4.fd (k := 4) (i := 0) (show 0 < 3 by decide) rfl 6 rfl, hR4.fd (k := 4) (i := 0) (show 0 < 3 by decide) rfl 7 rfl, hR4.fd (k := 4) (i := 1) (show 1 < 3 by decide) rfl 0 rfl, hR4.fd (k := 4) (i := 1) (show 1 < 3 by decide) rfl 1 rfl, hR4.fd (k := 4) (i := 1) (show 1 < 3 by decide) rfl 2 rfl, hR4.fd (k := 4) (i := 1) (show 1 < 3 by decide) rfl 3 rfl, hR4.cl (k := 0) (i := 0) rfl rfl, hR4.cl (k := 4) (i := 0) (show 0 < 3 by decide) rfl, hR4.cl (k := 4) (i := 1) (show 1 < 3 by decide) rfl, hR4.cl (k := 1) (i := 0) (show 0 < 7 by decide) rfl, hR4.cl (k := 1) (i := 1) (show 1 < 7 by decide) rfl, hR4.cl (k := 1) (i := 2) (show 2 < 7 by decide) rfl, hR4.cl (k := 1) (i := 3) (show 3 < 7 by decide) rfl, hR4.cl (k := 1) (i := 4) (show 4 < 7 by decide) rfl, hR4.cl (k := 1) (i := 5) (show 5 < 7 by decide) rfl, hR4.cl (k := 1) (i := 6) (show 6 < 7 by decide) rfl, hR4.qr (k := 4) (i := 2) (show 2 < 3 by decide) rfl, o_push, o_iload, o_lload, o_aload, o_istore, o_lstore, o_astore, o_iinc, o_iincW, o_ii, o_iiz, o_i1, o_l1, o_ll, o_li, o_dup, o_pop, o_dupx1, o_dup2, o_goto, o_if, o_icmp, o_acmp, o_ifnull, o_ifnonnull, o_get, o_put, o_iald, o_iast, o_aald, o_aast, o_alen, o_alenZ, o_cast, o_objinit, o_new, o_newi, o_newq, o_newqZ, o_alZ, o_getC, o_iret, o_zret, o_lret, o_aret, o_vret, o_mm, o_st, o_sc, o_br, o_sw, o_ret, o_al, o_call, mx_sw, mx_pop, mx_lk, mx_s1, mx_s2, mx_cat, mx_rr, mx_rv, mx_z01_0, mx_z01_1, mx_vI, mx_vJ, mx_vA, va_rf, List.filter_cons, List.filter_nil, Value.category, List.map_cons, List.map_nil, List.sum_cons, List.sum_nil, reduceCtorEq, ↓reduceIte, if_true, if_false, decide_true, decide_false, Bool.not_true, Bool.not_false, Bool.and_true, Bool.true_and, Bool.and_false, Bool.false_and, beq_self_eq_true, Nat.reduceAdd, Nat.reduceBEq, Nat.reduceEqDiff, Nat.reduceLeDiff, Nat.add_zero, Nat.zero_add, Nat.le_refl, Nat.zero_le, true_and, and_true, Option.toList_some, Option.toList_none, List.cons_append, List.nil_append, and_self, not_false_eq_true, not_true_eq_false, forall_const, imp_self, true_implies, false_implies, i10, i01]
        rw [st_Hs_signal_134]
        simp only [o_call, mx_pop]
        refine ⟨hR4.cl (k := 1) (i := 1) (show 1 < 7 by decide) rfl, Nat.le_of_ble_eq_true rfl, by decide, by decide, ?_⟩
        have nq4 : ∀ k i, lvX s (x3.1, up2 x3.2.1 0 f (wrt (x3.2.1 0 f) (nI o) (nI w0) v), x3.2.2) k i → ad k i ≠ q := by
          rw [lvX_as (s := s) (x := x) rfl (by rw [ex3])]
          exact nq
        refine X_add hR4 hR4 (i := 1) (by decide) (by omega) nq4 c4 (by decide) _ (fun h5 b L hb hz hL hL2 hoff ha hb' => ?_)
        have eb : h4 = va_up (va_up h4 q none) q (some (.inr (2, [.ref (ad 6 f), .int (nI o), .int (nI w0), .int v, .int 0]))) := by
          funext y
          by_cases hy : y = q
          · rw [hy, va_up_self, c4]
          · rw [va_up_ne _ _ hy, va_up_ne _ _ hy]
        have hB := hR4.fresh nq4 none
        rw [eb] at hb hoff
        have hR5 := hB.signal hI hf (va_up_self _ _ _) hw12 hb hz hL hL2 hoff ha hb'
        have a00 : up2 (up2 ad 7 (s.1 1) q) 2 1 b 0 0 = ad 0 0 := by
          rw [up2_ne _ _ (fun w => by omega), up2_ne _ _ (fun w => by omega)]
        rw [← a00]
        generalize up2 (up2 ad 7 (s.1 1) q) 2 1 b = ad' at hR5 a00
        have c5 : va_up s.1 1 (s.1 1 + 1) 1 = s.1 1 + 1 := va_up_self _ _ _
        simp only [st_Hs_signal_0, st_Hs_signal_1, st_Hs_signal_2, st_Hs_signal_5, st_Hs_signal_7, st_Hs_signal_8, st_Hs_signal_11, st_Hs_signal_14, st_Hs_signal_15, st_Hs_signal_18, st_Hs_signal_21, st_Hs_signal_23, st_Hs_signal_26, st_Hs_signal_28, st_Hs_signal_31, st_Hs_signal_32, st_Hs_signal_33, st_Hs_signal_34, st_Hs_signal_35, st_Hs_signal_37, st_Hs_signal_40, st_Hs_signal_43, st_Hs_signal_44, st_Hs_signal_45, st_Hs_signal_47, st_Hs_signal_49, st_Hs_signal_52, st_Hs_signal_53, st_Hs_signal_54, st_Hs_signal_55, st_Hs_signal_58, st_Hs_signal_61, st_Hs_signal_62, st_Hs_signal_63, st_Hs_signal_66, st_Hs_signal_67, st_Hs_signal_69, st_Hs_signal_70, st_Hs_signal_71, st_Hs_signal_73, st_Hs_signal_76, st_Hs_signal_78, st_Hs_signal_80, st_Hs_signal_83, st_Hs_signal_85, st_Hs_signal_88, st_Hs_signal_89, st_Hs_signal_90, st_Hs_signal_91, st_Hs_signal_94, st_Hs_signal_96, st_Hs_signal_98, st_Hs_signal_101, st_Hs_signal_104, st_Hs_signal_105, st_Hs_signal_106, st_Hs_signal_108, st_Hs_signal_109, st_Hs_signal_112, st_Hs_signal_114, st_Hs_signal_117, st_Hs_signal_121, st_Hs_signal_123, st_Hs_signal_125, st_Hs_signal_128, st_Hs_signal_129, st_Hs_signal_132, st_Hs_signal_134, st_Hs_signal_137, st_Hs_signal_138, st_Hs_signal_139, st_Hs_signal_142, st_Hs_signal_145, st_Hs_signal_146, st_Hs_signal_147, hR5.fd (k := 0) (i := 0) rfl rfl 0 rfl, hR5.fd (k := 0) (i := 0) rfl rfl 1 rfl, hR5.fd (k := 0) (i := 0) rfl rfl 2 rfl, hR5.fd (k := 0) (i := 0) rfl rfl 3 rfl, hR5.fd (k := 0) (i := 0) rfl rfl 4 rfl, hR5.fd (k := 0) (i := 0) rfl rfl 5 rfl, hR5.fd (k := 0) (i := 0) rfl rfl 6 rfl, hR5.fd (k := 0) (i := 0) rfl rfl 7 rfl, hR5.fd (k := 0) (i := 0) rfl rfl 8 rfl, hR5.fd (k := 0) (i := 0) rfl rfl 9 rfl, hR5.fd (k := 0) (i := 0) rfl rfl 10 rfl, hR5.size 0 (by decide), hR5.size 1 (by decide), hR5.size 2 (by decide), hR5.size 3 (by decide), hR5.size 4 (by decide), hR5.size 5 (by decide), hR5.size 6 (by decide), hR5.ir (k := 3) (i := 0) (show 0 < 3 by decide) rfl, hR5.ir (k := 3) (i := 1) (show 1 < 3 by decide) rfl, hR5.ir (k := 3) (i := 2) (show 2 < 3 by decide) rfl, hR5.il (k := 3) (i := 2) (show 2 < 3 by decide) rfl, hR5.fd (k := 4) (i := 0) (show 0 < 3 by decide) rfl 0 rfl, hR5.fd (k := 4) (i := 0) (show 0 < 3 by decide) rfl 1 rfl, hR5.fd (k := 4) (i := 0) (show 0 < 3 by decide) rfl 2 rfl, hR5.fd (k := 4) (i := 0) (show 0 < 3 by decide) rfl 3 rfl, hR5.fd (k := 4) (i := 0) (show 0 < 3 by decide) rfl 4 rfl, hR5.fd (k := 4) (i := 0) (show 0 < 3 by decide) rfl 5 rfl, hR5.fd (k := 4) (i := 0) (show 0 < 3 by decide) rfl 6 rfl, hR5.fd (k := 4) (i := 0) (show 0 < 3 by decide) rfl 7 rfl, hR5.fd (k := 4) (i := 1) (show 1 < 3 by decide) rfl 0 rfl, hR5.fd (k := 4) (i := 1) (show 1 < 3 by decide) rfl 1 rfl, hR5.fd (k := 4) (i := 1) (show 1 < 3 by decide) rfl 2 rfl, hR5.fd (k := 4) (i := 1) (show 1 < 3 by decide) rfl 3 rfl, hR5.cl (k := 0) (i := 0) rfl rfl, hR5.cl (k := 4) (i := 0) (show 0 < 3 by decide) rfl, hR5.cl (k := 4) (i := 1) (show 1 < 3 by decide) rfl, hR5.cl (k := 1) (i := 0) (show 0 < 7 by decide) rfl, hR5.cl (k := 1) (i := 1) (show 1 < 7 by decide) rfl, hR5.cl (k := 1) (i := 2) (show 2 < 7 by decide) rfl, hR5.cl (k := 1) (i := 3) (show 3 < 7 by decide) rfl, hR5.cl (k := 1) (i := 4) (show 4 < 7 by decide) rfl, hR5.cl (k := 1) (i := 5) (show 5 < 7 by decide) rfl, hR5.cl (k := 1) (i := 6) (show 6 < 7 by decide) rfl, hR5.qr (k := 4) (i := 2) (show 2 < 3 by decide) rfl, c5, nI_ps, o_push, o_iload, o_lload, o_aload, o_istore, o_lstore, o_astore, o_iinc, o_iincW, o_ii, o_iiz, o_i1, o_l1, o_ll, o_li, o_dup, o_pop, o_dupx1, o_dup2, o_goto, o_if, o_icmp, o_acmp, o_ifnull, o_ifnonnull, o_get, o_put, o_iald, o_iast, o_aald, o_aast, o_alen, o_alenZ, o_cast, o_objinit, o_new, o_newi, o_newq, o_newqZ, o_alZ, o_getC, o_iret, o_zret, o_lret, o_aret, o_vret, o_mm, o_st, o_sc, o_br, o_sw, o_ret, o_al, o_call, mx_sw, mx_pop, mx_lk, mx_s1, mx_s2, mx_cat, mx_rr, mx_rv, mx_z01_0, mx_z01_1, mx_vI, mx_vJ, mx_vA, va_rf, List.filter_cons, List.filter_nil, Value.category, List.map_cons, List.map_nil, List.sum_cons, List.sum_nil, reduceCtorEq, ↓reduceIte, if_true, if_false, decide_true, decide_false, Bool.not_true, Bool.not_false, Bool.and_true, Bool.true_and, Bool.and_false, Bool.false_and, beq_self_eq_true, Nat.reduceAdd, Nat.reduceBEq, Nat.reduceEqDiff, Nat.reduceLeDiff, Nat.add_zero, Nat.zero_add, Nat.le_refl, Nat.zero_le, true_and, and_true, Option.toList_some, Option.toList_none, List.cons_append, List.nil_append, and_self, not_false_eq_true, not_true_eq_false, forall_const, imp_self, true_implies, false_implies, i10, i01]
        refine hacc h5 ad' L f o w0 n a00 hf rfl rfl rfl hw1 hw2 e3 hn8 how hn16 e0 g1 g2 e9 es ?_
        rw [es]
        unfold xsig
        rw [ex3] at hR5
        exact hR5
    · refine hrej h hR ?_
      have z := zb (Classical.not_not.mp e5)
      unfold se_signal
      rw [hcf]
      have z2 : se_wi off (if 0 < s.2 6 f then 8 else 0) (8 * s.2 3 f - w) = false := by
        split
        · cases zz : se_wi off 8 (8 * s.2 3 f - w) with
          | false => rfl
          | true =>
            unfold se_wi at z zz
            simp only [Bool.and_eq_true, Bool.not_eq_true', decide_eq_false_iff_not] at zz
            have h1 : ¬ off < 0 := fun q => zz.1 (by
              rw [Int32.lt_iff_toInt_lt] at q ⊢
              have a1 : (0 : Int32).toInt = 0 := by decide
              have a2 : (8 : Int32).toInt = 8 := by decide
              omega)
            simp [h1, zz.2] at z
        · exact z
      rw [z2]
      split
      · rfl
      · rfl
