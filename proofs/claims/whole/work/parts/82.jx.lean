abbrev JX (s : se_S) (x : xX) : Prop := (∀ f, f < s.1 0 → x.1 1 f = sf_grd (s.2 1 f)) ∧ (∀ e, e < s.1 3 → x.1 2 e = sf_grd (s.2 14 e)) ∧ (∀ i, i < 60 → x.1 3 i = se_b (se_tk s (nI i))) ∧ (x.1 4 0 = if 0 < s.2 0 9 then s.2 16 (s.2 0 9 - 1).toNatClampNeg else -1) ∧ (x.1 4 1 = if s.2 0 11 = 0 then -1 else s.2 0 12) ∧ (dt s (x.2.1 0)) ∧ (∀ f, f < s.1 0 → ∀ c, c < 64 → lb (x.2.1 1 f) c = (decide (0 < s.2 6 f ∧ c < 8) || se_bt s (nI f) (nI c)))
theorem JX.hd {s : se_S} {x : xX} (h : JX s x) : ∀ f, f < s.1 0 → x.1 1 f = sf_grd (s.2 1 f) := h.1
theorem JX.eh {s : se_S} {x : xX} (h : JX s x) : ∀ e, e < s.1 3 → x.1 2 e = sf_grd (s.2 14 e) := h.2.1
theorem JX.bo {s : se_S} {x : xX} (h : JX s x) : ∀ i, i < 60 → x.1 3 i = se_b (se_tk s (nI i)) := h.2.2.1
theorem JX.rb {s : se_S} {x : xX} (h : JX s x) : x.1 4 0 = if 0 < s.2 0 9 then s.2 16 (s.2 0 9 - 1).toNatClampNeg else -1 := h.2.2.2.1
theorem JX.nb {s : se_S} {x : xX} (h : JX s x) : x.1 4 1 = if s.2 0 11 = 0 then -1 else s.2 0 12 := h.2.2.2.2.1
theorem JX.da {s : se_S} {x : xX} (h : JX s x) : dt s (x.2.1 0) := h.2.2.2.2.2.1
theorem JX.tk {s : se_S} {x : xX} (h : JX s x) : ∀ f, f < s.1 0 → ∀ c, c < 64 → lb (x.2.1 1 f) c = (decide (0 < s.2 6 f ∧ c < 8) || se_bt s (nI f) (nI c)) := h.2.2.2.2.2.2
theorem JX.mk {s : se_S} {x : xX} (x0 : ∀ f, f < s.1 0 → x.1 1 f = sf_grd (s.2 1 f)) (x1 : ∀ e, e < s.1 3 → x.1 2 e = sf_grd (s.2 14 e)) (x2 : ∀ i, i < 60 → x.1 3 i = se_b (se_tk s (nI i))) (x3 : x.1 4 0 = if 0 < s.2 0 9 then s.2 16 (s.2 0 9 - 1).toNatClampNeg else -1) (x4 : x.1 4 1 = if s.2 0 11 = 0 then -1 else s.2 0 12) (x5 : dt s (x.2.1 0)) (x6 : ∀ f, f < s.1 0 → ∀ c, c < 64 → lb (x.2.1 1 f) c = (decide (0 < s.2 6 f ∧ c < 8) || se_bt s (nI f) (nI c))) : JX s x := ⟨x0, x1, x2, x3, x4, x5, x6⟩
theorem se_any_as {p p' : Nat → Bool} : ∀ n, (∀ j, j < n → p j = p' j) → se_any p n = se_any p' n
  | 0, _ => rfl
  | n + 1, h => by
    unfold se_any
    rw [se_any_as n (fun j hj => h j (by omega)), h n (by omega)]
theorem bt_as {s s' : se_S} (c1 : s'.1 1 = s.1 1) (e7 : s'.2 7 = s.2 7) (e8 : s'.2 8 = s.2 8) (e9 : s'.2 9 = s.2 9) (f b : Int32) : se_bt s' f b = se_bt s f b := by
  unfold se_bt se_cov
  rw [c1, e7, e8, e9]
theorem zr_as {s s' : se_S} (e7 : s'.2 7 = s.2 7) (e8 : s'.2 8 = s.2 8) (e9 : s'.2 9 = s.2 9) (e10 : s'.2 10 = s.2 10) (f c n : Nat) : zr s' f c n = zr s f c n := by
  unfold zr
  simp only [cvr_as e8 e9, e7, e8, e10]
theorem JX_as {s s' : se_S} {x x' : xX} (h : JX s x) (c0 : s'.1 0 = s.1 0) (c1 : s'.1 1 = s.1 1) (c3 : s'.1 3 = s.1 3) (hr : ∀ q, q = 1 ∨ q = 6 ∨ q = 7 ∨ q = 8 ∨ q = 9 ∨ q = 10 ∨ q = 14 ∨ q = 16 → s'.2 q = s.2 q) (x1 : ∀ q, q = 1 ∨ q = 2 ∨ q = 3 → x'.1 q = x.1 q) (x2 : x'.2.1 = x.2.1) (rb : x'.1 4 0 = if 0 < s'.2 0 9 then s.2 16 (s'.2 0 9 - 1).toNatClampNeg else -1) (nb : x'.1 4 1 = if s'.2 0 11 = 0 then -1 else s'.2 0 12) : JX s' x' := by
  have e1 := hr 1 (by simp)
  have e6 := hr 6 (by simp)
  have e7 := hr 7 (by simp)
  have e8 := hr 8 (by simp)
  have e9 := hr 9 (by simp)
  have e10 := hr 10 (by simp)
  have e14 := hr 14 (by simp)
  have e16 := hr 16 (by simp)
  refine JX.mk ?_ ?_ ?_ ?_ ?_ ?_ ?_
  · rw [c0, e1, x1 1 (by simp)]; exact h.hd
  · rw [c3, e14, x1 2 (by simp)]; exact h.eh
  · unfold se_tk
    rw [c0, c3, e1, e14, x1 3 (by simp)]; exact h.bo
  · rw [e16]; exact rb
  · exact nb
  · unfold dt
    rw [c0, c1, e1, e6, x2]
    simp only [zr_as e7 e8 e9 e10]
    exact h.da
  · rw [c0, e6, x2]
    simp only [bt_as c1 e7 e8 e9]
    exact h.tk
theorem hold_key : ∀ w : Fin 17, ((1 : Int32) <<< (nI w.1 &&& 31)) - 1 = nI (2 ^ w.1 - 1) := by decide +kernel
theorem wi_hold {w : Nat} {v : Int32} (hw : w ≤ 16) (h : se_wi v 0 ((1 <<< (nI w &&& 31)) - 1) = true) : ∃ m, m < 2 ^ w ∧ v = nI m := by
  have h65 : 2 ^ w ≤ 2 ^ 16 := Nat.pow_le_pow_right (by decide) hw
  have h0 : 0 < 2 ^ w := Nat.two_pow_pos w
  obtain ⟨j, _, hj, e⟩ := se_wi_c (a := 0) (b := 2 ^ w - 1) h rfl (hold_key ⟨w, by omega⟩) (by decide) (by omega)
  exact ⟨j, by omega, e⟩
theorem lb_small {m : Nat} (hm : m < 2 ^ 31) {c : Nat} (hc : c < 64) : lb (nI m).toInt64 c = m.testBit c := by
  unfold lb
  rw [Int32.toBitVec_toInt64, BitVec.getLsbD_signExtend]
  have h31 : (nI m).toBitVec.msb = false := by
    rw [BitVec.msb_eq_getLsbD_last]
    have := ib_nI (m := m) (by omega) 31
    unfold ib at this
    show (nI m).toBitVec.getLsbD 31 = false
    rw [this]
    exact Nat.testBit_lt_two_pow hm
  rw [h31]
  by_cases h32 : c < 32
  · have := ib_nI (m := m) (by omega) c
    unfold ib at this
    rw [this]
    simp [h32, hc]
  · rw [Nat.testBit_lt_two_pow (Nat.lt_of_lt_of_le hm (Nat.pow_le_pow_right (by decide) (by omega)))]
    simp [h32]
theorem lb_wrt (d : Int64) {o w m : Nat} (h1 : 1 ≤ w) (hw : w ≤ 16) (how : o + w ≤ 64) (hm : m < 2 ^ w) {c : Nat} (hc : c < 64) : lb (wrt d (nI o) (nI w) (nI m)) c = if o ≤ c ∧ c < o + w then ib (nI m) (c - o) else lb d c := by
  have h65 : 2 ^ w ≤ 2 ^ 16 := Nat.pow_le_pow_right (by decide) hw
  unfold wrt
  rw [lb_or, lb_and, lb_xor, lb_bts hw how h1, lb_m1 hc, lb_shl _ (by omega), lb_small (by omega) (by omega), ib_nI (by omega)]
  by_cases ha : o ≤ c
  · by_cases hb : c < o + w
    · simp [ha, hb, hc, show ¬ c < o by omega]
    · have : m.testBit (c - o) = false := Nat.testBit_lt_two_pow (Nat.lt_of_lt_of_le hm (Nat.pow_le_pow_right (by decide) (by omega)))
      simp [hb, this]
  · simp [ha, show c < o by omega]
theorem JX_frame {s : se_S} {x : xX} (hG : GA s) (h : JX s x) {id node len more : Int32} {i L : Nat} (hi : i < 60) (eid : id = nI i) : JX (va_up s.1 0 (s.1 0 + 1), up2 (up2 (up2 (up2 s.2 1 (s.1 0) id) 2 (s.1 0) node) 3 (s.1 0) len) 4 (s.1 0) more) (xframe s x id L) := by
  have nosig : ∀ j, j < s.1 1 → ¬ s.2 7 j = nI (s.1 0) := fun j hj e => by
    obtain ⟨f, _, _, _, hf, _, _, ef, _⟩ := hG.sg j hj
    have h0 := hG.c0
    rw [ef, nI_eq (by omega) (by omega)] at e
    omega
  have hci : id.toNatClampNeg = i := by rw [eid, nI_clamp (by omega)]
  refine JX.mk ?_ ?_ ?_ ?_ ?_ ?_ ?_
  · intro f hf
    have hf : f < s.1 0 + 1 := hf
    show up2 (up2 (up2 x.1 0 0 (x.1 0 0 + 1)) 1 (s.1 0) (sf_grd id)) 3 id.toNatClampNeg 1 1 f = sf_grd (up2 (up2 (up2 (up2 s.2 1 (s.1 0) id) 2 (s.1 0) node) 3 (s.1 0) len) 4 (s.1 0) more 1 f)
    by_cases e : f = s.1 0
    · simp [up2, e]
    · simp [up2, e]
      exact h.hd f (by omega)
  · exact h.eh
  · intro k hk
    show up2 (up2 (up2 x.1 0 0 (x.1 0 0 + 1)) 1 (s.1 0) (sf_grd id)) 3 id.toNatClampNeg 1 3 k = _
    rw [hci]
    have ht : se_tk (va_up s.1 0 (s.1 0 + 1), up2 (up2 (up2 (up2 s.2 1 (s.1 0) id) 2 (s.1 0) node) 3 (s.1 0) len) 4 (s.1 0) more) (nI k) = (se_tk s (nI k) || id == nI k) := by
      unfold se_tk
      show (se_any (fun f => up2 (up2 (up2 (up2 s.2 1 (s.1 0) id) 2 (s.1 0) node) 3 (s.1 0) len) 4 (s.1 0) more 1 f == nI k) (s.1 0 + 1) || se_any (fun e => s.2 14 e == nI k) (s.1 3)) = _
      rw [show se_any (fun f => up2 (up2 (up2 (up2 s.2 1 (s.1 0) id) 2 (s.1 0) node) 3 (s.1 0) len) 4 (s.1 0) more 1 f == nI k) (s.1 0 + 1) = (se_any (fun f => s.2 1 f == nI k) (s.1 0) || id == nI k) by
        rw [se_any_s]
        congr 1
        · refine se_any_as _ (fun j hj => ?_)
          simp [up2, show j ≠ s.1 0 by omega]
        · simp [up2]]
      cases se_any (fun f => s.2 1 f == nI k) (s.1 0) <;> cases id == nI k <;> simp
    rw [ht]
    by_cases e : k = i
    · rw [e, up2_self, eid]
      simp [se_b]
    · rw [up2_ne _ _ (fun z => e z.2), eid, bf (fun z => e ((nI_eq (by omega) (by omega)).mp z.symm)), Bool.or_false]
      exact h.bo k hk
  · exact h.rb
  · exact h.nb
  · intro f hf c hc
    have hf : f < s.1 0 + 1 := hf
    show lb (up2 (up2 x.2.1 0 (s.1 0) (-1)) 1 (s.1 0) 0 0 f) c = true ↔ ((0 < s.2 6 f ∧ c < 8) ∧ ib (sf_grd (up2 (up2 (up2 (up2 s.2 1 (s.1 0) id) 2 (s.1 0) node) 3 (s.1 0) len) 4 (s.1 0) more 1 f)) c = true) ∨ (¬ (0 < s.2 6 f ∧ c < 8) ∧ ¬ zr s f c (s.1 1))
    by_cases e : f = s.1 0
    · subst e
      rw [up2_ne _ _ (by omega), up2_self, lb_m1 hc, hG.pz _ (Nat.le_refl _)]
      refine ⟨fun _ => Or.inr ⟨fun z => absurd z.1 (by decide), fun ⟨j, hj, e7, _⟩ => nosig j hj e7⟩, fun _ => rfl⟩
    · rw [up2_ne _ _ (by omega), up2_ne _ _ (by omega), (show up2 (up2 (up2 (up2 s.2 1 (s.1 0) id) 2 (s.1 0) node) 3 (s.1 0) len) 4 (s.1 0) more 1 f = s.2 1 f by simp [up2, e])]
      exact h.da f (by omega) c hc
  · intro f hf c hc
    have hf : f < s.1 0 + 1 := hf
    show lb (up2 (up2 x.2.1 0 (s.1 0) (-1)) 1 (s.1 0) 0 1 f) c = (decide (0 < s.2 6 f ∧ c < 8) || se_bt s (nI f) (nI c))
    by_cases e : f = s.1 0
    · subst e
      rw [up2_self, lb_0, hG.pz _ (Nat.le_refl _)]
      have : se_bt s (nI (s.1 0)) (nI c) = false := by
        cases eb : se_bt s (nI (s.1 0)) (nI c) with
        | false => rfl
        | true =>
          obtain ⟨j, hj, e7, _⟩ := (bt_cvr hG (s.1 0) hc).mp eb
          exact absurd e7 (nosig j hj)
      rw [this]
      simp
    · rw [up2_ne _ _ (by omega), up2_ne _ _ (by omega)]
      exact h.tk f (by omega) c hc
theorem JX_write {s : se_S} {x : xX} (hG : GA s) (h : JX s x) {j f : Nat} {v : Int32} (hj : j < s.1 1) (hf : f < s.1 0) (e7 : s.2 7 j = nI f) (hv : se_wi v 0 ((1 <<< (s.2 9 j &&& 31)) - 1) = true) : JX (s.1, up2 (up2 s.2 10 j v) 5 f 1) (x.1, up2 x.2.1 0 f (wrt (x.2.1 0 f) (s.2 8 j) (s.2 9 j) v), x.2.2) := by
  obtain ⟨_, o, w, n, _, hw1, hw, _, e8, e9, _, hn, how⟩ := hG.sg j hj
  have c8 : (s.2 8 j).toNatClampNeg = o := by rw [e8, nI_clamp (by omega)]
  have c9 : (s.2 9 j).toNatClampNeg = w := by rw [e9, nI_clamp (by omega)]
  have h0 := hG.c0
  rw [e9] at hv
  obtain ⟨m, hm, rfl⟩ := wi_hold hw hv
  have r10 : ∀ i, up2 (up2 s.2 10 j (nI m)) 5 f 1 10 i = if i = j then nI m else s.2 10 i := fun i => by simp [up2]
  have hz : ∀ f2 c, f2 < s.1 0 → (zr (s.1, up2 (up2 s.2 10 j (nI m)) 5 f 1) f2 c (s.1 1) ↔ if f2 = f ∧ o ≤ c ∧ c < o + w then ib (nI m) (c - o) = false else zr s f2 c (s.1 1)) := by
    intro f2 c hf2
    have hcv : ∀ i c, cvr (s.1, up2 (up2 s.2 10 j (nI m)) 5 f 1) i c ↔ cvr s i c := fun i c => Iff.of_eq (cvr_as (s := s) (s' := (s.1, up2 (up2 s.2 10 j (nI m)) 5 f 1)) rfl rfl i c)
    have hcj : ∀ c, cvr s j c ↔ o ≤ c ∧ c < o + w := fun c => by unfold cvr; rw [c8, c9]
    by_cases hin : f2 = f ∧ o ≤ c ∧ c < o + w
    · rw [if_pos hin]
      constructor
      · rintro ⟨i, hi, z7, zc, zb⟩
        have z7 : s.2 7 i = nI f2 := z7
        have zb : ib (up2 (up2 s.2 10 j (nI m)) 5 f 1 10 i) (c - (s.2 8 i).toNatClampNeg) = false := zb
        have ei : i = j := Classical.byContradiction (fun ne => hG.ap i j hi hj (by rw [z7, e7, hin.1]) ne c ⟨(hcv i c).mp zc, (hcj c).mpr hin.2⟩)
        rw [r10, if_pos ei, ei, c8] at zb
        exact zb
      · intro zb
        refine ⟨j, hj, by rw [hin.1]; exact e7, (hcv j c).mpr ((hcj c).mpr hin.2), ?_⟩
        show ib (up2 (up2 s.2 10 j (nI m)) 5 f 1 10 j) (c - (s.2 8 j).toNatClampNeg) = false
        rw [r10, if_pos rfl, c8]
        exact zb
    · rw [if_neg hin]
      have key : ∀ i, i < s.1 1 → s.2 7 i = nI f2 → cvr s i c → i ≠ j := fun i hi z7 zc ei => by
        subst ei
        rw [z7, nI_eq (by omega) (by omega)] at e7
        exact hin ⟨e7, (hcj c).mp zc⟩
      constructor
      · rintro ⟨i, hi, z7, zc, zb⟩
        have zc := (hcv i c).mp zc
        have zb : ib (up2 (up2 s.2 10 j (nI m)) 5 f 1 10 i) (c - (s.2 8 i).toNatClampNeg) = false := zb
        rw [r10, if_neg (key i hi z7 zc)] at zb
        exact ⟨i, hi, z7, zc, zb⟩
      · rintro ⟨i, hi, z7, zc, zb⟩
        refine ⟨i, hi, z7, (hcv i c).mpr zc, ?_⟩
        show ib (up2 (up2 s.2 10 j (nI m)) 5 f 1 10 i) (c - (s.2 8 i).toNatClampNeg) = false
        rw [r10, if_neg (key i hi z7 zc)]
        exact zb
  refine JX.mk ?_ ?_ ?_ ?_ ?_ ?_ ?_
  · exact h.hd
  · exact h.eh
  · exact h.bo
  · exact h.rb
  · exact h.nb
  · intro f2 hf2 c hc
    have hf2 : f2 < s.1 0 := hf2
    show lb (up2 x.2.1 0 f (wrt (x.2.1 0 f) (s.2 8 j) (s.2 9 j) (nI m)) 0 f2) c = true ↔ ((0 < s.2 6 f2 ∧ c < 8) ∧ ib (sf_grd (s.2 1 f2)) c = true) ∨ (¬ (0 < s.2 6 f2 ∧ c < 8) ∧ ¬ zr (s.1, up2 (up2 s.2 10 j (nI m)) 5 f 1) f2 c (s.1 1))
    rw [hz f2 c hf2]
    by_cases e : f2 = f
    · subst e
      rw [up2_self, e8, e9, lb_wrt _ hw1 hw (by omega) hm hc]
      by_cases hin : o ≤ c ∧ c < o + w
      · have hn8 : ¬ (0 < s.2 6 f2 ∧ c < 8) := fun z => by
          have := hG.a8 j f2 hj e7 hf2 z.1 c (by unfold cvr; rw [c8, c9]; exact hin)
          omega
        rw [if_pos hin, if_pos ⟨rfl, hin⟩]
        constructor
        · exact fun z => Or.inr ⟨hn8, fun q => by rw [z] at q; cases q⟩
        · rintro (z | z)
          · exact absurd z.1 hn8
          · simpa using z.2
      · rw [if_neg hin, if_neg (fun z => hin z.2)]
        exact h.da f2 hf2 c hc
    · rw [up2_ne _ _ (fun z => e z.2), if_neg (fun z => e z.1)]
      exact h.da f2 hf2 c hc
  · intro f2 hf2 c hc
    show lb (up2 x.2.1 0 f (wrt (x.2.1 0 f) (s.2 8 j) (s.2 9 j) (nI m)) 1 f2) c = (decide (0 < s.2 6 f2 ∧ c < 8) || se_bt s (nI f2) (nI c))
    rw [up2_ne _ _ (by omega)]
    exact h.tk f2 hf2 c hc
theorem JX_signal {s : se_S} {x : xX} (hG : GA s) (h : JX s x) {fr off w v : Int32} {f o w0 n L : Nat} (hf : f < s.1 0) (efr : fr = nI f) (eo : off = nI o) (ew : w = nI w0) (h1 : 1 ≤ w0) (h16 : w0 ≤ 16) (hn : n ≤ 8) (how : o + w0 ≤ 8 * n) (h6 : ¬ (0 < s.2 6 f ∧ o < 8)) (hfree : se_any (fun j => se_bt s (nI f) (nI o + nI j)) w0 = false) (hv : se_wi v 0 ((1 <<< (w &&& 31)) - 1) = true) (hG' : GA (va_up s.1 1 (s.1 1 + 1), up2 (up2 (up2 (up2 (up2 s.2 7 (s.1 1) fr) 8 (s.1 1) off) 9 (s.1 1) w) 10 (s.1 1) v) 11 (s.1 1) v)) : JX (va_up s.1 1 (s.1 1 + 1), up2 (up2 (up2 (up2 (up2 s.2 7 (s.1 1) fr) 8 (s.1 1) off) 9 (s.1 1) w) 10 (s.1 1) v) 11 (s.1 1) v) (xsig x f L off w v) := by
  generalize hs' : ((va_up s.1 1 (s.1 1 + 1), up2 (up2 (up2 (up2 (up2 s.2 7 (s.1 1) fr) 8 (s.1 1) off) 9 (s.1 1) w) 10 (s.1 1) v) 11 (s.1 1) v) : se_S) = s' at hG' ⊢
  have k1 : s'.1 1 = s.1 1 + 1 := by rw [← hs']; rfl
  have kq : ∀ q, q ≠ 1 → s'.1 q = s.1 q := fun q hq => by rw [← hs']; exact va_up_ne _ _ hq
  have rq : ∀ q, q ≠ 7 → q ≠ 8 → q ≠ 9 → q ≠ 10 → q ≠ 11 → s'.2 q = s.2 q := fun q a1 a2 a3 a4 a5 => by
    rw [← hs']
    show up2 (up2 (up2 (up2 (up2 s.2 7 (s.1 1) fr) 8 (s.1 1) off) 9 (s.1 1) w) 10 (s.1 1) v) 11 (s.1 1) v q = _
    rw [up2_k _ _ a5, up2_k _ _ a4, up2_k _ _ a3, up2_k _ _ a2, up2_k _ _ a1]
  have o7 : ∀ j, j ≠ s.1 1 → s'.2 7 j = s.2 7 j := fun j hj => by rw [← hs']; simp [up2, hj]
  have o8 : ∀ j, j ≠ s.1 1 → s'.2 8 j = s.2 8 j := fun j hj => by rw [← hs']; simp [up2, hj]
  have o9 : ∀ j, j ≠ s.1 1 → s'.2 9 j = s.2 9 j := fun j hj => by rw [← hs']; simp [up2, hj]
  have o10 : ∀ j, j ≠ s.1 1 → s'.2 10 j = s.2 10 j := fun j hj => by rw [← hs']; simp [up2, hj]
  have n7 : s'.2 7 (s.1 1) = nI f := by rw [← hs', ← efr]; simp [up2]
  have n8 : s'.2 8 (s.1 1) = nI o := by rw [← hs', ← eo]; simp [up2]
  have n9 : s'.2 9 (s.1 1) = nI w0 := by rw [← hs', ← ew]; simp [up2]
  have n10 : s'.2 10 (s.1 1) = v := by rw [← hs']; simp [up2]
  have cv : ∀ j c, j ≠ s.1 1 → (cvr s' j c ↔ cvr s j c) := fun j c hj => by unfold cvr; rw [o8 j hj, o9 j hj]
  have cvn : ∀ c, cvr s' (s.1 1) c ↔ o ≤ c ∧ c < o + w0 := fun c => by unfold cvr; rw [n8, n9, nI_clamp (by omega), nI_clamp (by omega)]
  have c8n : (s'.2 8 (s.1 1)).toNatClampNeg = o := by rw [n8, nI_clamp (by omega)]
  have e1 := rq 1 (by decide) (by decide) (by decide) (by decide) (by decide)
  have e6 := rq 6 (by decide) (by decide) (by decide) (by decide) (by decide)
  have e14 := rq 14 (by decide) (by decide) (by decide) (by decide) (by decide)
  have e16 := rq 16 (by decide) (by decide) (by decide) (by decide) (by decide)
  have e0 := rq 0 (by decide) (by decide) (by decide) (by decide) (by decide)
  have c0 := kq 0 (by decide)
  have c3 := kq 3 (by decide)
  have h08 := hG.c0
  rw [ew] at hv
  obtain ⟨m, hm, ev⟩ := wi_hold h16 hv
  rw [ev] at n10
  refine JX.mk ?_ ?_ ?_ ?_ ?_ ?_ ?_
  · rw [c0, e1]; exact h.hd
  · rw [c3, e14]; exact h.eh
  · unfold se_tk
    rw [c0, c3, e1, e14]; exact h.bo
  · rw [e16, e0]; exact h.rb
  · rw [e0]; exact h.nb
  · intro f2 hf2 c hc
    rw [c0] at hf2
    rw [e1, e6, k1]
    show lb (up2 (up2 x.2.1 1 f (x.2.1 1 f ||| bts off w)) 0 f (wrt (x.2.1 0 f) off w v) 0 f2) c = true ↔ _
    by_cases hin : f2 = f ∧ o ≤ c ∧ c < o + w0
    · obtain ⟨ef, hin⟩ := hin
      subst ef
      have hn8 : ¬ (0 < s.2 6 f2 ∧ c < 8) := fun z => h6 ⟨z.1, by omega⟩
      rw [up2_self, eo, ew, ev, lb_wrt _ h1 h16 (by omega) hm hc, if_pos hin]
      have hzz : zr s' f2 c (s.1 1 + 1) ↔ ib (nI m) (c - o) = false := by
        constructor
        · rintro ⟨i, hi, z7, zc, zb⟩
          have ei : i = s.1 1 := Classical.byContradiction (fun ne => hG'.ap i (s.1 1) (by rw [k1]; exact hi) (by rw [k1]; omega) (by rw [z7, n7]) ne c ⟨zc, (cvn c).mpr hin⟩)
          rw [ei, n10, c8n] at zb
          exact zb
        · intro zb
          exact ⟨s.1 1, by omega, n7, (cvn c).mpr hin, by rw [n10, c8n]; exact zb⟩
      rw [hzz]
      constructor
      · exact fun z => Or.inr ⟨hn8, fun q => by rw [z] at q; cases q⟩
      · rintro (z | z)
        · exact absurd z.1 hn8
        · simpa using z.2
    · have hzz : zr s' f2 c (s.1 1 + 1) ↔ zr s f2 c (s.1 1) := by
        constructor
        · rintro ⟨i, hi, z7, zc, zb⟩
          by_cases ei : i = s.1 1
          · subst ei
            rw [n7, nI_eq (by omega) (by omega)] at z7
            exact absurd ⟨z7.symm, (cvn c).mp zc⟩ hin
          · rw [o7 i ei] at z7
            rw [cv i c ei] at zc
            rw [o10 i ei, o8 i ei] at zb
            exact ⟨i, by omega, z7, zc, zb⟩
        · rintro ⟨i, hi, z7, zc, zb⟩
          have ei : i ≠ s.1 1 := by omega
          exact ⟨i, by omega, by rw [o7 i ei]; exact z7, (cv i c ei).mpr zc, by rw [o10 i ei, o8 i ei]; exact zb⟩
      rw [hzz]
      have := h.da f2 hf2 c hc
      by_cases ef : f2 = f
      · subst ef
        rw [up2_self, eo, ew, ev, lb_wrt _ h1 h16 (by omega) hm hc, if_neg (fun z => hin ⟨rfl, z⟩)]
        exact this
      · rw [up2_ne _ _ (fun z => ef z.2), up2_ne _ _ (by omega)]
        exact this
  · intro f2 hf2 c hc
    rw [c0] at hf2
    rw [e6]
    show lb (up2 (up2 x.2.1 1 f (x.2.1 1 f ||| bts off w)) 0 f (wrt (x.2.1 0 f) off w v) 1 f2) c = _
    rw [up2_ne _ _ (by omega)]
    have hb : se_bt s' (nI f2) (nI c) = (se_bt s (nI f2) (nI c) || decide (f2 = f ∧ o ≤ c ∧ c < o + w0)) := by
      have a := bt_cvr hG' f2 hc
      have b := bt_cvr hG f2 hc
      rw [Bool.eq_iff_iff, Bool.or_eq_true, a, b, decide_eq_true_iff]
      constructor
      · rintro ⟨i, hi, z7, zc⟩
        rw [k1] at hi
        by_cases ei : i = s.1 1
        · subst ei
          rw [n7, nI_eq (by omega) (by omega)] at z7
          exact Or.inr ⟨z7.symm, (cvn c).mp zc⟩
        · exact Or.inl ⟨i, by omega, by rw [← o7 i ei]; exact z7, (cv i c ei).mp zc⟩
      · rintro (⟨i, hi, z7, zc⟩ | ⟨ef, hin⟩)
        · exact ⟨i, by omega, by rw [o7 i (by omega)]; exact z7, (cv i c (by omega)).mpr zc⟩
        · exact ⟨s.1 1, by omega, by rw [n7, ef], (cvn c).mpr hin⟩
    rw [hb, ← Bool.or_assoc]
    have := h.tk f2 hf2 c hc
    by_cases ef : f2 = f
    · subst ef
      rw [up2_self, lb_or, this, eo, ew, lb_bts h16 (by omega) h1]
      congr 1
      rw [← Bool.decide_and]
      congr 1
      simp
    · rw [up2_ne _ _ (fun z => ef z.2), this, decide_eq_false (p := f2 = f ∧ o ≤ c ∧ c < o + w0) (fun z => ef z.1), Bool.or_false]
theorem lb_m256 : ∀ c : Fin 64, lb (-256) c.1 = decide (8 ≤ c.1) := by decide +kernel
theorem lb_255' : ∀ c : Fin 64, lb 255 c.1 = decide (c.1 < 8) := by decide +kernel
theorem JX_event {s s' : se_S} {x x' : xX} (hG : GA s) (h : JX s x) (h3 : s.1 3 < 2) (k1 : s'.1 3 = s.1 3 + 1) (kq : ∀ q, q ≠ 3 → s'.1 q = s.1 q) (rq : ∀ q, q ≠ 6 → q ≠ 14 → q ≠ 15 → q ≠ 16 → s'.2 q = s.2 q) (o14 : ∀ e, e ≠ s.1 3 → s'.2 14 e = s.2 14 e) {i : Nat} (hi : i < 60) (n14 : s'.2 14 (s.1 3) = nI i) (h9 : ¬ 0 < s.2 0 9) (x1 : x'.1 1 = x.1 1) (x2 : ∀ e, e ≠ s.1 3 → x'.1 2 e = x.1 2 e) (x2' : x'.1 2 (s.1 3) = sf_grd (nI i)) (x3 : ∀ k, k ≠ i → x'.1 3 k = x.1 3 k) (x3' : x'.1 3 i = 1) (x4 : x'.1 4 = x.1 4)
    (hm : ∀ f, f < s.1 0 → (x'.2.1 0 f = x.2.1 0 f ∧ x'.2.1 1 f = x.2.1 1 f ∧ s'.2 6 f = s.2 6 f) ∨ (x'.2.1 0 f = (x.2.1 0 f &&& (-256)) ||| (x.1 1 f).toInt64 ∧ x'.2.1 1 f = x.2.1 1 f ||| 255 ∧ s'.2 6 f = nI (s.1 3 + 1))) : JX s' x' := by
  have e0 := rq 0 (by decide) (by decide) (by decide) (by decide)
  have e1 := rq 1 (by decide) (by decide) (by decide) (by decide)
  have e7 := rq 7 (by decide) (by decide) (by decide) (by decide)
  have e8 := rq 8 (by decide) (by decide) (by decide) (by decide)
  have e9 := rq 9 (by decide) (by decide) (by decide) (by decide)
  have e10 := rq 10 (by decide) (by decide) (by decide) (by decide)
  have c0 := kq 0 (by decide)
  have c1 := kq 1 (by decide)
  have hpos : 0 < nI (s.1 3 + 1) := by
    rw [← nI_0]
    exact nI_lt (by omega) (by omega)
  refine JX.mk ?_ ?_ ?_ ?_ ?_ ?_ ?_
  · rw [c0, e1, x1]; exact h.hd
  · intro e he
    rw [k1] at he
    by_cases ee : e = s.1 3
    · rw [ee, x2', n14]
    · rw [x2 e ee, o14 e ee]; exact h.eh e (by omega)
  · intro k hk
    have ht : se_tk s' (nI k) = (se_tk s (nI k) || nI i == nI k) := by
      unfold se_tk
      rw [c0, e1, k1, se_any_s, n14, ← Bool.or_assoc]
      congr 2
      exact se_any_as _ (fun j hj => by rw [o14 j (by omega)])
    rw [ht]
    by_cases e : k = i
    · rw [e, x3']
      simp [se_b]
    · rw [x3 k e, bf (fun z => e ((nI_eq (by omega) (by omega)).mp z.symm)), Bool.or_false]
      exact h.bo k hk
  · rw [x4, e0, if_neg h9]
    have := h.rb
    rw [if_neg h9] at this
    exact this
  · rw [x4, e0]; exact h.nb
  · intro f hf c hc
    rw [c0] at hf
    rw [c1, e1]
    simp only [zr_as e7 e8 e9 e10]
    rcases hm f hf with ⟨d, _, p⟩ | ⟨d, _, p⟩
    · rw [d, p]; exact h.da f hf c hc
    · obtain ⟨j, hj, ej⟩ := hG.nm f hf
      obtain ⟨m, hm, em⟩ := grd_lt hj
      rw [d, p, lb_or, lb_and, h.hd f hf, ej, em, lb_small (by omega) hc, lb_m256 ⟨c, hc⟩, ib_nI (by omega)]
      by_cases h8 : c < 8
      · rw [decide_eq_false (by omega : ¬ 8 ≤ c), Bool.and_false, Bool.false_or]
        constructor
        · exact fun z => Or.inl ⟨⟨hpos, h8⟩, z⟩
        · rintro (z | z)
          · exact z.2
          · exact absurd ⟨hpos, h8⟩ z.1
      · rw [decide_eq_true (by omega : 8 ≤ c), Bool.and_true, Nat.testBit_lt_two_pow (Nat.lt_of_lt_of_le (show m < 2 ^ 8 by omega) (Nat.pow_le_pow_right (by decide) (by omega))), Bool.or_false, h.da f hf c hc]
        constructor
        · rintro (z | z)
          · exact absurd z.1.2 h8
          · exact Or.inr ⟨fun q => h8 q.2, z.2⟩
        · rintro (z | z)
          · exact absurd z.1.2 h8
          · exact Or.inr ⟨fun q => h8 q.2, z.2⟩
  · intro f hf c hc
    rw [c0] at hf
    rw [bt_as c1 e7 e8 e9]
    rcases hm f hf with ⟨_, d, p⟩ | ⟨_, d, p⟩
    · rw [d, p]; exact h.tk f hf c hc
    · rw [d, p, lb_or, lb_255' ⟨c, hc⟩, h.tk f hf c hc]
      by_cases h8 : c < 8
      · simp [h8, hpos]
      · simp [h8]
