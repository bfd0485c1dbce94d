theorem xk2 (i : Nat) : xk i ≠ 2 := by
  unfold xk
  repeat' split
  all_goals omega
theorem lv_el {s : se_S} {x : xX} : ∀ {j p : Nat}, j < 7 → p < s.1 j → lvX s x (xk j) (xb j + p)
  | 0, p, _, hp => by show 0 + p < s.1 0; omega
  | 1, p, _, hp => by show 0 + p < s.1 1; omega
  | 2, p, _, hp => by show 0 + p < s.1 2; omega
  | 3, p, _, hp => by show 0 + p < s.1 3; omega
  | 4, p, _, hp => ⟨0, p, by omega, hp, rfl⟩
  | 5, p, _, hp => ⟨1, p, by omega, hp, rfl⟩
  | 6, p, _, hp => ⟨2, p, by omega, hp, rfl⟩
  | j + 7, _, hj, _ => absurd hj (by omega)
theorem RX.add {zz : Nat × Nat} {h h1 h' : mx_H} {ad ad1 : Nat → Nat → Nat} {s s' : se_S} {x x' : xX} {lv1 : Nat → Nat → Prop} {V1 : Nat → Nat → mx_E} (r : RX zz h ad s x) (r1 : rp h1 lv1 ad1 V1) (hl1 : ∀ k j, lvX s x k j → lv1 k j) (ha1 : ∀ k j, lvX s x k j → ad1 k j = ad k j) (hv1 : ∀ k j, (k = 1 ∨ k = 2) → lvX s x k j → V1 k j = cX zz ad s x k j) {i : Nat} (hi : i < 7) {b L q : Nat} (hq : ad1 (xk i) (xb i + s.1 i) = q) (hb : (b = ad 2 i ∧ L = x.2.2 i ∧ 0 < x.2.2 i) ∨ h1 b = none) (hz : b ≠ zz.1) (hL : s.1 i < L) (hL2 : L ≤ 24) (hoff : ∀ y, y ≠ ad 1 i → y ≠ b → h' y = h1 y) (ha : h' (ad 1 i) = some (.inr (9, [.int (x.1 0 i + 1), .ref b, .int (nI (s.1 i + 1))]))) (hb' : h' b = some (qa "java/lang/Object" L (va_up (xg ad (s.1 i) i) (s.1 i) (some q)))) (c1 : s'.1 = va_up s.1 i (s.1 i + 1)) (c2 : x'.2.2 = va_up x.2.2 i L) (c3 : ∀ j, x'.1 0 j = if j = i then x.1 0 i + 1 else x.1 0 j) (hlv : ∀ k j, k ≠ 1 → k ≠ 2 → lvX s' x' k j → lv1 k j) (hO : ∀ k j, k ≠ 1 → k ≠ 2 → lvX s' x' k j → cX zz (up2 ad1 2 i b) s' x' k j = V1 k j) : RX zz h' (up2 ad1 2 i b) s' x' := by
  have e1 : ad1 1 i = ad 1 i := ha1 1 i hi
  have ra := rp_add r1 (i := i) (b := b) (hl1 1 i hi) (hb.imp (fun z => ⟨hl1 2 i ⟨hi, z.2.2⟩, z.1.trans (ha1 2 i ⟨hi, z.2.2⟩).symm⟩) id) (fun y y1 y2 => hoff y (fun z => y1 (z.trans e1.symm)) y2) (by rw [e1]; exact ha) hb'
  have gx : ∀ j, j < 7 → xg (up2 ad1 2 i b) (s.1 j) j = xg ad (s.1 j) j := fun j hj => by
    funext p
    unfold xg
    by_cases hp : p < s.1 j
    · rw [if_pos hp, if_pos hp, up2_ne _ _ (fun z => xk2 j z.1), ha1 _ _ (lv_el hj hp)]
    · rw [if_neg hp, if_neg hp]
  have capj : ∀ j, j ≠ i → x'.2.2 j = x.2.2 j := fun j hj => by rw [c2, va_up_ne _ _ hj]
  have cntj : ∀ j, j ≠ i → s'.1 j = s.1 j := fun j hj => by rw [c1, va_up_ne _ _ hj]
  have capi : x'.2.2 i = L := by rw [c2, va_up_self]
  have cnti : s'.1 i = s.1 i + 1 := by rw [c1, va_up_self]
  refine ⟨rp_as ra (fun k j z => ?_) (fun _ _ _ => rfl) (fun k j z => ?_), fun j hj => ?_⟩
  · by_cases k1 : k = 1
    · subst k1
      exact Or.inl (hl1 1 j z)
    · by_cases k2 : k = 2
      · subst k2
        by_cases hj : j = i
        · exact Or.inr ⟨rfl, hj⟩
        · have z2 : 0 < x'.2.2 j := z.2
          rw [capj j hj] at z2
          exact Or.inl (hl1 2 j ⟨z.1, z2⟩)
      · exact Or.inl (hlv k j k1 k2 z)
  · by_cases k1 : k = 1
    · subst k1
      rw [up2_ne _ _ (fun z => by omega)]
      by_cases hj : j = i
      · subst hj
        rw [up2_self]
        show (Sum.inr (9, [.int (x'.1 0 j), .ref (if x'.2.2 j = 0 then zz.1 else up2 ad1 2 j b 2 j), .int (nI (s'.1 j))]) : mx_E) = _
        rw [capi, cnti, c3, if_pos rfl, if_neg (by omega), up2_self]
      · rw [up2_ne _ _ (fun z => hj z.2), hv1 1 j (Or.inl rfl) z]
        show (Sum.inr (9, [.int (x'.1 0 j), .ref (if x'.2.2 j = 0 then zz.1 else up2 ad1 2 i b 2 j), .int (nI (s'.1 j))]) : mx_E) = Sum.inr (9, [.int (x.1 0 j), .ref (if x.2.2 j = 0 then zz.1 else ad 2 j), .int (nI (s.1 j))])
        rw [capj j hj, cntj j hj, c3, if_neg hj, up2_ne _ _ (fun z => hj z.2)]
        by_cases h0 : x.2.2 j = 0
        · rw [if_pos h0, if_pos h0]
        · rw [if_neg h0, if_neg h0, ha1 2 j ⟨z, by omega⟩]
    · by_cases k2 : k = 2
      · subst k2
        by_cases hj : j = i
        · subst hj
          rw [up2_self]
          show qa "java/lang/Object" (x'.2.2 j) (xg (up2 ad1 2 j b) (s'.1 j) j) = _
          rw [capi, cnti]
          congr 5
          funext p
          unfold xg va_up
          by_cases hp : p = s.1 j
          · rw [if_pos (by omega), if_pos hp, up2_ne _ _ (fun z => xk2 j z.1), hp, hq]
          · rw [if_neg hp]
            show (if p < s.1 j + 1 then some (up2 ad1 2 j b (xk j) (xb j + p)) else none) = (if p < s.1 j then some (ad (xk j) (xb j + p)) else none)
            by_cases hp2 : p < s.1 j
            · rw [if_pos (by omega), if_pos hp2, up2_ne _ _ (fun z => xk2 j z.1), ha1 _ _ (lv_el hi hp2)]
            · rw [if_neg (by omega), if_neg hp2]
        · have z2 : 0 < x'.2.2 j := z.2
          rw [capj j hj] at z2
          rw [up2_ne _ _ (fun z => hj z.2), up2_ne _ _ (fun z => by omega), hv1 2 j (Or.inr rfl) ⟨z.1, z2⟩]
          show qa "java/lang/Object" (x'.2.2 j) (xg (up2 ad1 2 i b) (s'.1 j) j) = qa "java/lang/Object" (x.2.2 j) (xg ad (s.1 j) j)
          rw [capj j hj, cntj j hj, gx j z.1]
      · rw [up2_ne _ _ (fun z => k2 z.1), up2_ne _ _ (fun z => k1 z.1)]
        exact hO k j k1 k2 z
  · by_cases hji : j = i
    · subst hji
      rw [cnti, capi, up2_self]
      exact ⟨by omega, hL2, fun _ => hz⟩
    · rw [cntj j hji, capj j hji, up2_ne _ _ (fun z => hji z.2)]
      refine ⟨(r.2 j hj).1, (r.2 j hj).2.1, fun z => ?_⟩
      rw [ha1 2 j ⟨hj, z⟩]
      exact (r.2 j hj).2.2 z
/-- the list's add, on the class's world beside new cells -/
theorem X_add {zz : Nat × Nat} {h h1 : mx_H} {ad : Nat → Nat → Nat} {s : se_S} {x : xX} (r : RX zz h ad s x) (r1 : RX zz h1 ad s x) {i : Nat} (hi : i < 7) (hn : s.1 i ≤ 15) {q ci : Nat} {fs : List Value} (hq : ∀ k j, lvX s x k j → ad k j ≠ q) (hc : h1 q = some (.inr (ci, fs))) (hci : ci ∈ [1, 2, 3, 4, 5]) (P : Option Value → mx_H → Prop) (kk : ∀ (h' : mx_H) (b L : Nat), ((b = ad 2 i ∧ L = x.2.2 i ∧ 0 < x.2.2 i) ∨ h1 b = none) → b ≠ zz.1 → s.1 i < L → L ≤ 24 → (∀ y, y ≠ ad 1 i → y ≠ b → h' y = h1 y) → h' (ad 1 i) = some (.inr (9, [.int (x.1 0 i + 1), .ref b, .int (nI (s.1 i + 1))])) → h' b = some (qa "java/lang/Object" L (va_up (xg ad (s.1 i) i) (s.1 i) (some q))) → P (some (.int 1)) h') : S_Al_add zz [.ref (ad 1 i), .ref q] h1 P := by
  obtain ⟨b1, b2, b3⟩ := r1.2 i hi
  have hl : h1 (ad 1 i) = some (.inr (9, [.int (x.1 0 i), .ref (if x.2.2 i = 0 then zz.1 else ad 2 i), .int (nI (s.1 i))])) := r1.1.1 1 i hi
  have hel : ∀ j y, xg ad (s.1 i) i j = some y → y ≠ ad 1 i ∧ mx_cin h1 y [1, 2, 3, 4, 5] := fun j y hy => by
    unfold xg at hy
    by_cases hj : j < s.1 i
    · rw [if_pos hj] at hy
      cases hy
      have hlv := lv_el (x := x) hi hj
      have hcell := r1.1.1 _ _ hlv
      refine ⟨fun z => ?_, ?_⟩
      · have := (r1.1.2 _ _ 1 i hlv hi z).1
        unfold xk at this
        repeat' split at this
        all_goals omega
      · match i, hi, hcell with
        | 0, _, hcell => exact cinc hcell (by decide)
        | 1, _, hcell => exact cinc hcell (by decide)
        | 2, _, hcell => exact cinc hcell (by decide)
        | 3, _, hcell => exact cinc hcell (by decide)
        | 4, _, hcell => exact cinc hcell (by decide)
        | 5, _, hcell => exact cinc hcell (by decide)
        | 6, _, hcell => exact cinc hcell (by decide)
    · rw [if_neg hj] at hy
      cases hy
  have hno : ∀ j, s.1 i ≤ j → xg ad (s.1 i) i j = none := fun j hj => if_neg (by omega)
  by_cases h0 : x.2.2 i = 0
  · rw [if_pos h0] at hl
    refine q_Al_add (cap := 0) (g := xg ad (s.1 i) i) hl hn (Or.inl ⟨rfl, by omega, rfl⟩) hno hel (fun z => hq 1 i hi z.symm) (cinc hc hci) P (fun h' b L hb => kk h' b L (Or.inr (hb.resolve_left (fun z => by omega))))
  · rw [if_neg h0] at hl
    refine q_Al_add (cap := x.2.2 i) (g := xg ad (s.1 i) i) hl hn (Or.inr ⟨by omega, b1, b2, b3 (by omega), fun z => absurd (r1.1.2 2 i 1 i ⟨hi, by omega⟩ hi z).1 (by decide), r1.1.1 2 i ⟨hi, by omega⟩⟩) hno hel (fun z => hq 1 i hi z.symm) (cinc hc hci) P (fun h' b L hb => kk h' b L (hb.imp (fun z => ⟨z.1, z.2.1, by omega⟩) id))
