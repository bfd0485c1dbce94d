/-! What the list's own code needs besides: a static field's array, a class object, System.arraycopy of references. -/
abbrev o_alenZ (zt : Nat) : mx_O := o_st fun pc ls st h => match st with
  | .ref a :: r => if a = zt then some (pc + 1, ls, .int 0 :: r, h) else match mx_len h a with
    | some n => some (pc + 1, ls, .int (Int32.ofNat n) :: r, h)
    | none => none
  | _ => none
abbrev o_getC (E : String) (mi : Nat) : mx_O := o_sc fun pc ls st h => match st with
  | .ref a :: r => match mx_qar h a with
    | some q => some (q.1 = E ∧ mx_cat r ≤ 8, pc + 3, ls, .ref mi :: r, h)
    | none => none
  | _ => none
abbrev o_copyq (E : String) (cis : List Nat) : mx_O := o_sc fun pc ls st h => match st with
  | .int n :: .int dp :: .ref a :: .int sp :: .ref a0 :: r => match mx_qar h a0 with
    | some q0 => match mx_qar h a with
      | some q1 => some ((q1.1 = E ∧ mx_cat r ≤ 8) ∧ (¬ sp < 0 ∧ ¬ dp < 0 ∧ ¬ n < 0 ∧ sp.toNatClampNeg + n.toNatClampNeg ≤ q0.2.1 ∧ dp.toNatClampNeg + n.toNatClampNeg ≤ q1.2.1) ∧ (∀ i : Nat, i < n.toNatClampNeg → ∀ y : Nat, q0.2.2 (sp.toNatClampNeg + i) = some y → mx_cin h y cis), pc + 3, ls, r, va_up h a (some (.inl (.object q1.1, q1.2.1, .inr (.inr (.inr (.inr (va_cpy q0.2.2 q1.2.2 sp.toNatClampNeg dp.toNatClampNeg n.toNatClampNeg))))))))
      | none => none
    | none => none
  | _ => none
section MXJ
variable {p : Program} {l : Launch} {e : Env} {R : Room} {s : State} {m : MethodId} {args : Array Value} {below : List Frame} {meth : Method} {c : Code} {Q : State → Prop}
variable {cc : ByteArray} {nL : Nat} {cl : List vw_C} {D : va_G} {A : Nat → Prop} {Ts : List Cond} {own : String} {r : mx_T} {pc : Nat}
theorem mx_K2 {c0 c1 : ClassId} {t0 t1 : FieldType} (h : va_K D cl [] s) (h1 : ArrOfT s c0 t0) (h2 : va_RA s c0 t0) (h3 : ArrOfT s c1 t1) (h4 : va_RA s c1 t1) : va_K D cl [(c0, t0), (c1, t1)] s := (mx_K1 h h1 h2).app (mx_K1 h h3 h4)
theorem ok_alenZ (X : mx_Cx p s m args c cc nL cl D A Ts own) {zt : Nat} {ty : FieldType} {g : Nat → Value} (hT : va_T ty zt 0 g A s s.heap) (hd : decode cc pc = .ok (.arraylength, 1)) : mx_Ok p l e R s m args below meth c Q nL cl D A r pc (o_alenZ zt) := by
  intro ls st h k0 n z
  obtain ⟨q, hf, kk⟩ := mx_st_inv z
  try dsimp only at hf
  split at hf
  · rename_i a rest
    by_cases ha : a = zt
    · rw [if_pos ha] at hf
      cases hf
      subst ha
      intro arr H locs hl hw hS
      exact va_tlen (v := 0) X.1.1 X.1.2.1 hT hS rfl hd (kk arr H locs hl hw hS)
    · rw [if_neg ha] at hf
      split at hf
      · rename_i v hv
        cases hf
        intro arr H locs hl hw hS
        obtain ⟨ty, x, he⟩ := mx_len_inv hv
        obtain ⟨L, f, j, cA, hP, hD, h3, hm, hj, hfa, h4, h5⟩ := hw.arr he
        rw [hfa] at hj
        exact va_alen X.1.1 X.1.2.1 (mx_K1 X.2.1 h4 h5) hP j 0 hj rfl rfl hd (kk arr H locs hl ⟨L, f, hP, hD, h3⟩ hS)
      · cases hf
  · cases hf
theorem mx_vpc (cA : ClassId) (v : vp_A) : (vp_cell cA v).cls = cA ∧ (vp_cell cA v).vm.isStatics = false := by
  obtain ⟨n, f | f | f | f | f⟩ := v <;> exact ⟨rfl, rfl⟩
theorem ok_getC (X : mx_Cx p s m args c cc nL cl D A Ts own) {index mi : Nat} {E nm : String} (he : "[" ++ (FieldType.object E).toString = nm) (hlink : (Cond.methodLink own index ⟨"java/lang/Object", "getClass", "()Ljava/lang/Class;"⟩).before args s = true) (hdecl : va_Dc s) (hsel : (Cond.selects nm ⟨"java/lang/Object", "getClass", "()Ljava/lang/Class;"⟩ ⟨"java/lang/Object", "getClass", "()Ljava/lang/Class;"⟩).before args s = true) (hinst : (Cond.instanceMethod ⟨"java/lang/Object", "getClass", "()Ljava/lang/Class;"⟩).before args s = true) (hnat : (Cond.native ⟨"java/lang/Object", "getClass", "()Ljava/lang/Class;"⟩).before args s = true) (hM : va_Mi nm mi s) (hR : 1 ≤ R.frames ∧ 22 ≤ R.locals) (hd : decode cc pc = .ok (.invokevirtual index, 3)) : mx_Ok p l e R s m args below meth c Q nL cl D A r pc (o_getC E mi) := by
  intro ls st h k0 n z
  obtain ⟨q, hf, hq, kk⟩ := mx_sc_inv z
  try dsimp only at hf
  split at hf
  · split at hf
    · rename_i a rest _ w hv
      obtain ⟨C', n', f'⟩ := w
      cases hf
      obtain ⟨hC, hcat⟩ := hq
      dsimp only at hC
      subst hC
      intro arr H locs hl hw hS
      obtain ⟨L, f, j, cA, hP, hD, h3, hm, hj, hfa, h4, h5⟩ := hw.arr (mx_qar_inv hv)
      rw [hfa] at hj
      have hcell : H[a]? = some (vp_cell cA (n', .inr (.inr (.inr (.inr f'))))) := hP j _ hj
      unfold mx_cat at hcat
      refine va_getC X.1.1 X.1.2.1 (by rw [X.1.2.2.1]; exact hl.1.symm) X.1.2.2.2.1 hlink hdecl.use hsel hinst hnat hM ⟨_, hcell, (mx_vpc _ _).2, ?_⟩ hR.1 (by omega) hd (kk arr H locs hl ⟨L, f, hP, hD, h3⟩ hS)
      rw [(mx_vpc _ _).1]
      exact va_nmO h5 he
    · cases hf
  · cases hf
theorem ok_copyq (X : mx_Cx p s m args c cc nL cl D A Ts own) {index : Nat} {E : String} {cis : List Nat} (hasg : ∀ ci ∈ cis, ∃ r, cl[ci]? = some r ∧ ∀ comp c0 : ClassId, s.vm.findClass E = some comp → s.vm.findClass r.1 = some c0 → s.vm.assignable c0 comp = true) (hlink : (Cond.methodLink own index arraycopyName).before args s = true) (hnat : (Cond.native arraycopyName).before args s = true) (hstat : (Cond.static arraycopyName).before args s = true) (hini : (Cond.initialized "java/lang/System").before args s = true) (hR : 1 ≤ R.frames ∧ 8 + (nativeFrameWords "java/lang/System" "arraycopy" 5 + 11) ≤ R.locals) (hd : decode cc pc = .ok (.invokestatic index, 3)) : mx_Ok p l e R s m args below meth c Q nL cl D A r pc (o_copyq E cis) := by
  intro ls st h k0 n z
  obtain ⟨q, hf, hq, kk⟩ := mx_sc_inv z
  try dsimp only at hf
  split at hf
  · split at hf
    · split at hf
      · rename_i n dp a sp a0 rest _ w0 hv0 _ w1 hv1
        obtain ⟨E0, n0, f0⟩ := w0
        obtain ⟨E1, n1, f1⟩ := w1
        cases hf
        obtain ⟨⟨hC, hcat⟩, ⟨g1, g2, g3, g4, g5⟩, hel⟩ := hq
        dsimp only at hC g4 g5 hel kk
        subst hC
        intro arr H locs hl hw hS
        obtain ⟨L, f, j, cA, hP, hD, h3, hm, hj0, hfa, h4, h5⟩ := hw.arr (mx_qar_inv hv1)
        have hj := hj0
        rw [hfa] at hj
        obtain ⟨hm0, cB, hr0, h6, h7⟩ := h3 a0 _ (mx_qar_inv hv0)
        obtain ⟨j0, hj1⟩ := va_pl_get (X := []) (f := f) hm0
        rw [hr0] at hj1
        unfold mx_cat at hcat
        exact va_copyM X.1.1 X.1.2.1 (by rw [X.1.2.2.1]; exact hl.1.symm) X.1.2.2.2.1 hlink hnat hstat hini (mx_K2 X.2.1 h6 h7 h4 h5) hP hD hS j0 j 0 1 hj1 hj rfl rfl g1 g2 g3 g4 g5 (fun i hi y hy => mx_any X.2.1 hP h3 hasg (hel i hi y hy)) hR.1 (by omega) hd (fun H1 locs1 hP1 hD1 hS1 => kk arr H1 locs1 hl (mx_W.wr hD h3 hm hj0 hP1 hD1 ⟨cA, rfl, h4, h5⟩) hS1)
      · cases hf
    · cases hf
  · cases hf
end MXJ
