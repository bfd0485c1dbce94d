section MXT
variable {p : Program} {l : Launch} {e : Env} {R : Room} {s : State} {m : MethodId} {args : Array Value} {below : List Frame} {meth : Method} {c : Code} {Q : State → Prop}
variable {cc : ByteArray} {nL : Nat} {cl : List vw_C} {D : va_G} {A : Nat → Prop} {Ts : List Cond} {own : String} {r : mx_T} {pc : Nat}
abbrev mx_Zt : Type := (Nat → Prop) → State → Heap → Prop
def mx_Zok (Z : mx_Zt) : Prop := (∀ (A : Nat → Prop) (s U : State) (H : Heap), s.WarmedH U.vm → Z A s H → Z A U H) ∧ (∀ (A : Nat → Prop) (s U : State) (H : Heap), s.vm = U.vm → Z A s H → Z A U H) ∧ (∀ (A : Nat → Prop) (s : State) (H H1 : Heap), (∀ a : Nat, a < H.size → ¬ A a → H1[a]? = H[a]?) → Z A s H → Z A s H1)
theorem mx_K1 {D : va_G} {cl : List vw_C} {cA : ClassId} {ty : FieldType} (h : va_K D cl [] s) (h1 : ArrOfT s cA ty) (h2 : va_RA s cA ty) : va_K D cl [(cA, ty)] s :=
  ⟨h.1, fun k q hq => by
    have hz : k < 1 := (List.getElem?_eq_some_iff.mp hq).1
    rw [show k = 0 by omega] at hq
    cases hq
    exact ⟨h1, h2⟩⟩
theorem ok_get (X : mx_Cx p s m args c cc nL cl D A Ts own) {ref C : String} {T : u_T} {N ci index : Nat} (hin : ∀ w ∈ u_ws C T N, w ∈ Ts) (hc : cl[ci]? = some (C, T, N)) (k : Nat) (hk : k < N) (hlink : (Cond.fieldLink own index ref (T k).2.1 (T k).2.2.1).before args s = true) (hsame : ∀ x, s.fieldFound? (T k).1 (T k).2.1 (T k).2.2.1 = some x → s.fieldFound? ref (T k).2.1 (T k).2.2.1 = some x) (hd : decode cc pc = .ok (.getfield index, 3)) : mx_Ok p l e R s m args below meth c Q nL cl D A r pc (o_get ci k) := by
  intro ls st h k0 n z
  obtain ⟨q, hf, kk⟩ := mx_st_inv z
  try dsimp only at hf
  split at hf
  · split at hf
    · rename_i a rest v hv
      cases hf
      intro arr H locs hl hw hS
      obtain ⟨fs, h1, h2⟩ := mx_fld_inv hv
      obtain ⟨L, f, j, hP, hD, h3, hm, hj, hfa⟩ := hw.obj h1
      rw [hfa] at hj
      exact va_get X.1.1 X.1.2.1 X.1.2.2.2.2 hin X.1.2.2.2.1 X.2.1 hP j hj hc k hk hlink hsame h2 hd (kk arr H locs hl ⟨L, f, hP, hD, h3⟩ hS)
    · cases hf
  · cases hf
theorem ok_put (X : mx_Cx p s m args c cc nL cl D A Ts own) {ref C : String} {T : u_T} {N ci index : Nat} (hin : ∀ w ∈ u_ws C T N, w ∈ Ts) (ty0 : Nat → FieldType) (hty : ∀ k, k < N → parseFieldDescriptor (T k).2.2.1 = some (ty0 k)) (hnm : ∀ a, a < N → ∀ b, b < N → a ≠ b → (T a).2.1 ≠ (T b).2.1) (hc : cl[ci]? = some (C, T, N)) (k : Nat) (hk : k < N) (hlink : (Cond.fieldLink own index ref (T k).2.1 (T k).2.2.1).before args s = true) (hsame : ∀ x, s.fieldFound? (T k).1 (T k).2.1 (T k).2.2.1 = some x → s.fieldFound? ref (T k).2.1 (T k).2.2.1 = some x) (hfin : (T k).2.2.2 = false) {ty : FieldType} {ok : Value → Prop} (hds : parseFieldDescriptor (T k).2.2.1 = some ty) (hok : ∀ v, ok v → narrow ty v = v ∧ fits ty v = true) (hd : decode cc pc = .ok (.putfield index, 3)) : mx_Ok p l e R s m args below meth c Q nL cl D A r pc (o_put ci k ok) := by
  intro ls st h k0 n z
  obtain ⟨q, hf, hq, kk⟩ := mx_sc_inv z
  try dsimp only at hf
  split at hf
  · split at hf
    · rename_i v a rest h' hv
      cases hf
      intro arr H locs hl hw hS
      obtain ⟨fs, h1, h2, rfl⟩ := mx_put_inv hv
      obtain ⟨L, f, j, hP, hD, h3, hm, hj0, hfa⟩ := hw.obj h1
      have hj := hj0
      rw [hfa] at hj
      exact va_put X.1.1 X.1.2.1 X.1.2.2.2.2 hin ty0 hty hnm X.1.2.2.2.1 X.2.1 hP hD hS j hj hc k hk hlink hsame hfin hds (hok _ hq).1 (hok _ hq).2 h2 hd (fun H1 locs1 hP1 hD1 hS1 => kk arr H1 locs1 hl (mx_W.wr hD h3 hm hj0 hP1 hD1 rfl) hS1)
    · cases hf
  · cases hf
theorem ok_putF (X : mx_Cx p s m args c cc nL cl D A Ts own) {ref C : String} {T : u_T} {N ci index : Nat} (hin : ∀ w ∈ u_ws C T N, w ∈ Ts) (ty0 : Nat → FieldType) (hty : ∀ k, k < N → parseFieldDescriptor (T k).2.2.1 = some (ty0 k)) (hnm : ∀ a, a < N → ∀ b, b < N → a ≠ b → (T a).2.1 ≠ (T b).2.1) (hc : cl[ci]? = some (C, T, N)) (k : Nat) (hk : k < N) (hlink : (Cond.fieldLink own index ref (T k).2.1 (T k).2.2.1).before args s = true) (hsame : ∀ x, s.fieldFound? (T k).1 (T k).2.1 (T k).2.2.1 = some x → s.fieldFound? ref (T k).2.1 (T k).2.2.1 = some x) (hfin : (T k).2.2.2 = true) (hin2 : meth.name = "<init>") (hdecl : (T k).1 = own) {ty : FieldType} {ok : Value → Prop} (hds : parseFieldDescriptor (T k).2.2.1 = some ty) (hok : ∀ v, ok v → narrow ty v = v ∧ fits ty v = true) (hd : decode cc pc = .ok (.putfield index, 3)) : mx_Ok p l e R s m args below meth c Q nL cl D A r pc (o_put ci k ok) := by
  intro ls st h k0 n z
  obtain ⟨q, hf, hq, kk⟩ := mx_sc_inv z
  try dsimp only at hf
  split at hf
  · split at hf
    · rename_i v a rest h' hv
      cases hf
      intro arr H locs hl hw hS
      obtain ⟨fs, h1, h2, rfl⟩ := mx_put_inv hv
      obtain ⟨L, f, j, hP, hD, h3, hm, hj0, hfa⟩ := hw.obj h1
      have hj := hj0
      rw [hfa] at hj
      exact va_putF X.1.1 X.1.2.1 X.1.2.2.2.2 hin ty0 hty hnm X.1.2.2.2.1 X.2.1 hP hD hS j hj hc k hk hlink hsame hfin hin2 hdecl hds (hok _ hq).1 (hok _ hq).2 h2 hd (fun H1 locs1 hP1 hD1 hS1 => kk arr H1 locs1 hl (mx_W.wr hD h3 hm hj0 hP1 hD1 rfl) hS1)
    · cases hf
  · cases hf
theorem ok_iald (X : mx_Cx p s m args c cc nL cl D A Ts own) (hd : decode cc pc = .ok (.iaload, 1)) : mx_Ok p l e R s m args below meth c Q nL cl D A r pc (o_iald .int) := by
  intro ls st h k0 n z
  obtain ⟨q, hf, hq, kk⟩ := mx_sc_inv z
  try dsimp only at hf
  split at hf
  · split at hf
    · rename_i i a rest v hv
      cases hf
      intro arr H locs hl hw hS
      obtain ⟨L, f, j, cA, hP, hD, h3, hm, hj, hfa, h4, h5⟩ := hw.arr (mx_iar_inv hv)
      rw [hfa] at hj
      exact va_iald X.1.1 X.1.2.1 (mx_K1 X.2.1 h4 h5) hP j 0 hj rfl hq hd (kk arr H locs hl ⟨L, f, hP, hD, h3⟩ hS)
    · cases hf
  · cases hf
theorem ok_zald (X : mx_Cx p s m args c cc nL cl D A Ts own) (hd : decode cc pc = .ok (.baload, 1)) : mx_Ok p l e R s m args below meth c Q nL cl D A r pc (o_iald .boolean) := by
  intro ls st h k0 n z
  obtain ⟨q, hf, hq, kk⟩ := mx_sc_inv z
  try dsimp only at hf
  split at hf
  · split at hf
    · rename_i i a rest v hv
      cases hf
      intro arr H locs hl hw hS
      obtain ⟨L, f, j, cA, hP, hD, h3, hm, hj, hfa, h4, h5⟩ := hw.arr (mx_iar_inv hv)
      rw [hfa] at hj
      exact va_zald X.1.1 X.1.2.1 (mx_K1 X.2.1 h4 h5) hP j 0 hj rfl hq hd (kk arr H locs hl ⟨L, f, hP, hD, h3⟩ hS)
    · cases hf
  · cases hf
theorem ok_iast (X : mx_Cx p s m args c cc nL cl D A Ts own) (hd : decode cc pc = .ok (.iastore, 1)) : mx_Ok p l e R s m args below meth c Q nL cl D A r pc (o_iast .int (fun x => x)) := by
  intro ls st h k0 n z
  obtain ⟨q, hf, hq, kk⟩ := mx_sc_inv z
  try dsimp only at hf
  split at hf
  · split at hf
    · rename_i x i a rest v hv
      cases hf
      intro arr H locs hl hw hS
      obtain ⟨L, f, j, cA, hP, hD, h3, hm, hj0, hfa, h4, h5⟩ := hw.arr (mx_iar_inv hv)
      have hj := hj0
      rw [hfa] at hj
      exact va_iast X.1.1 X.1.2.1 (mx_K1 X.2.1 h4 h5) hP hD hS j 0 hj rfl hq hd (fun H1 locs1 hP1 hD1 hS1 => kk arr H1 locs1 hl (mx_W.wr hD h3 hm hj0 hP1 hD1 ⟨cA, rfl, h4, h5⟩) hS1)
    · cases hf
  · cases hf
theorem ok_zast (X : mx_Cx p s m args c cc nL cl D A Ts own) (hd : decode cc pc = .ok (.bastore, 1)) : mx_Ok p l e R s m args below meth c Q nL cl D A r pc (o_iast .boolean (vp_nar .boolean)) := by
  intro ls st h k0 n z
  obtain ⟨q, hf, hq, kk⟩ := mx_sc_inv z
  try dsimp only at hf
  split at hf
  · split at hf
    · rename_i x i a rest v hv
      cases hf
      intro arr H locs hl hw hS
      obtain ⟨L, f, j, cA, hP, hD, h3, hm, hj0, hfa, h4, h5⟩ := hw.arr (mx_iar_inv hv)
      have hj := hj0
      rw [hfa] at hj
      exact va_zast X.1.1 X.1.2.1 (mx_K1 X.2.1 h4 h5) hP hD hS j 0 hj rfl hq hd (fun H1 locs1 hP1 hD1 hS1 => kk arr H1 locs1 hl (mx_W.wr hD h3 hm hj0 hP1 hD1 ⟨cA, rfl, h4, h5⟩) hS1)
    · cases hf
  · cases hf
theorem ok_aald (X : mx_Cx p s m args c cc nL cl D A Ts own) (hd : decode cc pc = .ok (.aaload, 1)) : mx_Ok p l e R s m args below meth c Q nL cl D A r pc o_aald := by
  intro ls st h k0 n z
  obtain ⟨q, hf, hq, kk⟩ := mx_sc_inv z
  try dsimp only at hf
  split at hf
  · split at hf
    · rename_i i a rest v hv
      cases hf
      intro arr H locs hl hw hS
      obtain ⟨L, f, j, cA, hP, hD, h3, hm, hj, hfa, h4, h5⟩ := hw.arr (mx_qar_inv hv)
      rw [hfa] at hj
      exact va_aldq X.1.1 X.1.2.1 (mx_K1 X.2.1 h4 h5) hP j 0 hj rfl hq hd (kk arr H locs hl ⟨L, f, hP, hD, h3⟩ hS)
    · cases hf
  · cases hf
theorem mx_any {E : String} {h : mx_H} {H : Heap} {L : List Nat} {f : Nat → va_E} {v : Nat} {cis : List Nat} (hK : va_K D cl [] s) (hP : va_P D cl (va_pl L f) H) (h3 : ∀ (a : Nat) (e : mx_E), h a = some e → a ∈ L ∧ mx_rl s e (f a)) (hasg : ∀ ci ∈ cis, ∃ r, cl[ci]? = some r ∧ ∀ comp c0 : ClassId, s.vm.findClass E = some comp → s.vm.findClass r.1 = some c0 → s.vm.assignable c0 comp = true) (hv : mx_cin h v cis) : va_Any E s H v := by
  unfold mx_cin at hv
  split at hv
  · rename_i ci hc
    obtain ⟨fs, hv1⟩ := mx_cls_inv hc
    obtain ⟨hmv, hrv⟩ := h3 v _ hv1
    obtain ⟨jv, hjv⟩ := va_pl_get (X := []) (f := f) hmv
    rw [show f v = .inr (ci, fs) from hrv] at hjv
    obtain ⟨r, hr, hr2⟩ := hasg ci hv
    exact va_rAny hK hP hjv hr hr2
  · exact hv.elim
theorem ok_aast (X : mx_Cx p s m args c cc nL cl D A Ts own) {E : String} {cis : List Nat} (hasg : ∀ ci ∈ cis, ∃ r, cl[ci]? = some r ∧ ∀ comp c0 : ClassId, s.vm.findClass E = some comp → s.vm.findClass r.1 = some c0 → s.vm.assignable c0 comp = true) (hd : decode cc pc = .ok (.aastore, 1)) : mx_Ok p l e R s m args below meth c Q nL cl D A r pc (o_aast E cis) := by
  intro ls st h k0 n z
  obtain ⟨q, hf, hq, kk⟩ := mx_sc_inv z
  try dsimp only at hf
  split at hf
  · split at hf
    · rename_i v i a rest w hv
      obtain ⟨C', n', f'⟩ := w
      cases hf
      obtain ⟨⟨hC, hcv⟩, hi⟩ := hq
      dsimp only at hC hi kk
      subst hC
      intro arr H locs hl hw hS
      obtain ⟨L, f, j, cA, hP, hD, h3, hm, hj0, hfa, h4, h5⟩ := hw.arr (mx_qar_inv hv)
      have hj := hj0
      rw [hfa] at hj
      exact va_astqM X.1.1 X.1.2.1 (mx_K1 X.2.1 h4 h5) hP hD hS j 0 hj rfl (mx_any X.2.1 hP h3 hasg hcv) hi hd (fun H1 locs1 hP1 hD1 hS1 => kk arr H1 locs1 hl (mx_W.wr hD h3 hm hj0 hP1 hD1 ⟨cA, rfl, h4, h5⟩) hS1)
    · cases hf
  · cases hf
theorem ok_alen (X : mx_Cx p s m args c cc nL cl D A Ts own) (hd : decode cc pc = .ok (.arraylength, 1)) : mx_Ok p l e R s m args below meth c Q nL cl D A r pc o_alen := by
  intro ls st h k0 n z
  obtain ⟨q, hf, kk⟩ := mx_st_inv z
  try dsimp only at hf
  split at hf
  · split at hf
    · rename_i a rest v hv
      cases hf
      intro arr H locs hl hw hS
      obtain ⟨ty, x, he⟩ := mx_len_inv hv
      obtain ⟨L, f, j, cA, hP, hD, h3, hm, hj, hfa, h4, h5⟩ := hw.arr he
      rw [hfa] at hj
      exact va_alen X.1.1 X.1.2.1 (mx_K1 X.2.1 h4 h5) hP j 0 hj rfl rfl hd (kk arr H locs hl ⟨L, f, hP, hD, h3⟩ hS)
    · cases hf
  · cases hf
theorem ok_cast (X : mx_Cx p s m args c cc nL cl D A Ts own) {C : String} {T : u_T} {N ci index : Nat} (hc : cl[ci]? = some (C, T, N)) (hlink : (Cond.classLink own index C).before args s = true) (hd : decode cc pc = .ok (.checkcast index, 3)) : mx_Ok p l e R s m args below meth c Q nL cl D A r pc (o_cast ci) := by
  intro ls st h k0 n z
  obtain ⟨q, hf, hq, kk⟩ := mx_sc_inv z
  try dsimp only at hf
  split at hf
  · rename_i a rest
    cases hf
    intro arr H locs hl hw hS
    obtain ⟨fs, h1⟩ := mx_cls_inv hq
    obtain ⟨L, f, j, hP, hD, h3, hm, hj, hfa⟩ := hw.obj h1
    rw [hfa] at hj
    exact va_castS X.1.1 X.1.2.1 X.1.2.2.2.1 hlink ⟨(X.2.1.1 ci _ hc).2.1, (X.2.1.1 ci _ hc).2.2⟩ (va_recv X.2.1 hP hc hj) hd (kk arr H locs hl ⟨L, f, hP, hD, h3⟩ hS)
  · cases hf
    intro arr H locs hl hw hS
    exact lv_castN X.1.1 X.1.2.1 hd (kk arr H locs hl hw hS)
  · cases hf
theorem ok_objinit (X : mx_Cx p s m args c cc nL cl D A Ts own) {index : Nat} (hR : 1 ≤ R.frames ∧ 20 ≤ R.locals) (hlink : (Cond.methodLink own index objectInit).before args s = true) (hinst : (Cond.instanceMethod objectInit).before args s = true) (hcode : (Cond.code objectInit ⟨#[0xb1]⟩ 1 none).before args s = true) (hd : decode cc pc = .ok (.invokespecial index, 3)) : mx_Ok p l e R s m args below meth c Q nL cl D A r pc o_objinit := by
  intro ls st h k0 n z
  obtain ⟨q, hf, hq, kk⟩ := mx_sc_inv z
  try dsimp only at hf
  split at hf
  · rename_i a rest
    cases hf
    intro arr H locs hl hw hS
    have hq : mx_cat rest ≤ 8 := hq
    unfold mx_cat at hq
    refine W.objInit X.1.1 X.1.2.1 X.1.2.2.2.1 hlink hinst hcode rfl (by rw [X.1.2.2.1]; exact hl.1) rfl hd hR.1 ?_ (kk arr H locs hl hw hS)
    show 2 * 0 + _ + 12 ≤ R.locals
    omega
  · cases hf
theorem ok_new (X : mx_Cx p s m args c cc nL cl D A Ts own) {C : String} {T : u_T} {N ci index rc rs : Nat} {fs : List Value} (hR : rc ≤ R.cells ∧ rs ≤ R.slots) (hin : ∀ w ∈ u_ws C T N, w ∈ Ts) (ty : Nat → FieldType) (hty : ∀ k, k < N → parseFieldDescriptor (T k).2.2.1 = some (ty k)) (hc : cl[ci]? = some (C, T, N)) (hcl : (Cond.classLink own index C).before args s = true) (hinst : (Cond.instantiable C N).before args s = true) (hini : (Cond.initialized C).before args s = true) (hfs : ∀ j, j < N → defaultValue (ty j) = vp_V fs j) (hd : decode cc pc = .ok (.new index, 3)) : mx_Ok p l e R s m args below meth c Q nL cl D A r pc (o_new rc rs ci N fs) := by
  intro ls st h k0 n z
  obtain ⟨q, hf, -, h1, h2, kk⟩ := mx_al_inv z
  cases hf
  intro arr H locs hl hw hS
  obtain ⟨L, f, hP, hD, h3⟩ := hw
  exact va_new X.1.1 X.1.2.1 X.1.2.2.2.2 hin ty hty X.1.2.2.2.1 hcl hinst hini X.2.1 hP hD hS X.2.2 hc hfs (Nat.le_trans h1 hR.1) (Nat.le_trans h2 hR.2) hd (fun q H1 hP1 hD1 hS1 => by
    have h8 := mx_W.mk (e := .inr (ci, fs)) h3 hP1 hD1 rfl
    exact kk q h8.1 arr H1 locs hl h8.2 hS1)
theorem ok_newi (X : mx_Cx p s m args c cc nL cl D A Ts own) {rc rs : Nat} {atype : ArrayType} {ty : FieldType} (hR : rc ≤ R.cells ∧ rs ≤ R.slots) (harr : (Cond.arrayClass (newarray.typeOf atype)).before args s = true) (hty : newarray.typeOf atype = ty) (hdv : defaultValue ty = .int 0) (hcb : componentBytes ty ≤ 8) (hd : decode cc pc = .ok (.newarray atype, 2)) : mx_Ok p l e R s m args below meth c Q nL cl D A r pc (o_newi rc rs ty) := by
  intro ls st h k0 n z
  obtain ⟨q, hf, hq, h1, h2, kk⟩ := mx_al_inv z
  try dsimp only at hf
  split at hf
  · rename_i i rest
    cases hf
    intro arr H locs hl hw hS
    obtain ⟨L, f, hP, hD, h3⟩ := hw
    have hb : i.toNatClampNeg * componentBytes ty ≤ 536870912 := by
      have h9 : i.toNatClampNeg * componentBytes ty ≤ 65536 * 8 := Nat.mul_le_mul hq.2 hcb
      omega
    exact va_newa (a0 := (i.toNatClampNeg, .inl (fun _ => 0))) X.1.1 X.1.2.1 harr hty X.2.1 hP hD hS X.2.2 (fun cA => by rw [hdv]; rfl) hq.1 rfl hb (Nat.le_trans h1 hR.1) (Nat.le_trans h2 hR.2) hd (fun q cA H1 hK1 hP1 hD1 hS1 => by
      have h9 := hK1.2 0 (cA, ty) rfl
      have h8 := mx_W.mk (e := .inl (ty, i.toNatClampNeg, .inl (fun _ => 0))) h3 hP1 hD1 ⟨cA, rfl, h9.1, h9.2⟩
      exact kk q h8.1 arr H1 locs hl h8.2 hS1)
  · cases hf
theorem ok_newq (X : mx_Cx p s m args c cc nL cl D A Ts own) {C : String} {index rc rs : Nat} (hR : rc ≤ R.cells ∧ rs ≤ R.slots) (hcl : (Cond.classLink own index C).before args s = true) (hover : va_AO C s) (hd : decode cc pc = .ok (.anewarray index, 3)) : mx_Ok p l e R s m args below meth c Q nL cl D A r pc (o_newq rc rs C) := by
  intro ls st h k0 n z
  obtain ⟨q, hf, hq, h1, h2, kk⟩ := mx_al_inv z
  try dsimp only at hf
  split at hf
  · rename_i i rest
    cases hf
    intro arr H locs hl hw hS
    obtain ⟨L, f, hP, hD, h3⟩ := hw
    have hb : i.toNatClampNeg * 4 ≤ 536870912 := by
      have := hq.2
      omega
    exact va_newq X.1.1 X.1.2.1 X.1.2.2.2.1 hcl hover X.2.1 hP hD hS X.2.2 hq.1 rfl hb (Nat.le_trans h1 hR.1) (Nat.le_trans h2 hR.2) hd (fun q cA H1 hK1 hP1 hD1 hS1 => by
      have h9 := hK1.2 0 (cA, .object C) rfl
      have h8 := mx_W.mk (e := .inl (.object C, i.toNatClampNeg, .inr (.inr (.inr (.inr (fun _ => none)))))) h3 hP1 hD1 ⟨cA, rfl, h9.1, h9.2⟩
      exact kk q h8.1 arr H1 locs hl h8.2 hS1)
  · cases hf
end MXT
