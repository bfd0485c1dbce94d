section MXU
variable {p : Program} {l : Launch} {e : Env} {R : Room} {s : State} {m : MethodId} {args : Array Value} {below : List Frame} {meth : Method} {c : Code} {Q : State → Prop}
variable {cc : ByteArray} {nL : Nat} {cl : List vw_C} {D : va_G} {A : Nat → Prop} {Ts : List Cond} {own : String} {r : mx_T} {pc : Nat}
def mx_Post (cl : List vw_C) (D : va_G) (A : Nat → Prop) (Post : Option Value → mx_H → Prop) : Array Value → State → Outcome → State → Prop := fun _ st oc t => (∃ (v : Option Value) (h' : mx_H), oc = .returned v ∧ Post v h' ∧ mx_W cl D A h' t t.heap) ∧ va_F A st t
theorem mx_end {Post : Option Value → mx_H → Prop} {v : Option Value} {h : mx_H} {H : Heap} {locs : List Loc} {a : Array Value} (hp : Post v h) (hw : mx_W cl D A h s H) (hS : va_S A s.heap H locs) : ∀ t : State, t.heap = H → s.WarmedH t.vm → mx_Post cl D A Post a s (.returned v) t :=
  fun t ht hW => ⟨⟨v, h, rfl, hp, by rw [ht]; exact hw.moved hW.alike⟩, hS.F ht⟩
theorem ok_iret (X : mx_Cx p s m args c cc nL cl D A Ts own) {Post : Option Value → mx_H → Prop} {mc ms : Nat} (hr : meth.sig.returnType = some .int) (hlocks : meth.locks = false) (hd : decode cc pc = .ok (.ireturn, 1)) : mx_Ok p l e R s m args below meth c (MQ below (mx_Post cl D A Post) args s mc ms A) nL cl D A (fun v h c n => Post v h ∧ c ≤ mc ∧ n ≤ ms) pc o_iret := by
  intro ls st h k n z
  obtain ⟨q, hf, h1, h2, h3⟩ := mx_ret_inv z
  try dsimp only at hf
  split at hf
  · cases hf
    intro arr H locs hl hw hS
    exact W.widen h2 h3 (W.iret X.1.1 X.1.2.1 hr (mx_end h1 hw hS) hS.2.2 hd hlocks)
  · cases hf
theorem ok_zret (X : mx_Cx p s m args c cc nL cl D A Ts own) {Post : Option Value → mx_H → Prop} {mc ms : Nat} (hr : meth.sig.returnType = some .boolean) (hlocks : meth.locks = false) (hd : decode cc pc = .ok (.ireturn, 1)) : mx_Ok p l e R s m args below meth c (MQ below (mx_Post cl D A Post) args s mc ms A) nL cl D A (fun v h c n => Post v h ∧ c ≤ mc ∧ n ≤ ms) pc o_zret := by
  intro ls st h k n z
  obtain ⟨hn, z⟩ := z
  obtain ⟨q, hf, h1, h2, h3⟩ := mx_ret_inv z
  unfold mx_z01 at hn
  split at hn
  · cases hf
    intro arr H locs hl hw hS
    exact W.widen h2 h3 (W.zret X.1.1 X.1.2.1 hr hn (mx_end h1 hw hS) hS.2.2 hd hlocks)
  · exact hn.elim
theorem ok_lret (X : mx_Cx p s m args c cc nL cl D A Ts own) {Post : Option Value → mx_H → Prop} {mc ms : Nat} (hr : meth.sig.returnType = some .long) (hlocks : meth.locks = false) (hd : decode cc pc = .ok (.lreturn, 1)) : mx_Ok p l e R s m args below meth c (MQ below (mx_Post cl D A Post) args s mc ms A) nL cl D A (fun v h c n => Post v h ∧ c ≤ mc ∧ n ≤ ms) pc o_lret := by
  intro ls st h k n z
  obtain ⟨q, hf, h1, h2, h3⟩ := mx_ret_inv z
  try dsimp only at hf
  split at hf
  · cases hf
    intro arr H locs hl hw hS
    exact W.widen h2 h3 (W.lret X.1.1 X.1.2.1 hr (mx_end h1 hw hS) hS.2.2 hd hlocks)
  · cases hf
theorem ok_aret (X : mx_Cx p s m args c cc nL cl D A Ts own) {Post : Option Value → mx_H → Prop} {mc ms : Nat} {rt : FieldType} (hr : meth.sig.returnType = some rt) (hrt : (∃ n, rt = .object n) ∨ ∃ t, rt = .array t) (hlocks : meth.locks = false) (hd : decode cc pc = .ok (.areturn, 1)) : mx_Ok p l e R s m args below meth c (MQ below (mx_Post cl D A Post) args s mc ms A) nL cl D A (fun v h c n => Post v h ∧ c ≤ mc ∧ n ≤ ms) pc o_aret := by
  intro ls st h k n z
  obtain ⟨q, hf, h1, h2, h3⟩ := mx_ret_inv z
  try dsimp only at hf
  split at hf
  · rename_i a
    cases hf
    intro arr H locs hl hw hS
    exact W.widen h2 h3 (W.aret X.1.1 X.1.2.1 hr hrt (Or.inr ⟨a, rfl⟩) (mx_end h1 hw hS) hS.2.2 hd hlocks)
  · cases hf
    intro arr H locs hl hw hS
    exact W.widen h2 h3 (W.aret X.1.1 X.1.2.1 hr hrt (Or.inl rfl) (mx_end h1 hw hS) hS.2.2 hd hlocks)
  · cases hf
theorem ok_vret (X : mx_Cx p s m args c cc nL cl D A Ts own) {Post : Option Value → mx_H → Prop} {mc ms : Nat} (hr : meth.sig.returnType = none) (hlocks : meth.locks = false) (hd : decode cc pc = .ok (.return_, 1)) : mx_Ok p l e R s m args below meth c (MQ below (mx_Post cl D A Post) args s mc ms A) nL cl D A (fun v h c n => Post v h ∧ c ≤ mc ∧ n ≤ ms) pc o_vret := by
  intro ls st h k n z
  obtain ⟨q, hf, h1, h2, h3⟩ := mx_ret_inv z
  try dsimp only at hf
  split at hf
  · cases hf
    intro arr H locs hl hw hS
    exact W.widen h2 h3 (W.vret X.1.1 X.1.2.1 hr (mx_end h1 hw hS) hS.2.2 hd hlocks)
  · cases hf
-- switches
def mx_swv (ts : List (Int32 × Nat)) (d : Nat) (x : Int32) : Nat := match ts with
  | [] => d
  | (v, t) :: r => if x = v then t else mx_swv r d x
theorem mx_sw_use {d : Nat} {x : Int32} {k : Nat → Prop} : ∀ (ts : List (Int32 × Nat)), mx_sw ts d x k → k (mx_swv ts d x)
  | [], z => z
  | (v, t) :: r, z => by
    unfold mx_swv
    by_cases hx : x = v
    · rw [if_pos hx]; exact z.1 hx
    · rw [if_neg hx]; exact mx_sw_use r (z.2 hx)
theorem mx_swv_out {d : Nat} {x : Int32} : ∀ (ts : List (Int32 × Nat)), (∀ q ∈ ts, ¬ x = q.1) → mx_swv ts d x = d
  | [], _ => rfl
  | (v, t) :: r, h => by
    unfold mx_swv
    rw [if_neg (h _ List.mem_cons_self)]
    exact mx_swv_out r (fun q hq => h q (List.mem_cons_of_mem _ hq))
theorem ok_table (X : mx_Cx p s m args c cc nL cl D A Ts own) {ts : List (Int32 × Nat)} {d len N : Nat} {dflt lo hi : Int} {offs : Array Int} (hd : decode cc pc = .ok (.tableswitch dflt lo hi offs, len)) (hdf : (pc : Int) + dflt = (d : Int)) (hN : hi = lo + N) (hout : ∀ q ∈ ts, lo ≤ q.1.toInt ∧ q.1.toInt ≤ hi)
    (hin : ∀ j : Nat, j ≤ N → (offs[j]?).map (fun o => (pc : Int) + o) = some ((mx_swv ts d (Int32.ofInt (lo + j)) : Nat) : Int)) : mx_Ok p l e R s m args below meth c Q nL cl D A r pc (o_sw ts d) := by
  intro ls st h k n z
  unfold o_sw at z
  split at z
  · rename_i x rest
    have kk := mx_sw_use ts z
    intro arr H locs hl hw hS
    by_cases h1 : x.toInt < lo
    · rw [mx_swv_out ts (fun q hq e => by have := (hout q hq).1; rw [← e] at this; omega)] at kk
      exact lv_tableOut X.1.1 X.1.2.1 hd (Or.inl h1) hdf (kk arr H locs hl hw hS)
    · by_cases h2 : hi < x.toInt
      · rw [mx_swv_out ts (fun q hq e => by have := (hout q hq).2; rw [← e] at this; omega)] at kk
        exact lv_tableOut X.1.1 X.1.2.1 hd (Or.inr h2) hdf (kk arr H locs hl hw hS)
      · have hj := hin (x.toInt - lo).toNat (by omega)
        have e1 : lo + ((x.toInt - lo).toNat : Int) = x.toInt := by omega
        rw [e1, Int32.ofInt_toInt] at hj
        cases ho : offs[(x.toInt - lo).toNat]? with
        | none => rw [ho] at hj; cases hj
        | some o =>
          rw [ho] at hj
          exact lv_tableIn X.1.1 X.1.2.1 hd h1 h2 ho (Option.some.inj hj) (kk arr H locs hl hw hS)
  · exact z.elim
theorem ok_lookup (X : mx_Cx p s m args c cc nL cl D A Ts own) {ts : List (Int32 × Nat)} {d len : Nat} {dflt : Int} {ps : Array (Int × Int)} (hd : decode cc pc = .ok (.lookupswitch dflt ps, len)) (hp : (ps.toList.zip (ps.toList.drop 1)).all (fun (a, next) => a.1 < next.1) = true)
    (ho : ∀ x : Int32, (pc : Int) + Op.lookupswitch.offset ps.toList dflt x.toInt = ((mx_swv ts d x : Nat) : Int)) : mx_Ok p l e R s m args below meth c Q nL cl D A r pc (o_sw ts d) := by
  intro ls st h k n z
  unfold o_sw at z
  split at z
  · rename_i x rest
    have kk := mx_sw_use ts z
    intro arr H locs hl hw hS
    exact lv_lookup X.1.1 X.1.2.1 hd hp rfl (ho x) (kk arr H locs hl hw hS)
  · exact z.elim
-- calls
abbrev mx_Pc (cl : List vw_C) (D : va_G) (A : Nat → Prop) (Z : mx_Zt) (av : List Value) (h : mx_H) : Array Value → State → Prop := va_Pc av (fun U => va_K D cl [] U ∧ mx_W cl D A h U U.heap ∧ (∀ q : Nat, U.heap.size ≤ q → A q) ∧ Z A U U.heap)
def mx_Met (l : Launch) (y : MethodName) (ws : List Cond) (rm : Room) (cl : List vw_C) (Z : mx_Zt) (mc ms : Nat) (S : mx_Sp) : Prop :=
  ∀ (D : va_G) (A : Nat → Prop) (av : List Value) (h : mx_H) (Post : Option Value → mx_H → Prop), S av h Post → Met l y ws rm (mx_Pc cl D A Z av h) (mx_Post cl D A Post) mc ms A
theorem mx_blind {Z : mx_Zt} (hZ : mx_Zok Z) {av : List Value} {h : mx_H} : FrameBlind (mx_Pc cl D A Z av h) := by
  intro a U g mk q
  obtain ⟨q0, qK, qW, qA, qZ⟩ := q
  exact ⟨q0, va_K.moved (u := U) (U := U.calling g mk a) (Vm.Alike.refl U.vm) qK, mx_W.moved (s := U) (U := U.calling g mk a) (Vm.Alike.refl U.vm) qW, qA, hZ.2.1 A U (U.calling g mk a) _ rfl qZ⟩
theorem mx_pre {Z : mx_Zt} (hZ : mx_Zok Z) {av : List Value} {h : mx_H} {H : Heap} {locs : List Loc} (hK : va_K D cl [] s) (hA : ∀ q : Nat, s.heap.size ≤ q → A q) (hz : Z A s s.heap) (hw : mx_W cl D A h s H) (hS : va_S A s.heap H locs) : ∀ U : State, U.heap = H → s.WarmedH U.vm → mx_Pc cl D A Z av h av.toArray U := by
  intro U hU hW
  refine ⟨rfl, va_K.moved hW.alike hK, by rw [hU]; exact hw.moved hW.alike, fun q hq => hA q (Nat.le_trans hS.1 (by rw [← hU]; exact hq)), ?_⟩
  rw [hU]
  exact hZ.1 A s U H hW (hZ.2.2 A s s.heap H hS.2.1 hz)
theorem mx_go {Post : Option Value → mx_H → Prop} {a : Array Value} {H : Heap} {locs : List Loc} {k n mc ms : Nat} {arr : Array Slot} {st0 rest : List Value} (hr : va_Run p l e R s m args below meth c H locs k n mc ms (F0 m pc arr st0) rest (mx_Post cl D A Post a) A) (hS : va_S A s.heap H locs)
    (kk : ∀ (v : Option Value) (h' : mx_H) (H1 : Heap) (locs1 : List Loc), Post v h' → mx_W cl D A h' s H1 → va_S A s.heap H1 locs1 → W p l e R s m args below meth c H1 locs1 (k + mc) (n + ms) Q (F0 m (pc + 3) arr (v.toList ++ rest))) : W p l e R s m args below meth c H locs k n Q (F0 m pc arr st0) := by
  intro T hT X
  obtain ⟨v, st₀, t, T', L, h0, X', hL, e1, e2, ⟨⟨v', h', hv, hp, hw⟩, hz, hk⟩, st⟩ := hr T hT X
  cases hv
  rw [h0] at hz hk
  have hvm : s.vm.Alike t.vm := by rw [← e2]; exact X'.warmed.alike
  obtain ⟨t2, a1, b1⟩ := kk v h' T'.heap (locs ++ L) hp (by rw [e1]; exact hw.moved hvm.symm)
    ⟨Nat.le_trans hS.1 (by rw [e1]; exact hz), fun q h1 h2 => by rw [e1, hk q (Nat.lt_of_lt_of_le h1 hS.1) h2]; exact hS.2.1 q h1 h2, fun q hq => by
      rcases List.mem_append.mp hq with h | h
      · exact hS.2.2 q h
      · exact hL q h⟩ T' rfl X'
  exact ⟨t2, st t2 a1, b1⟩
theorem mx_pop_inv : ∀ (n : Nat) (acc st : List Value) (q : List Value × List Value), mx_pop n acc st = some q → ∃ xs : List Value, st = xs ++ q.2 ∧ q.1 = xs.reverse ++ acc ∧ xs.length = n
  | 0, acc, st, q, h => by
    unfold mx_pop at h
    cases h
    exact ⟨[], rfl, rfl, rfl⟩
  | n + 1, acc, v :: st, q, h => by
    unfold mx_pop at h
    obtain ⟨xs, h1, h2, h3⟩ := mx_pop_inv n (v :: acc) st q h
    refine ⟨v :: xs, by rw [h1]; rfl, ?_, by simp [h3]⟩
    rw [h2]
    simp
  | n + 1, acc, [], q, h => by
    unfold mx_pop at h
    cases h
theorem mx_call_inv {rc rs na mc ms : Nat} {ok : List Value → mx_H → Prop} {S : mx_Sp} {k : mx_C} {ls : mx_L} {st : List Value} {h : mx_H} {c n : Nat} (z : o_call rc rs na mc ms ok S r k pc ls st h c n) : ∃ av rest : List Value, st = av.reverse ++ rest ∧ av.length = na ∧ ok av h ∧ mx_cat rest ≤ 8 ∧ c + mc ≤ rc ∧ n + ms ≤ rs ∧ S av h (fun v h' => k (pc + 3) ls (v.toList ++ rest) h' (c + mc) (n + ms)) := by
  unfold o_call at z
  cases hp : mx_pop na [] st with
  | none => rw [hp] at z; exact z.elim
  | some q =>
    rw [hp] at z
    obtain ⟨xs, h1, h2, h3⟩ := mx_pop_inv na [] st q hp
    refine ⟨q.1, q.2, ?_, ?_, z⟩
    · rw [h2, h1]; simp
    · rw [h2]; simp [h3]
def mx_rv (ci : Nat) (av : List Value) (h : mx_H) : Prop := match av with
  | .ref a :: _ => mx_cls h a = some ci
  | _ => False
def mx_rr (av : List Value) (_ : mx_H) : Prop := match av with
  | .ref _ :: _ => True
  | _ => False
theorem ok_callV (X : mx_Cx p s m args c cc nL cl D A Ts own) {Z : mx_Zt} (hZ : mx_Zok Z) (hz : Z A s s.heap) {rc rs : Nat} (hR : rc ≤ R.cells ∧ rs ≤ R.slots) {y : MethodName} {ws : List Cond} {rm : Room} {mc ms n index maxL ci N : Nat} {bytes : ByteArray} {ret : Option FieldType} {C : String} {T : u_T} {S : mx_Sp} (hM : mx_Met l y ws rm cl Z mc ms S) (cw : CallW R s args own C index y bytes maxL ret ws rm mc ms n) (hc : cl[ci]? = some (C, T, N)) (hd : decode cc pc = .ok (.invokevirtual index, 3)) : mx_Ok p l e R s m args below meth c Q nL cl D A r pc (o_call rc rs (n + 1) mc ms (mx_rv ci) S) := by
  intro ls st h k n0 z
  obtain ⟨av, rest, hst, hlen, hok, hcat, h1, h2, hSp⟩ := mx_call_inv z
  unfold mx_rv at hok
  split at hok
  · rename_i a As
    intro arr H locs hl hw hS
    obtain ⟨fs, hcl⟩ := mx_cls_inv hok
    obtain ⟨L, f, j, hP, hD, h3, hm, hj, hfa⟩ := hw.obj hcl
    rw [hfa] at hj
    have hw : mx_W cl D A h s H := ⟨L, f, hP, hD, h3⟩
    exact mx_go (va_runV X.1 (hM D A (.ref a :: As) h _ hSp) cw ⟨mx_blind hZ, va_recv X.2.1 hP hc hj, mx_pre hZ X.2.1 X.2.2 hz hw hS⟩ rfl (by simpa using hlen) hl.1 (by rw [hst]; simp) (lv_room hcat) hd ⟨Nat.le_trans h1 hR.1, Nat.le_trans h2 hR.2⟩) hS (fun v h' H1 locs1 hp hw1 hS1 => hp arr H1 locs1 hl hw1 hS1)
  · exact hok.elim
theorem ok_callVN (X : mx_Cx p s m args c cc nL cl D A Ts own) {Z : mx_Zt} (hZ : mx_Zok Z) (hz : Z A s s.heap) {rc rs : Nat} (hR : rc ≤ R.cells ∧ rs ≤ R.slots) {y : MethodName} {ws : List Cond} {rm : Room} {mc ms n index maxL ci N : Nat} {bytes : ByteArray} {ret : Option FieldType} {C host : String} {T : u_T} {S : mx_Sp} (hM : mx_Met l y ws rm cl Z mc ms S) (cw : va_CN R s args own index y host bytes maxL ret ws rm mc ms n ∧ (Cond.instanceMethod y).before args s = true ∧ (Cond.selects C y y).before args s = true) (hc : cl[ci]? = some (C, T, N)) (hd : decode cc pc = .ok (.invokevirtual index, 3)) : mx_Ok p l e R s m args below meth c Q nL cl D A r pc (o_call rc rs (n + 1) mc ms (mx_rv ci) S) := by
  intro ls st h k n0 z
  obtain ⟨av, rest, hst, hlen, hok, hcat, h1, h2, hSp⟩ := mx_call_inv z
  unfold mx_rv at hok
  split at hok
  · rename_i a As
    intro arr H locs hl hw hS
    obtain ⟨fs, hcl⟩ := mx_cls_inv hok
    obtain ⟨L, f, j, hP, hD, h3, hm, hj, hfa⟩ := hw.obj hcl
    rw [hfa] at hj
    have hw : mx_W cl D A h s H := ⟨L, f, hP, hD, h3⟩
    exact mx_go (va_runVN X.1 (hM D A (.ref a :: As) h _ hSp) cw ⟨mx_blind hZ, va_recv X.2.1 hP hc hj, mx_pre hZ X.2.1 X.2.2 hz hw hS⟩ rfl (by simpa using hlen) hl.1 (by rw [hst]; simp) (lv_room hcat) hd ⟨Nat.le_trans h1 hR.1, Nat.le_trans h2 hR.2⟩) hS (fun v h' H1 locs1 hp hw1 hS1 => hp arr H1 locs1 hl hw1 hS1)
  · exact hok.elim
theorem ok_callI (X : mx_Cx p s m args c cc nL cl D A Ts own) {Z : mx_Zt} (hZ : mx_Zok Z) (hz : Z A s s.heap) {rc rs : Nat} (hR : rc ≤ R.cells ∧ rs ≤ R.slots) {y : MethodName} {ws : List Cond} {rm : Room} {mc ms n index maxL : Nat} {bytes : ByteArray} {S : mx_Sp} (hM : mx_Met l y ws rm cl Z mc ms S) (cw : CallB R s args own index y bytes maxL none ws rm mc ms n ∧ y.name = "<init>" ∧ (Cond.instanceMethod y).before args s = true) (hd : decode cc pc = .ok (.invokespecial index, 3)) : mx_Ok p l e R s m args below meth c Q nL cl D A r pc (o_call rc rs (n + 1) mc ms mx_rr S) := by
  intro ls st h k n0 z
  obtain ⟨av, rest, hst, hlen, hok, hcat, h1, h2, hSp⟩ := mx_call_inv z
  unfold mx_rr at hok
  split at hok
  · rename_i a As
    intro arr H locs hl hw hS
    exact mx_go (va_runI X.1 (hM D A (.ref a :: As) h _ hSp) cw ⟨mx_blind hZ, mx_pre hZ X.2.1 X.2.2 hz hw hS⟩ rfl (by simpa using hlen) hl.1 (by rw [hst]; simp) (lv_room hcat) hd ⟨Nat.le_trans h1 hR.1, Nat.le_trans h2 hR.2⟩) hS (fun v h' H1 locs1 hp hw1 hS1 => hp arr H1 locs1 hl hw1 hS1)
  · exact hok.elim
theorem ok_callS (X : mx_Cx p s m args c cc nL cl D A Ts own) {Z : mx_Zt} (hZ : mx_Zok Z) (hz : Z A s s.heap) {rc rs : Nat} (hR : rc ≤ R.cells ∧ rs ≤ R.slots) {y : MethodName} {ws : List Cond} {rm : Room} {mc ms n index maxL : Nat} {bytes : ByteArray} {ret : Option FieldType} {S : mx_Sp} (hM : mx_Met l y ws rm cl Z mc ms S) (cw : CallB R s args own index y bytes maxL ret ws rm mc ms n ∧ (Cond.static y).before args s = true) (hd : decode cc pc = .ok (.invokestatic index, 3)) : mx_Ok p l e R s m args below meth c Q nL cl D A r pc (o_call rc rs n mc ms (fun _ _ => True) S) := by
  intro ls st h k n0 z
  obtain ⟨av, rest, hst, hlen, hok, hcat, h1, h2, hSp⟩ := mx_call_inv z
  intro arr H locs hl hw hS
  exact mx_go (va_runS X.1 (hM D A av h _ hSp) cw ⟨mx_blind hZ, mx_pre hZ X.2.1 X.2.2 hz hw hS⟩ rfl hlen hl.1 hst (lv_room hcat) hd ⟨Nat.le_trans h1 hR.1, Nat.le_trans h2 hR.2⟩) hS (fun v h' H1 locs1 hp hw1 hS1 => hp arr H1 locs1 hl hw1 hS1)
theorem ok_callSN (X : mx_Cx p s m args c cc nL cl D A Ts own) {Z : mx_Zt} (hZ : mx_Zok Z) (hz : Z A s s.heap) {rc rs : Nat} (hR : rc ≤ R.cells ∧ rs ≤ R.slots) {y : MethodName} {ws : List Cond} {rm : Room} {mc ms n index maxL : Nat} {bytes : ByteArray} {ret : Option FieldType} {host : String} {S : mx_Sp} (hM : mx_Met l y ws rm cl Z mc ms S) (cw : va_CN R s args own index y host bytes maxL ret ws rm mc ms n ∧ (Cond.static y).before args s = true ∧ True) (hd : decode cc pc = .ok (.invokestatic index, 3)) : mx_Ok p l e R s m args below meth c Q nL cl D A r pc (o_call rc rs n mc ms (fun _ _ => True) S) := by
  intro ls st h k n0 z
  obtain ⟨av, rest, hst, hlen, hok, hcat, h1, h2, hSp⟩ := mx_call_inv z
  intro arr H locs hl hw hS
  exact mx_go (va_runSN X.1 (hM D A av h _ hSp) cw ⟨mx_blind hZ, mx_pre hZ X.2.1 X.2.2 hz hw hS⟩ rfl hlen hl.1 hst (lv_room hcat) hd ⟨Nat.le_trans h1 hR.1, Nat.le_trans h2 hR.2⟩) hS (fun v h' H1 locs1 hp hw1 hS1 => hp arr H1 locs1 hl hw1 hS1)
end MXU
/-- a method's contract out of its table -/
theorem mx_met {l : Launch} {y : MethodName} {ws ws' : List Cond} {rm : Room} {cl : List vw_C} {Z : mx_Zt} {mc ms nL : Nat} {cc : ByteArray} {ret : Option FieldType} {tab : List (Nat × mx_O)} (hy : plainName y.cls = true) (hw : ws = Cond.code y cc nL ret :: ws')
    (body : ∀ (p : Program) (e : Env) (s : State) (m : MethodId) (args : Array Value) (below : List Frame) (meth : Method) (c : Code) (D : va_G) (A : Nat → Prop) (Post : Option Value → mx_H → Prop), mx_Cx p s m args c cc nL cl D A ws y.cls → Z A s s.heap → meth.sig.returnType = ret → meth.locks = false → meth.name = y.name →
      mx_All (mx_Ok p l e (headSpec ws rm).room s m args below meth c (MQ below (mx_Post cl D A Post) args s mc ms A) nL cl D A (fun v h c n => Post v h ∧ c ≤ mc ∧ n ≤ ms)) tab) : mx_Met l y ws rm cl Z mc ms (mx_S nL mc ms tab) := by
  intro D A av h Post hS
  refine Met.ofW (cc := cc) (maxL := nL) (ret := ret) hy hw ?_
  intro p e s m args below meth c s₁ B hml hv
  obtain ⟨rfl, hK, hW, hA, hZ⟩ := hv
  have hown : s.vm.findClass y.cls = some m.cls := findClass_of_methodNamed B.named
  rw [lg_entry_eq]
  exact mx_G_sound (body p e s m _ below meth c D A Post ⟨⟨B.exec, B.bytes, hml, hown, atoms_spec (ws := ws) B.pre⟩, hK, hA⟩ hZ B.returns B.notSynchronized (name_of_methodNamed B.named B.method).1) hS.2 _ s.heap [] (lv_entry av hS.1) hW va_S.rf
-- what may go into a field
def mx_vI (v : Value) : Prop := match v with
  | .int _ => True
  | _ => False
def mx_vJ (v : Value) : Prop := match v with
  | .long _ => True
  | _ => False
def mx_vZ (v : Value) : Prop := match v with
  | .int x => x = 0 ∨ x = 1
  | _ => False
def mx_vA (v : Value) : Prop := match v with
  | .ref _ => True
  | .null => True
  | _ => False
theorem mx_vI_ok (v : Value) (h : mx_vI v) : narrow .int v = v ∧ fits .int v = true := by
  unfold mx_vI at h
  split at h
  · exact ⟨rfl, rfl⟩
  · exact h.elim
theorem mx_vJ_ok (v : Value) (h : mx_vJ v) : narrow .long v = v ∧ fits .long v = true := by
  unfold mx_vJ at h
  split at h
  · exact ⟨rfl, rfl⟩
  · exact h.elim
theorem mx_vZ_ok (v : Value) (h : mx_vZ v) : narrow .boolean v = v ∧ fits .boolean v = true := by
  unfold mx_vZ at h
  split at h
  · rcases h with rfl | rfl
    · exact ⟨by decide, by decide⟩
    · exact ⟨by decide, by decide⟩
  · exact h.elim
theorem mx_vA_ok {C : String} (v : Value) (h : mx_vA v) : narrow (.object C) v = v ∧ fits (.object C) v = true := by
  unfold mx_vA at h
  split at h
  · exact ⟨rfl, rfl⟩
  · exact ⟨rfl, rfl⟩
  · exact h.elim
theorem mx_vA_okR {t : FieldType} (v : Value) (h : mx_vA v) : narrow (.array t) v = v ∧ fits (.array t) v = true := by
  unfold mx_vA at h
  split at h
  · exact ⟨rfl, rfl⟩
  · exact ⟨rfl, rfl⟩
  · exact h.elim
theorem mx_lks {pc d : Nat} {dflt : Int} {x : Int32} (hd : (pc : Int) + dflt = (d : Int)) : ∀ (ps : List (Int × Int)) (ts : List (Int32 × Nat)), ts.map (fun q => (q.1.toInt, (q.2 : Int))) = ps.map (fun q => (q.1, (pc : Int) + q.2)) → (pc : Int) + Op.lookupswitch.offset ps dflt x.toInt = ((mx_swv ts d x : Nat) : Int)
  | [], [], _ => hd
  | [], _ :: _, h => by cases h
  | _ :: _, [], h => by cases h
  | (a, o) :: r, (v, t) :: r', h => by
    simp only [List.map_cons, List.cons.injEq, Prod.mk.injEq] at h
    rw [Op.lookupswitch.offset_cons]
    unfold mx_swv
    by_cases hx : x = v
    · rw [if_pos hx, if_pos (by rw [hx]; exact h.1.1.symm)]
      exact h.1.2.symm
    · rw [if_neg hx, if_neg (fun q => hx (Int32.toInt_inj.mp (q.symm.trans h.1.1.symm)))]
      exact mx_lks hd r r' h.2
theorem mx_all_cons {P : Nat → mx_O → Prop} {i : Nat} {o : mx_O} {t : List (Nat × mx_O)} (h : P i o) (ht : mx_All P t) : mx_All P ((i, o) :: t) := ⟨h, ht⟩
theorem mx_all_nil {P : Nat → mx_O → Prop} : mx_All P [] := trivial
