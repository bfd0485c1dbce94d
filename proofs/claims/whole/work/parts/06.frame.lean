/-! A call with a frame: the callee gets a part of the world; the rest stays as it is (the law calls the class's object and the reference's object so). -/
def mx_un (h1 h2 : mx_H) : mx_H := fun a => match h1 a with
  | some e => some e
  | none => h2 a
def mx_dj (h1 h2 : mx_H) : Prop := ∀ a : Nat, h1 a = none ∨ h2 a = none
def mx_Zn (Z : mx_Zt) : Prop := ∀ (A B : Nat → Prop) (s : State) (H : Heap), (∀ q, B q → A q) → Z A s H → Z B s H
theorem mx_pl_at {L : List Nat} {f : Nat → va_E} {k : Nat} {q : Nat × va_E} (h : (va_pl L f)[k]? = some q) : L[k]? = some q.1 ∧ q.2 = f q.1 := by
  unfold va_pl at h
  rw [List.getElem?_map] at h
  cases hk : L[k]? with
  | none => rw [hk] at h; cases h
  | some a => rw [hk] at h; cases h; exact ⟨rfl, rfl⟩
theorem mx_pl_D {A : Nat → Prop} {L : List Nat} {f : Nat → va_E} : va_D A (va_pl L f) ↔ L.Nodup ∧ ∀ a ∈ L, A a := by
  constructor
  · intro h
    refine ⟨?_, fun a ha => ?_⟩
    · refine List.pairwise_iff_getElem.mpr (fun i j hi hj hij e2 => ?_)
      have h1 : (va_pl L f)[i]? = some (L[i], f L[i]) := by simp [va_pl, hi]
      have h2 : (va_pl L f)[j]? = some (L[j], f L[j]) := by simp [va_pl, hj]
      have := h.1 i j _ _ h1 h2 e2
      omega
    · obtain ⟨k, hk⟩ := va_pl_get (X := []) (f := f) ha
      exact h.2 k _ hk
  · intro h
    refine ⟨fun i j p q hp hq e => ?_, fun k q hk => ?_⟩
    · obtain ⟨h1, -⟩ := mx_pl_at hp
      obtain ⟨h2, -⟩ := mx_pl_at hq
      rw [← e] at h2
      have hi : i < L.length := (List.getElem?_eq_some_iff.mp h1).1
      have hj : j < L.length := (List.getElem?_eq_some_iff.mp h2).1
      by_cases hij : i = j
      · exact hij
      · exfalso
        rcases Nat.lt_or_gt_of_ne hij with hlt | hlt
        · exact (List.pairwise_iff_getElem.mp h.1 i j hi hj hlt) (Option.some.inj ((List.getElem?_eq_getElem hi).symm.trans (h1.trans (h2.symm.trans (List.getElem?_eq_getElem hj)))))
        · exact (List.pairwise_iff_getElem.mp h.1 j i hj hi hlt) (Option.some.inj ((List.getElem?_eq_getElem hj).symm.trans (h2.trans (h1.symm.trans (List.getElem?_eq_getElem hi)))))
    · obtain ⟨h1, -⟩ := mx_pl_at hk
      exact h.2 q.1 (List.mem_of_getElem? h1)
theorem mx_pl_P {D : va_G} {cl : List vw_C} {L : List Nat} {f : Nat → va_E} {H : Heap} : va_P D cl (va_pl L f) H ↔ ∀ a ∈ L, va_at D cl (a, f a) H := by
  constructor
  · intro h a ha
    obtain ⟨k, hk⟩ := va_pl_get (X := []) (f := f) ha
    exact h k _ hk
  · intro h k q hk
    obtain ⟨h1, h2⟩ := mx_pl_at hk
    have := h q.1 (List.mem_of_getElem? h1)
    rw [← h2] at this
    exact this
/-- the part of the world that a callee gets -/
theorem mx_W.part {cl : List vw_C} {D : va_G} {A : Nat → Prop} {h1 h2 : mx_H} {s : State} {H : Heap} (w : mx_W cl D A (mx_un h1 h2) s H) : mx_W cl D (fun q => (h1 q ≠ none ∧ A q) ∨ H.size ≤ q) h1 s H := by
  obtain ⟨L, f, hP, hD, h3⟩ := w
  rw [mx_pl_P] at hP
  rw [mx_pl_D] at hD
  refine ⟨L.filter (fun a => (h1 a).isSome), f, mx_pl_P.mpr (fun a ha => hP a (List.mem_filter.mp ha).1), mx_pl_D.mpr ⟨hD.1.filter _, fun a ha => ?_⟩, fun a e he => ?_⟩
  · have hs := (List.mem_filter.mp ha).2
    refine Or.inl ⟨fun hn => ?_, hD.2 a (List.mem_filter.mp ha).1⟩
    rw [hn] at hs
    cases hs
  · have hu : mx_un h1 h2 a = some e := by unfold mx_un; rw [he]
    obtain ⟨g1, g2⟩ := h3 a e hu
    exact ⟨List.mem_filter.mpr ⟨g1, by rw [he]; rfl⟩, g2⟩
/-- what came back beside the rest -/
theorem mx_W.joined {cl : List vw_C} {D : va_G} {A : Nat → Prop} {h1 h2 h1' : mx_H} {s : State} {H H1 : Heap} (hd : mx_dj h1 h2) (w : mx_W cl D A (mx_un h1 h2) s H) (hA : ∀ q : Nat, H.size ≤ q → A q) (w1 : mx_W cl D (fun q => (h1 q ≠ none ∧ A q) ∨ H.size ≤ q) h1' s H1) (hk : ∀ q : Nat, q < H.size → ¬ ((h1 q ≠ none ∧ A q) ∨ H.size ≤ q) → H1[q]? = H[q]?) : mx_dj h1' h2 ∧ mx_W cl D A (mx_un h1' h2) s H1 := by
  obtain ⟨L, f, hP, hD, h3⟩ := w
  obtain ⟨L1, f1, hP1, hD1, h31⟩ := w1
  rw [mx_pl_P] at hP hP1
  rw [mx_pl_D] at hD hD1
  have hsep : ∀ a, a ∈ L → h1 a = none → a ∉ L1 := fun a ha hn h9 => by
    rcases hD1.2 a h9 with hc | hc
    · exact hc.1 hn
    · have := (hP a ha).lt
      exact absurd (show a < H.size from this) (Nat.not_lt.mpr hc)
  have hin2 : ∀ a e, h2 a = some e → a ∈ L ∧ h1 a = none ∧ mx_rl s e (f a) := fun a e he => by
    have hn : h1 a = none := by
      rcases hd a with h | h
      · exact h
      · rw [he] at h; cases h
    have hu : mx_un h1 h2 a = some e := by unfold mx_un; rw [hn]; exact he
    exact ⟨(h3 a e hu).1, hn, (h3 a e hu).2⟩
  refine ⟨fun a => ?_, L1 ++ L.filter (fun a => (h1 a).isNone), fun a => if a ∈ L1 then f1 a else f a, mx_pl_P.mpr (fun a ha => ?_), mx_pl_D.mpr ⟨?_, fun a ha => ?_⟩, fun a e he => ?_⟩
  · cases h9 : h2 a with
    | none => exact Or.inr rfl
    | some e =>
      obtain ⟨g1, g2, -⟩ := hin2 a e h9
      refine Or.inl ?_
      cases h8 : h1' a with
      | none => rfl
      | some e1 => exact absurd (h31 a e1 h8).1 (hsep a g1 g2)
  · try dsimp only
    rcases List.mem_append.mp ha with h | h
    · rw [if_pos h]
      exact hP1 a h
    · obtain ⟨g1, g2⟩ := List.mem_filter.mp h
      have hn : h1 a = none := by
        cases h9 : h1 a with
        | none => rfl
        | some e => rw [h9] at g2; cases g2
      rw [if_neg (hsep a g1 hn)]
      refine (hP a g1).kept (hk a (hP a g1).lt (fun h9 => ?_))
      rcases h9 with h9 | h9
      · exact h9.1 hn
      · exact absurd (show a < H.size from (hP a g1).lt) (Nat.not_lt.mpr h9)
  · rw [List.nodup_append]
    refine ⟨hD1.1, hD.1.filter _, fun a ha b hb e => ?_⟩
    subst e
    obtain ⟨g1, g2⟩ := List.mem_filter.mp hb
    have hn : h1 a = none := by
      cases h9 : h1 a with
      | none => rfl
      | some e => rw [h9] at g2; cases g2
    exact hsep a g1 hn ha
  · rcases List.mem_append.mp ha with h | h
    · rcases hD1.2 a h with h9 | h9
      · exact h9.2
      · exact hA a h9
    · exact hD.2 a (List.mem_filter.mp h).1
  · try dsimp only
    unfold mx_un at he
    cases h9 : h1' a with
    | some e1 =>
      rw [h9] at he
      cases he
      obtain ⟨g1, g2⟩ := h31 a e h9
      rw [if_pos g1]
      exact ⟨List.mem_append_left _ g1, g2⟩
    | none =>
      rw [h9] at he
      obtain ⟨g1, g2, g3⟩ := hin2 a e he
      rw [if_neg (hsep a g1 g2)]
      exact ⟨List.mem_append_right _ (List.mem_filter.mpr ⟨g1, by rw [g2]; rfl⟩), g3⟩
def o_callF (rc rs na mc ms : Nat) (ok : List Value → mx_H → Prop) (S : mx_Sp) : mx_O := fun _ k pc ls st h c n => match mx_pop na [] st with
  | some q => ∃ h1 h2 : mx_H, h = mx_un h1 h2 ∧ mx_dj h1 h2 ∧ ok q.1 h1 ∧ mx_cat q.2 ≤ 8 ∧ c + mc ≤ rc ∧ n + ms ≤ rs ∧ S q.1 h1 (fun r h1' => mx_dj h1' h2 → k (pc + 3) ls (r.toList ++ q.2) (mx_un h1' h2) (c + mc) (n + ms))
  | none => False
theorem mo_callF {rc rs na mc ms : Nat} {ok : List Value → mx_H → Prop} {S : mx_Sp} (hS : mx_SMono S) : mx_Mono (o_callF rc rs na mc ms ok S) := by
  intro r r' k k' hr hk pc ls st h c n
  unfold o_callF
  cases mx_pop na [] st with
  | none => exact fun z => z
  | some q =>
    rintro ⟨h1, h2, g1, g2, g3, g4, g5, g6, g7⟩
    exact ⟨h1, h2, g1, g2, g3, g4, g5, g6, hS _ _ _ _ (fun r h z hd => hk _ _ _ _ _ _ (z hd)) g7⟩
theorem mx_callF_inv {r : mx_T} {pc : Nat} {rc rs na mc ms : Nat} {ok : List Value → mx_H → Prop} {S : mx_Sp} {k : mx_C} {ls : mx_L} {st : List Value} {h : mx_H} {c n : Nat} (z : o_callF rc rs na mc ms ok S r k pc ls st h c n) : ∃ (av rest : List Value) (h1 h2 : mx_H), st = av.reverse ++ rest ∧ av.length = na ∧ h = mx_un h1 h2 ∧ mx_dj h1 h2 ∧ ok av h1 ∧ mx_cat rest ≤ 8 ∧ c + mc ≤ rc ∧ n + ms ≤ rs ∧ S av h1 (fun v h1' => mx_dj h1' h2 → k (pc + 3) ls (v.toList ++ rest) (mx_un h1' h2) (c + mc) (n + ms)) := by
  unfold o_callF at z
  cases hp : mx_pop na [] st with
  | none => rw [hp] at z; exact z.elim
  | some q =>
    rw [hp] at z
    obtain ⟨h1, h2, z⟩ := z
    obtain ⟨xs, g1, g2, g3⟩ := mx_pop_inv na [] st q hp
    refine ⟨q.1, q.2, h1, h2, ?_, ?_, z⟩
    · rw [g2, g1]; simp
    · rw [g2]; simp [g3]
section MXF
variable {p : Program} {l : Launch} {e : Env} {R : Room} {s : State} {m : MethodId} {args : Array Value} {below : List Frame} {meth : Method} {c : Code} {Q : State → Prop}
variable {cc : ByteArray} {nL : Nat} {cl : List vw_C} {D : va_G} {A : Nat → Prop} {Ts : List Cond} {own : String} {r : mx_T} {pc : Nat}
theorem mx_goF {Post : Option Value → mx_H → Prop} {a : Array Value} {h1 h2 : mx_H} {H : Heap} {locs : List Loc} {k n mc ms : Nat} {arr : Array Slot} {st0 rest : List Value} (hd : mx_dj h1 h2) (hw : mx_W cl D A (mx_un h1 h2) s H) (hA : ∀ q : Nat, s.heap.size ≤ q → A q)
    (hr : va_Run p l e R s m args below meth c H locs k n mc ms (F0 m pc arr st0) rest (mx_Post cl D (fun q => (h1 q ≠ none ∧ A q) ∨ H.size ≤ q) Post a) (fun q => (h1 q ≠ none ∧ A q) ∨ H.size ≤ q)) (hS : va_S A s.heap H locs)
    (kk : ∀ (v : Option Value) (h1' : mx_H) (H1 : Heap) (locs1 : List Loc), Post v h1' → mx_dj h1' h2 → mx_W cl D A (mx_un h1' h2) s H1 → va_S A s.heap H1 locs1 → W p l e R s m args below meth c H1 locs1 (k + mc) (n + ms) Q (F0 m (pc + 3) arr (v.toList ++ rest))) : W p l e R s m args below meth c H locs k n Q (F0 m pc arr st0) := by
  intro T hT X
  obtain ⟨v, st₀, t, T', L, h0, X', hL, e1, e2, ⟨⟨v', h', hv, hp, hw1⟩, hz, hk⟩, st⟩ := hr T hT X
  cases hv
  rw [h0] at hz hk
  have hvm : s.vm.Alike t.vm := by rw [← e2]; exact X'.warmed.alike
  have hAB : ∀ q, ((h1 q ≠ none ∧ A q) ∨ H.size ≤ q) → A q := fun q hq => by
    rcases hq with hq | hq
    · exact hq.2
    · exact hA q (Nat.le_trans hS.1 hq)
  obtain ⟨hd', hj⟩ := mx_W.joined hd hw (fun q hq => hA q (Nat.le_trans hS.1 hq)) (hw1.moved hvm.symm) hk
  obtain ⟨t2, a1, b1⟩ := kk v h' T'.heap (locs ++ L) hp hd' (by rw [e1]; exact hj)
    ⟨Nat.le_trans hS.1 (by rw [e1]; exact hz), fun q g1 g2 => by rw [e1, hk q (Nat.lt_of_lt_of_le g1 hS.1) (fun z => g2 (hAB q z))]; exact hS.2.1 q g1 g2, fun q hq => by
      rcases List.mem_append.mp hq with h | h
      · exact hS.2.2 q h
      · exact hAB _ (hL q h)⟩ T' rfl X'
  exact ⟨t2, st t2 a1, b1⟩
theorem mx_preF {Z : mx_Zt} (hZ : mx_Zok Z) (hZn : mx_Zn Z) {av : List Value} {h1 h2 : mx_H} {H : Heap} {locs : List Loc} (hK : va_K D cl [] s) (hA : ∀ q : Nat, s.heap.size ≤ q → A q) (hz : Z A s s.heap) (hw : mx_W cl D A (mx_un h1 h2) s H) (hS : va_S A s.heap H locs) : ∀ U : State, U.heap = H → s.WarmedH U.vm → mx_Pc cl D (fun q => (h1 q ≠ none ∧ A q) ∨ H.size ≤ q) Z av h1 av.toArray U := by
  intro U hU hW
  refine ⟨rfl, va_K.moved hW.alike hK, by rw [hU]; exact hw.part.moved hW.alike, fun q hq => Or.inr (by rw [← hU]; exact hq), ?_⟩
  rw [hU]
  refine hZn A _ U H (fun q hq => ?_) (hZ.1 A s U H hW (hZ.2.2 A s s.heap H hS.2.1 hz))
  rcases hq with hq | hq
  · exact hq.2
  · exact hA q (Nat.le_trans hS.1 hq)
theorem ok_callVF (X : mx_Cx p s m args c cc nL cl D A Ts own) {Z : mx_Zt} (hZ : mx_Zok Z) (hZn : mx_Zn Z) (hz : Z A s s.heap) {rc rs : Nat} (hR : rc ≤ R.cells ∧ rs ≤ R.slots) {y : MethodName} {ws : List Cond} {rm : Room} {mc ms n index maxL ci N : Nat} {bytes : ByteArray} {ret : Option FieldType} {C : String} {T : u_T} {S : mx_Sp} (hM : mx_Met l y ws rm cl Z mc ms S) (cw : CallW R s args own C index y bytes maxL ret ws rm mc ms n) (hc : cl[ci]? = some (C, T, N)) (hd : decode cc pc = .ok (.invokevirtual index, 3)) : mx_Ok p l e R s m args below meth c Q nL cl D A r pc (o_callF rc rs (n + 1) mc ms (mx_rv ci) S) := by
  intro ls st h k n0 z
  obtain ⟨av, rest, h1, h2, hst, hlen, rfl, hdj, hok, hcat, g1, g2, hSp⟩ := mx_callF_inv z
  unfold mx_rv at hok
  split at hok
  · rename_i a As
    intro arr H locs hl hw hS
    obtain ⟨fs, hcl⟩ := mx_cls_inv hok
    have hcl' : mx_un h1 h2 a = some (.inr (ci, fs)) := by unfold mx_un; rw [hcl]
    obtain ⟨L, f, j, hP, hD, h3, hm, hj, hfa⟩ := hw.obj hcl'
    rw [hfa] at hj
    have hw : mx_W cl D A (mx_un h1 h2) s H := ⟨L, f, hP, hD, h3⟩
    exact mx_goF hdj hw X.2.2 (va_runV X.1 (hM D _ (.ref a :: As) h1 _ hSp) cw ⟨mx_blind hZ, va_recv X.2.1 hP hc hj, mx_preF hZ hZn X.2.1 X.2.2 hz hw hS⟩ rfl (by simpa using hlen) hl.1 (by rw [hst]; simp) (lv_room hcat) hd ⟨Nat.le_trans g1 hR.1, Nat.le_trans g2 hR.2⟩) hS (fun v h' H1 locs1 hp hd1 hw1 hS1 => hp hd1 arr H1 locs1 hl hw1 hS1)
  · exact hok.elim
theorem ok_callIF (X : mx_Cx p s m args c cc nL cl D A Ts own) {Z : mx_Zt} (hZ : mx_Zok Z) (hZn : mx_Zn Z) (hz : Z A s s.heap) {rc rs : Nat} (hR : rc ≤ R.cells ∧ rs ≤ R.slots) {y : MethodName} {ws : List Cond} {rm : Room} {mc ms n index maxL : Nat} {bytes : ByteArray} {S : mx_Sp} (hM : mx_Met l y ws rm cl Z mc ms S) (cw : CallB R s args own index y bytes maxL none ws rm mc ms n ∧ y.name = "<init>" ∧ (Cond.instanceMethod y).before args s = true) (hd : decode cc pc = .ok (.invokespecial index, 3)) : mx_Ok p l e R s m args below meth c Q nL cl D A r pc (o_callF rc rs (n + 1) mc ms mx_rr S) := by
  intro ls st h k n0 z
  obtain ⟨av, rest, h1, h2, hst, hlen, rfl, hdj, hok, hcat, g1, g2, hSp⟩ := mx_callF_inv z
  unfold mx_rr at hok
  split at hok
  · rename_i a As
    intro arr H locs hl hw hS
    exact mx_goF hdj hw X.2.2 (va_runI X.1 (hM D _ (.ref a :: As) h1 _ hSp) cw ⟨mx_blind hZ, mx_preF hZ hZn X.2.1 X.2.2 hz hw hS⟩ rfl (by simpa using hlen) hl.1 (by rw [hst]; simp) (lv_room hcat) hd ⟨Nat.le_trans g1 hR.1, Nat.le_trans g2 hR.2⟩) hS (fun v h' H1 locs1 hp hd1 hw1 hS1 => hp hd1 arr H1 locs1 hl hw1 hS1)
  · exact hok.elim
end MXF
