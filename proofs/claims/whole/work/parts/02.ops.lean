/-! The little machine: a method's instructions as predicate transformers over a world that is a function from addresses; a table of them has a least fixed point; what holds there holds of the machine (mx_G_sound). -/
abbrev mx_E : Type := (FieldType × vp_A) ⊕ (Nat × List Value)
abbrev mx_H : Type := Nat → Option mx_E
abbrev mx_L : Type := List (Nat × Value)
abbrev mx_C : Type := Nat → mx_L → List Value → mx_H → Nat → Nat → Prop
abbrev mx_T : Type := Option Value → mx_H → Nat → Nat → Prop
abbrev mx_O : Type := mx_T → mx_C → mx_C
abbrev mx_Sp : Type := List Value → mx_H → (Option Value → mx_H → Prop) → Prop
-- a cell of the world and the kit's word for it
def mx_rl (s : State) : mx_E → va_E → Prop
  | .inr o, x => x = .inr o
  | .inl (ty, v), x => ∃ cA : ClassId, x = .inl (cA, v) ∧ ArrOfT s cA ty ∧ va_RA s cA ty
theorem mx_rl.moved {s U : State} (hvm : s.vm.Alike U.vm) {e : mx_E} {x : va_E} (h : mx_rl s e x) : mx_rl U e x := by
  cases e with
  | inr o => exact h
  | inl q =>
    obtain ⟨cA, h1, h2, h3⟩ := h
    exact ⟨cA, h1, arrOfT_moved hvm h2, h3.moved hvm⟩
-- the world at a heap
def mx_W (cl : List vw_C) (D : va_G) (A : Nat → Prop) (h : mx_H) (s : State) (H : Heap) : Prop :=
  ∃ (L : List Nat) (f : Nat → va_E), va_P D cl (va_pl L f) H ∧ va_D A (va_pl L f) ∧ ∀ (a : Nat) (e : mx_E), h a = some e → a ∈ L ∧ mx_rl s e (f a)
theorem mx_W.moved {cl : List vw_C} {D : va_G} {A : Nat → Prop} {h : mx_H} {s U : State} {H : Heap} (hvm : s.vm.Alike U.vm) (w : mx_W cl D A h s H) : mx_W cl D A h U H := by
  obtain ⟨L, f, h1, h2, h3⟩ := w
  exact ⟨L, f, h1, h2, fun a e he => ⟨(h3 a e he).1, (h3 a e he).2.moved hvm⟩⟩
theorem mx_W.obj {cl : List vw_C} {D : va_G} {A : Nat → Prop} {h : mx_H} {s : State} {H : Heap} (w : mx_W cl D A h s H) {a : Nat} {o : Nat × List Value} (ha : h a = some (.inr o)) :
    ∃ (L : List Nat) (f : Nat → va_E) (k : Nat), va_P D cl (va_pl L f) H ∧ va_D A (va_pl L f) ∧ (∀ (a : Nat) (e : mx_E), h a = some e → a ∈ L ∧ mx_rl s e (f a)) ∧ a ∈ L ∧ (va_pl L f)[k]? = some (a, f a) ∧ f a = .inr o := by
  obtain ⟨L, f, h1, h2, h3⟩ := w
  obtain ⟨hm, hr⟩ := h3 a _ ha
  obtain ⟨k, hk⟩ := va_pl_get (X := []) (f := f) hm
  exact ⟨L, f, k, h1, h2, h3, hm, hk, hr⟩
theorem mx_W.arr {cl : List vw_C} {D : va_G} {A : Nat → Prop} {h : mx_H} {s : State} {H : Heap} (w : mx_W cl D A h s H) {a : Nat} {ty : FieldType} {v : vp_A} (ha : h a = some (.inl (ty, v))) :
    ∃ (L : List Nat) (f : Nat → va_E) (k : Nat) (cA : ClassId), va_P D cl (va_pl L f) H ∧ va_D A (va_pl L f) ∧ (∀ (a : Nat) (e : mx_E), h a = some e → a ∈ L ∧ mx_rl s e (f a)) ∧ a ∈ L ∧ (va_pl L f)[k]? = some (a, f a) ∧ f a = .inl (cA, v) ∧ ArrOfT s cA ty ∧ va_RA s cA ty := by
  obtain ⟨L, f, h1, h2, h3⟩ := w
  obtain ⟨hm, cA, hr, h4, h5⟩ := h3 a _ ha
  obtain ⟨k, hk⟩ := va_pl_get (X := []) (f := f) hm
  exact ⟨L, f, k, cA, h1, h2, h3, hm, hk, hr, h4, h5⟩
/-- a cell is written: the world behind it -/
theorem mx_W.wr {cl : List vw_C} {D : va_G} {A : Nat → Prop} {h : mx_H} {s : State} {H1 : Heap} {L : List Nat} {f : Nat → va_E} {a k : Nat} {x : va_E} {e : mx_E} (hD0 : va_D A (va_pl L f)) (h3 : ∀ (a : Nat) (e : mx_E), h a = some e → a ∈ L ∧ mx_rl s e (f a)) (hm : a ∈ L) (hk : (va_pl L f)[k]? = some (a, f a))
    (hP : va_P D cl ((va_pl L f).set k (a, x)) H1) (hD : va_D A ((va_pl L f).set k (a, x))) (hr : mx_rl s e x) : mx_W cl D A (va_up h a (some e)) s H1 := by
  have hs := va_pl_set (X := []) (e := x) hD0 hm hk
  simp only [List.nil_append] at hs
  rw [hs] at hP hD
  refine ⟨L, va_up f a x, hP, hD, fun b e' hb => ?_⟩
  by_cases hab : b = a
  · subst hab
    rw [va_up_self] at hb
    cases hb
    rw [va_up_self]
    exact ⟨hm, hr⟩
  · rw [va_up_ne _ _ hab] at hb
    rw [va_up_ne _ _ hab]
    exact h3 b e' hb
/-- a cell is made: the world behind it, and that it is new -/
theorem mx_W.mk {cl : List vw_C} {D : va_G} {A : Nat → Prop} {h : mx_H} {s : State} {H1 : Heap} {L : List Nat} {f : Nat → va_E} {q : Nat} {x : va_E} {e : mx_E} (h3 : ∀ (a : Nat) (e : mx_E), h a = some e → a ∈ L ∧ mx_rl s e (f a))
    (hP : va_P D cl (va_pl L f ++ [(q, x)]) H1) (hD : va_D A (va_pl L f ++ [(q, x)])) (hr : mx_rl s e x) : h q = none ∧ mx_W cl D A (va_up h q (some e)) s H1 := by
  have hq : q ∉ L := va_pl_fresh2 (X := []) (f := f) (by simpa using hD)
  rw [va_pl_push hq] at hP hD
  refine ⟨?_, L ++ [q], va_up f q x, hP, hD, fun b e' hb => ?_⟩
  · cases hh : h q with
    | none => rfl
    | some e0 => exact absurd (h3 q e0 hh).1 hq
  · by_cases hab : b = q
    · subst hab
      rw [va_up_self] at hb
      cases hb
      rw [va_up_self]
      exact ⟨List.mem_append_right _ (List.mem_singleton.mpr rfl), hr⟩
    · rw [va_up_ne _ _ hab] at hb
      rw [va_up_ne _ _ hab]
      exact ⟨List.mem_append_left _ (h3 b e' hb).1, (h3 b e' hb).2⟩
-- locals
def mx_lk : mx_L → Nat → Option Value
  | [], _ => none
  | (j, v) :: t, i => if j = i then some v else mx_lk t i
theorem mx_lk_mem : ∀ (ls : mx_L) (i : Nat) (v : Value), mx_lk ls i = some v → (i, v) ∈ ls
  | [], _, _, h => by cases h
  | (j, w) :: t, i, v, h => by
    unfold mx_lk at h
    by_cases e : j = i
    · rw [if_pos e] at h
      cases h
      subst e
      exact List.mem_cons_self
    · rw [if_neg e] at h
      exact List.mem_cons_of_mem _ (mx_lk_mem t i v h)
theorem mx_lk_at {arr : Array Slot} {nL : Nat} {ls : mx_L} {i : Nat} {v : Value} (h : lv_has arr nL ls) (e : mx_lk ls i = some v) : arr[i]? = some (.val v) := h.2.2 (i, v) (mx_lk_mem ls i v e)
def mx_s1 (ls : mx_L) (i : Nat) (v : Value) : mx_L := (i, v) :: ls.filter (fun q => !(q.1 == i) && !(q.1 + 1 == i && q.2.category == 2))
def mx_s2 (ls : mx_L) (i : Nat) (v : Value) : mx_L := (i, v) :: ls.filter (fun q => !(q.1 == i) && (!(q.1 == i + 1) && !(q.1 + 1 == i && q.2.category == 2)))
-- tables
def mx_find : List (Nat × mx_O) → Nat → mx_O
  | [], _ => fun _ _ _ _ _ _ _ _ => False
  | (i, o) :: t, pc => if i = pc then o else mx_find t pc
def mx_All (P : Nat → mx_O → Prop) : List (Nat × mx_O) → Prop
  | [] => True
  | (i, o) :: t => P i o ∧ mx_All P t
theorem mx_find_all {P : Nat → mx_O → Prop} (pc : Nat) (h0 : P pc (fun _ _ _ _ _ _ _ _ => False)) : ∀ (tab : List (Nat × mx_O)), mx_All P tab → P pc (mx_find tab pc)
  | [], _ => h0
  | (i, o) :: t, h => by
    unfold mx_find
    by_cases e : i = pc
    · subst e
      rw [if_pos rfl]
      exact h.1
    · rw [if_neg e]
      exact mx_find_all pc h0 t h.2
def mx_Mono (o : mx_O) : Prop := ∀ (r r' : mx_T) (k k' : mx_C), (∀ a b c d, r a b c d → r' a b c d) → (∀ a b c d e f, k a b c d e f → k' a b c d e f) → ∀ pc ls st h c n, o r k pc ls st h c n → o r' k' pc ls st h c n
def mx_G (r : mx_T) (tab : List (Nat × mx_O)) : mx_C := fun pc ls st h c n => ∀ X : mx_C, (∀ pc ls st h c n, mx_find tab pc r X pc ls st h c n → X pc ls st h c n) → X pc ls st h c n
theorem mx_find_mono {tab : List (Nat × mx_O)} (hm : mx_All (fun _ o => mx_Mono o) tab) (pc : Nat) : mx_Mono (mx_find tab pc) := mx_find_all (P := fun _ o => mx_Mono o) pc (fun _ _ _ _ _ _ _ _ _ _ _ _ h => h) tab hm
theorem mx_G_step {tab : List (Nat × mx_O)} (hm : mx_All (fun _ o => mx_Mono o) tab) {r : mx_T} {pc : Nat} {ls : mx_L} {st : List Value} {h : mx_H} {c n : Nat} (g : mx_find tab pc r (mx_G r tab) pc ls st h c n) : mx_G r tab pc ls st h c n :=
  fun X hX => hX _ _ _ _ _ _ (mx_find_mono hm pc r r _ X (fun _ _ _ _ z => z) (fun _ _ _ _ _ _ z => z X hX) _ _ _ _ _ _ g)
theorem mx_G_eq {tab : List (Nat × mx_O)} (hm : mx_All (fun _ o => mx_Mono o) tab) (r : mx_T) (pc : Nat) (ls : mx_L) (st : List Value) (h : mx_H) (c n : Nat) : mx_G r tab pc ls st h c n = mx_find tab pc r (mx_G r tab) pc ls st h c n :=
  propext ⟨fun g => g (fun pc ls st h c n => mx_find tab pc r (mx_G r tab) pc ls st h c n) (fun pc ls st h c n z => mx_find_mono hm pc r r _ _ (fun _ _ _ _ z => z) (fun _ _ _ _ _ _ z => mx_G_step hm z) _ _ _ _ _ _ z), mx_G_step hm⟩
/-- what is known at the end may be weaker -/
theorem mx_G_mono {tab : List (Nat × mx_O)} (hm : mx_All (fun _ o => mx_Mono o) tab) {r r' : mx_T} (hr : ∀ a b c d, r a b c d → r' a b c d) {pc : Nat} {ls : mx_L} {st : List Value} {h : mx_H} {c n : Nat} (g : mx_G r tab pc ls st h c n) : mx_G r' tab pc ls st h c n :=
  fun X hX => g X (fun pc ls st h c n z => hX _ _ _ _ _ _ (mx_find_mono hm pc r r' X X hr (fun _ _ _ _ _ _ z => z) _ _ _ _ _ _ z))
/-- a method's meaning: its table from the entry -/
def mx_S (nL mc ms : Nat) (tab : List (Nat × mx_O)) : mx_Sp := fun args h Post => (lg_sl args).length ≤ nL ∧ mx_G (fun r h c n => Post r h ∧ c ≤ mc ∧ n ≤ ms) tab 0 (lv_args 0 args) [] h 0 0
def mx_SMono (S : mx_Sp) : Prop := ∀ (args : List Value) (h : mx_H) (P P' : Option Value → mx_H → Prop), (∀ r h, P r h → P' r h) → S args h P → S args h P'
theorem mx_S_mono {nL mc ms : Nat} {tab : List (Nat × mx_O)} (hm : mx_All (fun _ o => mx_Mono o) tab) : mx_SMono (mx_S nL mc ms tab) :=
  fun _ _ _ _ hP g => ⟨g.1, mx_G_mono hm (fun a b _ _ z => ⟨hP a b z.1, z.2⟩) g.2⟩
-- the combinators
def o_st (f : Nat → mx_L → List Value → mx_H → Option (Nat × mx_L × List Value × mx_H)) : mx_O := fun _ k pc ls st h c n => match f pc ls st h with
  | some q => k q.1 q.2.1 q.2.2.1 q.2.2.2 c n
  | none => False
def o_sc (f : Nat → mx_L → List Value → mx_H → Option (Prop × Nat × mx_L × List Value × mx_H)) : mx_O := fun _ k pc ls st h c n => match f pc ls st h with
  | some q => q.1 ∧ k q.2.1 q.2.2.1 q.2.2.2.1 q.2.2.2.2 c n
  | none => False
def o_br (tgt : Nat) (f : List Value → Option (Prop × List Value)) : mx_O := fun _ k pc ls st h c n => match f st with
  | some q => (q.1 → k tgt ls q.2 h c n) ∧ (¬ q.1 → k (pc + 3) ls q.2 h c n)
  | none => False
def mx_sw (ts : List (Int32 × Nat)) (d : Nat) (x : Int32) (k : Nat → Prop) : Prop := match ts with
  | [] => k d
  | (v, t) :: r => (x = v → k t) ∧ (¬ x = v → mx_sw r d x k)
def o_sw (ts : List (Int32 × Nat)) (d : Nat) : mx_O := fun _ k _ ls st h c n => match st with
  | .int x :: r => mx_sw ts d x (fun t => k t ls r h c n)
  | _ => False
def o_ret (f : List Value → Option (Option Value)) : mx_O := fun r _ _ _ st h c n => match f st with
  | some v => r v h c n
  | none => False
def o_al (rc rs len : Nat) (f : List Value → Option (Prop × mx_E × Nat × List Value)) : mx_O := fun _ k pc ls st h c n => match f st with
  | some q => q.1 ∧ c + 1 ≤ rc ∧ n + q.2.2.1 ≤ rs ∧ ∀ a : Nat, h a = none → k (pc + len) ls (.ref a :: q.2.2.2) (va_up h a (some q.2.1)) (c + 1) (n + q.2.2.1)
  | none => False
def mx_pop : Nat → List Value → List Value → Option (List Value × List Value)
  | 0, acc, st => some (acc, st)
  | n + 1, acc, v :: st => mx_pop n (v :: acc) st
  | _ + 1, _, [] => none
def mx_cat (st : List Value) : Nat := (st.map fun v => v.category).sum
-- a call: 'ok' says what the receiver must be
def o_call (rc rs na mc ms : Nat) (ok : List Value → mx_H → Prop) (S : mx_Sp) : mx_O := fun _ k pc ls st h c n => match mx_pop na [] st with
  | some q => ok q.1 h ∧ mx_cat q.2 ≤ 8 ∧ c + mc ≤ rc ∧ n + ms ≤ rs ∧ S q.1 h (fun r h' => k (pc + 3) ls (r.toList ++ q.2) h' (c + mc) (n + ms))
  | none => False
theorem mo_st {f : Nat → mx_L → List Value → mx_H → Option (Nat × mx_L × List Value × mx_H)} : mx_Mono (o_st f) := by
  intro r r' k k' hr hk pc ls st h c n
  unfold o_st
  cases f pc ls st h with
  | none => exact fun z => z
  | some q => exact fun z => hk _ _ _ _ _ _ z
theorem mo_sc {f : Nat → mx_L → List Value → mx_H → Option (Prop × Nat × mx_L × List Value × mx_H)} : mx_Mono (o_sc f) := by
  intro r r' k k' hr hk pc ls st h c n
  unfold o_sc
  cases f pc ls st h with
  | none => exact fun z => z
  | some q => exact fun z => ⟨z.1, hk _ _ _ _ _ _ z.2⟩
theorem mo_br {t : Nat} {f : List Value → Option (Prop × List Value)} : mx_Mono (o_br t f) := by
  intro r r' k k' hr hk pc ls st h c n
  unfold o_br
  cases f st with
  | none => exact fun z => z
  | some q => exact fun z => ⟨fun y => hk _ _ _ _ _ _ (z.1 y), fun y => hk _ _ _ _ _ _ (z.2 y)⟩
theorem mx_sw_mono {d : Nat} {x : Int32} {k k' : Nat → Prop} (hk : ∀ t, k t → k' t) : ∀ (ts : List (Int32 × Nat)), mx_sw ts d x k → mx_sw ts d x k'
  | [], z => hk _ z
  | (_, _) :: r, z => ⟨fun y => hk _ (z.1 y), fun y => mx_sw_mono hk r (z.2 y)⟩
theorem mo_sw {ts : List (Int32 × Nat)} {d : Nat} : mx_Mono (o_sw ts d) := by
  intro r r' k k' hr hk pc ls st h c n
  unfold o_sw
  split
  · exact fun z => mx_sw_mono (fun t => hk _ _ _ _ _ _) ts z
  · exact fun z => z
theorem mo_ret {f : List Value → Option (Option Value)} : mx_Mono (o_ret f) := by
  intro r r' k k' hr hk pc ls st h c n
  unfold o_ret
  cases f st with
  | none => exact fun z => z
  | some q => exact fun z => hr _ _ _ _ z
theorem mo_al {rc rs len : Nat} {f : List Value → Option (Prop × mx_E × Nat × List Value)} : mx_Mono (o_al rc rs len f) := by
  intro r r' k k' hr hk pc ls st h c n
  unfold o_al
  cases f st with
  | none => exact fun z => z
  | some q => exact fun z => ⟨z.1, z.2.1, z.2.2.1, fun a ha => hk _ _ _ _ _ _ (z.2.2.2 a ha)⟩
theorem mo_call {rc rs na mc ms : Nat} {ok : List Value → mx_H → Prop} {S : mx_Sp} (hS : mx_SMono S) : mx_Mono (o_call rc rs na mc ms ok S) := by
  intro r r' k k' hr hk pc ls st h c n
  unfold o_call
  cases mx_pop na [] st with
  | none => exact fun z => z
  | some q => exact fun z => ⟨z.1, z.2.1, z.2.2.1, z.2.2.2.1, hS _ _ _ _ (fun r h => hk _ _ _ _ _ _) z.2.2.2.2⟩
-- the instructions
abbrev o_push (len : Nat) (v : Value) : mx_O := o_st fun pc ls st h => some (pc + len, ls, v :: st, h)
abbrev o_iload (len i : Nat) : mx_O := o_st fun pc ls st h => match mx_lk ls i with
  | some (.int x) => some (pc + len, ls, .int x :: st, h)
  | _ => none
abbrev o_lload (len i : Nat) : mx_O := o_st fun pc ls st h => match mx_lk ls i with
  | some (.long x) => some (pc + len, ls, .long x :: st, h)
  | _ => none
abbrev o_aload (len i : Nat) : mx_O := o_st fun pc ls st h => match mx_lk ls i with
  | some (.ref x) => some (pc + len, ls, .ref x :: st, h)
  | some .null => some (pc + len, ls, .null :: st, h)
  | _ => none
abbrev o_istore (len i : Nat) : mx_O := o_st fun pc ls st h => match st with
  | .int x :: r => some (pc + len, mx_s1 ls i (.int x), r, h)
  | _ => none
abbrev o_lstore (len i : Nat) : mx_O := o_st fun pc ls st h => match st with
  | .long x :: r => some (pc + len, mx_s2 ls i (.long x), r, h)
  | _ => none
abbrev o_astore (len i : Nat) : mx_O := o_st fun pc ls st h => match st with
  | .ref x :: r => some (pc + len, mx_s1 ls i (.ref x), r, h)
  | .null :: r => some (pc + len, mx_s1 ls i .null, r, h)
  | _ => none
abbrev o_iinc (i : Nat) (d : Int32) : mx_O := o_st fun pc ls st h => match mx_lk ls i with
  | some (.int x) => some (pc + 3, mx_s1 ls i (.int (x + d)), st, h)
  | _ => none
abbrev o_ii (f : Int32 → Int32 → Int32) : mx_O := o_st fun pc ls st h => match st with
  | .int y :: .int x :: r => some (pc + 1, ls, .int (f x y) :: r, h)
  | _ => none
abbrev o_iiz (f : Int32 → Int32 → Int32) : mx_O := o_sc fun pc ls st h => match st with
  | .int y :: .int x :: r => some (¬ y = 0, pc + 1, ls, .int (f x y) :: r, h)
  | _ => none
abbrev o_i1 (f : Int32 → Value) : mx_O := o_st fun pc ls st h => match st with
  | .int x :: r => some (pc + 1, ls, f x :: r, h)
  | _ => none
abbrev o_l1 (f : Int64 → Value) : mx_O := o_st fun pc ls st h => match st with
  | .long x :: r => some (pc + 1, ls, f x :: r, h)
  | _ => none
abbrev o_ll (f : Int64 → Int64 → Value) : mx_O := o_st fun pc ls st h => match st with
  | .long y :: .long x :: r => some (pc + 1, ls, f x y :: r, h)
  | _ => none
abbrev o_li (f : Int64 → Int32 → Int64) : mx_O := o_st fun pc ls st h => match st with
  | .int y :: .long x :: r => some (pc + 1, ls, .long (f x y) :: r, h)
  | _ => none
abbrev o_dup : mx_O := o_st fun pc ls st h => match st with
  | v :: r => if v.category = 1 then some (pc + 1, ls, v :: v :: r, h) else none
  | _ => none
abbrev o_pop : mx_O := o_st fun pc ls st h => match st with
  | v :: r => if v.category = 1 then some (pc + 1, ls, r, h) else none
  | _ => none
abbrev o_dupx1 : mx_O := o_st fun pc ls st h => match st with
  | v :: w :: r => if v.category = 1 ∧ w.category = 1 then some (pc + 1, ls, v :: w :: v :: r, h) else none
  | _ => none
abbrev o_dup2 : mx_O := o_st fun pc ls st h => match st with
  | v :: w :: r => if v.category = 1 ∧ w.category = 1 then some (pc + 1, ls, v :: w :: v :: w :: r, h) else none
  | _ => none
abbrev o_goto (t : Nat) : mx_O := o_st fun _ ls st h => some (t, ls, st, h)
abbrev o_if (t : Nat) (P : Int32 → Prop) : mx_O := o_br t fun st => match st with
  | .int x :: r => some (P x, r)
  | _ => none
abbrev o_icmp (t : Nat) (P : Int32 → Int32 → Prop) : mx_O := o_br t fun st => match st with
  | .int y :: .int x :: r => some (P x y, r)
  | _ => none
abbrev o_acmp (t : Nat) (P : Nat → Nat → Prop) : mx_O := o_br t fun st => match st with
  | .ref y :: .ref x :: r => some (P x y, r)
  | _ => none
abbrev o_ifnull (t : Nat) : mx_O := o_st fun pc ls st h => match st with
  | .null :: r => some (t, ls, r, h)
  | .ref _ :: r => some (pc + 3, ls, r, h)
  | _ => none
abbrev o_ifnonnull (t : Nat) : mx_O := o_st fun pc ls st h => match st with
  | .ref _ :: r => some (t, ls, r, h)
  | .null :: r => some (pc + 3, ls, r, h)
  | _ => none
-- cells
def mx_fld (h : mx_H) (a ci k : Nat) : Option Value := match h a with
  | some (.inr (cj, fs)) => if cj = ci then fs[k]? else none
  | _ => none
def mx_put (h : mx_H) (a ci k : Nat) (v : Value) : Option mx_H := match h a with
  | some (.inr (cj, fs)) => if cj = ci ∧ k < fs.length then some (va_up h a (some (.inr (cj, fs.set k v)))) else none
  | _ => none
def mx_iar (h : mx_H) (a : Nat) (ty : FieldType) : Option (Nat × (Nat → Int32)) := match h a with
  | some (.inl (t, n, .inl f)) => if t = ty then some (n, f) else none
  | _ => none
def mx_qar (h : mx_H) (a : Nat) : Option (String × Nat × (Nat → Option Nat)) := match h a with
  | some (.inl (.object C, n, .inr (.inr (.inr (.inr f))))) => some (C, n, f)
  | _ => none
def mx_cls (h : mx_H) (a : Nat) : Option Nat := match h a with
  | some (.inr (cj, _)) => some cj
  | _ => none
abbrev o_get (ci k : Nat) : mx_O := o_st fun pc ls st h => match st with
  | .ref a :: r => match mx_fld h a ci k with
    | some v => some (pc + 3, ls, v :: r, h)
    | none => none
  | _ => none
abbrev o_put (ci k : Nat) (ok : Value → Prop) : mx_O := o_sc fun pc ls st h => match st with
  | v :: .ref a :: r => match mx_put h a ci k v with
    | some h' => some (ok v, pc + 3, ls, r, h')
    | none => none
  | _ => none
abbrev o_iald (ty : FieldType) : mx_O := o_sc fun pc ls st h => match st with
  | .int i :: .ref a :: r => match mx_iar h a ty with
    | some q => some (vp_in i q.1, pc + 1, ls, .int (q.2 i.toNatClampNeg) :: r, h)
    | none => none
  | _ => none
abbrev o_iast (ty : FieldType) (g : Int32 → Int32) : mx_O := o_sc fun pc ls st h => match st with
  | .int x :: .int i :: .ref a :: r => match mx_iar h a ty with
    | some q => some (vp_in i q.1, pc + 1, ls, r, va_up h a (some (.inl (ty, q.1, .inl (upd q.2 i.toNatClampNeg (g x))))))
    | none => none
  | _ => none
abbrev o_aald : mx_O := o_sc fun pc ls st h => match st with
  | .int i :: .ref a :: r => match mx_qar h a with
    | some q => some (vp_in i q.2.1, pc + 1, ls, va_rf (q.2.2 i.toNatClampNeg) :: r, h)
    | none => none
  | _ => none
-- a reference goes into an array of C: what goes in is an object of one of the classes 'cis'
def mx_cin (h : mx_H) (v : Nat) (cis : List Nat) : Prop := match mx_cls h v with
  | some ci => ci ∈ cis
  | none => False
abbrev o_aast (C : String) (cis : List Nat) : mx_O := o_sc fun pc ls st h => match st with
  | .ref v :: .int i :: .ref a :: r => match mx_qar h a with
    | some q => some ((q.1 = C ∧ mx_cin h v cis) ∧ vp_in i q.2.1, pc + 1, ls, r, va_up h a (some (.inl (.object q.1, q.2.1, .inr (.inr (.inr (.inr (va_up q.2.2 i.toNatClampNeg (some v)))))))))
    | none => none
  | _ => none
def mx_len (h : mx_H) (a : Nat) : Option Nat := match h a with
  | some (.inl (_, n, _)) => some n
  | _ => none
abbrev o_alen : mx_O := o_st fun pc ls st h => match st with
  | .ref a :: r => match mx_len h a with
    | some n => some (pc + 1, ls, .int (Int32.ofNat n) :: r, h)
    | none => none
  | _ => none
abbrev o_cast (ci : Nat) : mx_O := o_sc fun pc ls st h => match st with
  | .ref a :: r => some (mx_cls h a = some ci, pc + 3, ls, .ref a :: r, h)
  | .null :: r => some (True, pc + 3, ls, .null :: r, h)
  | _ => none
abbrev o_objinit : mx_O := o_sc fun pc ls st h => match st with
  | .ref _ :: r => some (mx_cat r ≤ 8, pc + 3, ls, r, h)
  | _ => none
abbrev o_new (rc rs ci N : Nat) (fs : List Value) : mx_O := o_al rc rs 3 fun st => some (True, .inr (ci, fs), N, st)
abbrev o_newi (rc rs : Nat) (ty : FieldType) : mx_O := o_al rc rs 2 fun st => match st with
  | .int n :: r => some (¬ n < 0 ∧ n.toNatClampNeg ≤ 65536, .inl (ty, n.toNatClampNeg, .inl (fun _ => 0)), n.toNatClampNeg, r)
  | _ => none
abbrev o_newq (rc rs : Nat) (C : String) : mx_O := o_al rc rs 3 fun st => match st with
  | .int n :: r => some (¬ n < 0 ∧ n.toNatClampNeg ≤ 65536, .inl (.object C, n.toNatClampNeg, .inr (.inr (.inr (.inr (fun _ => none))))), n.toNatClampNeg, r)
  | _ => none
abbrev o_iret : mx_O := o_ret fun st => match st with
  | [.int v] => some (some (.int v))
  | _ => none
def mx_z01 (st : List Value) : Prop := match st with
  | [.int v] => narrow .boolean (.int v) = .int v
  | _ => False
theorem mx_z01_0 : mx_z01 [.int 0] = True := eq_true (by show narrow .boolean (.int 0) = .int 0; decide)
theorem mx_z01_1 : mx_z01 [.int 1] = True := eq_true (by show narrow .boolean (.int 1) = .int 1; decide)
def o_zret : mx_O := fun r k pc ls st h c n => mx_z01 st ∧ o_iret r k pc ls st h c n
abbrev o_lret : mx_O := o_ret fun st => match st with
  | [.long v] => some (some (.long v))
  | _ => none
abbrev o_aret : mx_O := o_ret fun st => match st with
  | [.ref v] => some (some (.ref v))
  | [.null] => some (some .null)
  | _ => none
abbrev o_vret : mx_O := o_ret fun st => match st with
  | [] => some none
  | _ => none
theorem mo_zret : mx_Mono o_zret := fun r r' k k' hr hk pc ls st h c n z => ⟨z.1, mo_ret r r' k k' hr hk pc ls st h c n z.2⟩
