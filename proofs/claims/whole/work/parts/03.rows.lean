theorem mx_st_inv {f : Nat → mx_L → List Value → mx_H → Option (Nat × mx_L × List Value × mx_H)} {r : mx_T} {k : mx_C} {pc : Nat} {ls : mx_L} {st : List Value} {h : mx_H} {c n : Nat} (z : o_st f r k pc ls st h c n) : ∃ q, f pc ls st h = some q ∧ k q.1 q.2.1 q.2.2.1 q.2.2.2 c n := by
  unfold o_st at z
  cases hf : f pc ls st h with
  | none => rw [hf] at z; exact z.elim
  | some q => rw [hf] at z; exact ⟨q, rfl, z⟩
theorem mx_sc_inv {f : Nat → mx_L → List Value → mx_H → Option (Prop × Nat × mx_L × List Value × mx_H)} {r : mx_T} {k : mx_C} {pc : Nat} {ls : mx_L} {st : List Value} {h : mx_H} {c n : Nat} (z : o_sc f r k pc ls st h c n) : ∃ q, f pc ls st h = some q ∧ q.1 ∧ k q.2.1 q.2.2.1 q.2.2.2.1 q.2.2.2.2 c n := by
  unfold o_sc at z
  cases hf : f pc ls st h with
  | none => rw [hf] at z; exact z.elim
  | some q => rw [hf] at z; exact ⟨q, rfl, z⟩
theorem mx_br_inv {t : Nat} {f : List Value → Option (Prop × List Value)} {r : mx_T} {k : mx_C} {pc : Nat} {ls : mx_L} {st : List Value} {h : mx_H} {c n : Nat} (z : o_br t f r k pc ls st h c n) : ∃ q, f st = some q ∧ (q.1 → k t ls q.2 h c n) ∧ (¬ q.1 → k (pc + 3) ls q.2 h c n) := by
  unfold o_br at z
  cases hf : f st with
  | none => rw [hf] at z; exact z.elim
  | some q => rw [hf] at z; exact ⟨q, rfl, z⟩
theorem mx_ret_inv {f : List Value → Option (Option Value)} {r : mx_T} {k : mx_C} {pc : Nat} {ls : mx_L} {st : List Value} {h : mx_H} {c n : Nat} (z : o_ret f r k pc ls st h c n) : ∃ q, f st = some q ∧ r q h c n := by
  unfold o_ret at z
  cases hf : f st with
  | none => rw [hf] at z; exact z.elim
  | some q => rw [hf] at z; exact ⟨q, rfl, z⟩
theorem mx_al_inv {rc rs len : Nat} {f : List Value → Option (Prop × mx_E × Nat × List Value)} {r : mx_T} {k : mx_C} {pc : Nat} {ls : mx_L} {st : List Value} {h : mx_H} {c n : Nat} (z : o_al rc rs len f r k pc ls st h c n) : ∃ q, f st = some q ∧ q.1 ∧ c + 1 ≤ rc ∧ n + q.2.2.1 ≤ rs ∧ ∀ a : Nat, h a = none → k (pc + len) ls (.ref a :: q.2.2.2) (va_up h a (some q.2.1)) (c + 1) (n + q.2.2.1) := by
  unfold o_al at z
  cases hf : f st with
  | none => rw [hf] at z; exact z.elim
  | some q => rw [hf] at z; exact ⟨q, rfl, z⟩
theorem mx_fld_inv {h : mx_H} {a ci k : Nat} {v : Value} (z : mx_fld h a ci k = some v) : ∃ fs, h a = some (.inr (ci, fs)) ∧ fs[k]? = some v := by
  unfold mx_fld at z
  split at z
  · rename_i cj fs he
    by_cases hc : cj = ci
    · rw [if_pos hc] at z
      subst hc
      exact ⟨fs, he, z⟩
    · rw [if_neg hc] at z
      cases z
  · cases z
theorem mx_put_inv {h h' : mx_H} {a ci k : Nat} {v : Value} (z : mx_put h a ci k v = some h') : ∃ fs, h a = some (.inr (ci, fs)) ∧ k < fs.length ∧ h' = va_up h a (some (.inr (ci, fs.set k v))) := by
  unfold mx_put at z
  split at z
  · rename_i cj fs he
    by_cases hc : cj = ci ∧ k < fs.length
    · rw [if_pos hc] at z
      obtain ⟨h1, h2⟩ := hc
      subst h1
      cases z
      exact ⟨fs, he, h2, rfl⟩
    · rw [if_neg hc] at z
      cases z
  · cases z
theorem mx_iar_inv {h : mx_H} {a : Nat} {ty : FieldType} {q : Nat × (Nat → Int32)} (z : mx_iar h a ty = some q) : h a = some (.inl (ty, q.1, .inl q.2)) := by
  unfold mx_iar at z
  split at z
  · rename_i t n f he
    by_cases hc : t = ty
    · rw [if_pos hc] at z
      subst hc
      cases z
      exact he
    · rw [if_neg hc] at z
      cases z
  · cases z
theorem mx_qar_inv {h : mx_H} {a : Nat} {q : String × Nat × (Nat → Option Nat)} (z : mx_qar h a = some q) : h a = some (.inl (.object q.1, q.2.1, .inr (.inr (.inr (.inr q.2.2))))) := by
  unfold mx_qar at z
  split at z
  · rename_i C n f he
    cases z
    exact he
  · cases z
theorem mx_cls_inv {h : mx_H} {a ci : Nat} (z : mx_cls h a = some ci) : ∃ fs, h a = some (.inr (ci, fs)) := by
  unfold mx_cls at z
  split at z
  · rename_i cj fs he
    cases z
    exact ⟨fs, he⟩
  · cases z
theorem mx_len_inv {h : mx_H} {a n : Nat} (z : mx_len h a = some n) : ∃ ty x, h a = some (.inl (ty, n, x)) := by
  unfold mx_len at z
  split at z
  · rename_i ty n' x he
    cases z
    exact ⟨ty, x, he⟩
  · cases z
section MXS
variable {p : Program} {l : Launch} {e : Env} {R : Room} {s : State} {m : MethodId} {args : Array Value} {below : List Frame} {meth : Method} {c : Code} {Q : State → Prop}
variable {cc : ByteArray} {nL : Nat} {cl : List vw_C} {D : va_G} {A : Nat → Prop} {Ts : List Cond} {own : String} {r : mx_T} {pc : Nat}
def mx_WW (p : Program) (l : Launch) (e : Env) (R : Room) (s : State) (m : MethodId) (args : Array Value) (below : List Frame) (meth : Method) (c : Code) (Q : State → Prop) (nL : Nat) (cl : List vw_C) (D : va_G) (A : Nat → Prop) : mx_C := fun pc ls st h k n =>
  ∀ (arr : Array Slot) (H : Heap) (locs : List Loc), lv_has arr nL ls → mx_W cl D A h s H → va_S A s.heap H locs → W p l e R s m args below meth c H locs k n Q (F0 m pc arr st)
abbrev mx_Cx (p : Program) (s : State) (m : MethodId) (args : Array Value) (c : Code) (cc : ByteArray) (nL : Nat) (cl : List vw_C) (D : va_G) (A : Nat → Prop) (Ts : List Cond) (own : String) : Prop :=
  CallFix p m c cc nL s args Ts own ∧ va_K D cl [] s ∧ ∀ q : Nat, s.heap.size ≤ q → A q
def mx_Ok (p : Program) (l : Launch) (e : Env) (R : Room) (s : State) (m : MethodId) (args : Array Value) (below : List Frame) (meth : Method) (c : Code) (Q : State → Prop) (nL : Nat) (cl : List vw_C) (D : va_G) (A : Nat → Prop) (r : mx_T) (pc : Nat) (o : mx_O) : Prop :=
  ∀ ls st h k n, o r (mx_WW p l e R s m args below meth c Q nL cl D A) pc ls st h k n → mx_WW p l e R s m args below meth c Q nL cl D A pc ls st h k n
theorem mx_G_sound {tab : List (Nat × mx_O)} (hok : mx_All (mx_Ok p l e R s m args below meth c Q nL cl D A r) tab) {ls : mx_L} {st : List Value} {h : mx_H} {k n : Nat} (g : mx_G r tab pc ls st h k n) : mx_WW p l e R s m args below meth c Q nL cl D A pc ls st h k n :=
  g _ (fun pc ls st h k n z => mx_find_all (P := mx_Ok p l e R s m args below meth c Q nL cl D A r) pc (fun _ _ _ _ _ z => z.elim) tab hok ls st h k n z)
theorem ok_push {len : Nat} {v : Value} (row : ∀ {H : Heap} {locs : List Loc} {k n : Nat} {arr : Array Slot} {rest : List Value}, W p l e R s m args below meth c H locs k n Q (F0 m (pc + len) arr (v :: rest)) → W p l e R s m args below meth c H locs k n Q (F0 m pc arr rest)) : mx_Ok p l e R s m args below meth c Q nL cl D A r pc (o_push len v) := by
  intro ls st h k n z
  obtain ⟨q, hf, kk⟩ := mx_st_inv z
  cases hf
  intro arr H locs hl hw hS
  exact row (kk arr H locs hl hw hS)
theorem ok_iload {len i : Nat} (row : ∀ {x : Int32} {H : Heap} {locs : List Loc} {k n : Nat} {arr : Array Slot} {rest : List Value}, arr[i]? = some (.val (.int x)) → W p l e R s m args below meth c H locs k n Q (F0 m (pc + len) arr (.int x :: rest)) → W p l e R s m args below meth c H locs k n Q (F0 m pc arr rest)) : mx_Ok p l e R s m args below meth c Q nL cl D A r pc (o_iload len i) := by
  intro ls st h k n z
  obtain ⟨q, hf, kk⟩ := mx_st_inv z
  try dsimp only at hf
  split at hf
  · rename_i x hx
    cases hf
    intro arr H locs hl hw hS
    exact row (mx_lk_at hl hx) (kk arr H locs hl hw hS)
  · cases hf
theorem ok_lload {len i : Nat} (row : ∀ {x : Int64} {H : Heap} {locs : List Loc} {k n : Nat} {arr : Array Slot} {rest : List Value}, arr[i]? = some (.val (.long x)) → W p l e R s m args below meth c H locs k n Q (F0 m (pc + len) arr (.long x :: rest)) → W p l e R s m args below meth c H locs k n Q (F0 m pc arr rest)) : mx_Ok p l e R s m args below meth c Q nL cl D A r pc (o_lload len i) := by
  intro ls st h k n z
  obtain ⟨q, hf, kk⟩ := mx_st_inv z
  try dsimp only at hf
  split at hf
  · rename_i x hx
    cases hf
    intro arr H locs hl hw hS
    exact row (mx_lk_at hl hx) (kk arr H locs hl hw hS)
  · cases hf
theorem ok_aload {len i : Nat} (row : ∀ {x : Nat} {H : Heap} {locs : List Loc} {k n : Nat} {arr : Array Slot} {rest : List Value}, arr[i]? = some (.val (.ref x)) → W p l e R s m args below meth c H locs k n Q (F0 m (pc + len) arr (.ref x :: rest)) → W p l e R s m args below meth c H locs k n Q (F0 m pc arr rest))
    (rowN : ∀ {H : Heap} {locs : List Loc} {k n : Nat} {arr : Array Slot} {rest : List Value}, arr[i]? = some (.val .null) → W p l e R s m args below meth c H locs k n Q (F0 m (pc + len) arr (.null :: rest)) → W p l e R s m args below meth c H locs k n Q (F0 m pc arr rest)) : mx_Ok p l e R s m args below meth c Q nL cl D A r pc (o_aload len i) := by
  intro ls st h k n z
  obtain ⟨q, hf, kk⟩ := mx_st_inv z
  try dsimp only at hf
  split at hf
  · rename_i x hx
    cases hf
    intro arr H locs hl hw hS
    exact row (mx_lk_at hl hx) (kk arr H locs hl hw hS)
  · rename_i hx
    cases hf
    intro arr H locs hl hw hS
    exact rowN (mx_lk_at hl hx) (kk arr H locs hl hw hS)
  · cases hf
theorem ok_istore {len i : Nat} (row : ∀ {x : Int32} {H : Heap} {locs : List Loc} {k n : Nat} {arr : Array Slot} {rest : List Value} {ls : mx_L}, lv_has arr nL ls → (∀ arr' : Array Slot, lv_has arr' nL (mx_s1 ls i (.int x)) → W p l e R s m args below meth c H locs k n Q (F0 m (pc + len) arr' rest)) → W p l e R s m args below meth c H locs k n Q (F0 m pc arr (.int x :: rest))) : mx_Ok p l e R s m args below meth c Q nL cl D A r pc (o_istore len i) := by
  intro ls st h k n z
  obtain ⟨q, hf, kk⟩ := mx_st_inv z
  try dsimp only at hf
  split at hf
  · cases hf
    intro arr H locs hl hw hS
    exact row hl (fun arr' hl' => kk arr' H locs hl' hw hS)
  · cases hf
theorem ok_lstore {len i : Nat} (row : ∀ {x : Int64} {H : Heap} {locs : List Loc} {k n : Nat} {arr : Array Slot} {rest : List Value} {ls : mx_L}, lv_has arr nL ls → (∀ arr' : Array Slot, lv_has arr' nL (mx_s2 ls i (.long x)) → W p l e R s m args below meth c H locs k n Q (F0 m (pc + len) arr' rest)) → W p l e R s m args below meth c H locs k n Q (F0 m pc arr (.long x :: rest))) : mx_Ok p l e R s m args below meth c Q nL cl D A r pc (o_lstore len i) := by
  intro ls st h k n z
  obtain ⟨q, hf, kk⟩ := mx_st_inv z
  try dsimp only at hf
  split at hf
  · cases hf
    intro arr H locs hl hw hS
    exact row hl (fun arr' hl' => kk arr' H locs hl' hw hS)
  · cases hf
theorem ok_astore {len i : Nat} (row : ∀ {x : Nat} {H : Heap} {locs : List Loc} {k n : Nat} {arr : Array Slot} {rest : List Value} {ls : mx_L}, lv_has arr nL ls → (∀ arr' : Array Slot, lv_has arr' nL (mx_s1 ls i (.ref x)) → W p l e R s m args below meth c H locs k n Q (F0 m (pc + len) arr' rest)) → W p l e R s m args below meth c H locs k n Q (F0 m pc arr (.ref x :: rest)))
    (rowN : ∀ {H : Heap} {locs : List Loc} {k n : Nat} {arr : Array Slot} {rest : List Value} {ls : mx_L}, lv_has arr nL ls → (∀ arr' : Array Slot, lv_has arr' nL (mx_s1 ls i .null) → W p l e R s m args below meth c H locs k n Q (F0 m (pc + len) arr' rest)) → W p l e R s m args below meth c H locs k n Q (F0 m pc arr (.null :: rest))) : mx_Ok p l e R s m args below meth c Q nL cl D A r pc (o_astore len i) := by
  intro ls st h k n z
  obtain ⟨q, hf, kk⟩ := mx_st_inv z
  try dsimp only at hf
  split at hf
  · cases hf
    intro arr H locs hl hw hS
    exact row hl (fun arr' hl' => kk arr' H locs hl' hw hS)
  · cases hf
    intro arr H locs hl hw hS
    exact rowN hl (fun arr' hl' => kk arr' H locs hl' hw hS)
  · cases hf
theorem ok_iinc (X : mx_Cx p s m args c cc nL cl D A Ts own) {i : Nat} {n : Int} {d : Int32} (hv : Int32.ofInt n = d) (hi : i < nL) (hd : decode cc pc = .ok (.iinc i n, 3)) : mx_Ok p l e R s m args below meth c Q nL cl D A r pc (o_iinc i d) := by
  intro ls st h k n z
  obtain ⟨q, hf, kk⟩ := mx_st_inv z
  try dsimp only at hf
  split at hf
  · rename_i x hx
    cases hf
    subst hv
    intro arr H locs hl hw hS
    obtain ⟨j, hj⟩ := List.getElem?_of_mem (mx_lk_mem ls i _ hx)
    exact lv_iinc X.1.1 X.1.2.1 hd hl hj rfl hi rfl (fun arr' hl' => kk arr' H locs hl' hw hS)
  · cases hf
theorem ok_ii {f : Int32 → Int32 → Int32} (row : ∀ {x y : Int32} {H : Heap} {locs : List Loc} {k n : Nat} {arr : Array Slot} {rest : List Value}, W p l e R s m args below meth c H locs k n Q (F0 m (pc + 1) arr (.int (f x y) :: rest)) → W p l e R s m args below meth c H locs k n Q (F0 m pc arr (.int y :: .int x :: rest))) : mx_Ok p l e R s m args below meth c Q nL cl D A r pc (o_ii f) := by
  intro ls st h k n z
  obtain ⟨q, hf, kk⟩ := mx_st_inv z
  try dsimp only at hf
  split at hf
  · cases hf
    intro arr H locs hl hw hS
    exact row (kk arr H locs hl hw hS)
  · cases hf
theorem ok_iiz {f : Int32 → Int32 → Int32} (row : ∀ {x y : Int32} {H : Heap} {locs : List Loc} {k n : Nat} {arr : Array Slot} {rest : List Value}, ¬ y = 0 → W p l e R s m args below meth c H locs k n Q (F0 m (pc + 1) arr (.int (f x y) :: rest)) → W p l e R s m args below meth c H locs k n Q (F0 m pc arr (.int y :: .int x :: rest))) : mx_Ok p l e R s m args below meth c Q nL cl D A r pc (o_iiz f) := by
  intro ls st h k n z
  obtain ⟨q, hf, hq, kk⟩ := mx_sc_inv z
  try dsimp only at hf
  split at hf
  · cases hf
    intro arr H locs hl hw hS
    exact row hq (kk arr H locs hl hw hS)
  · cases hf
theorem ok_i1 {f : Int32 → Value} (row : ∀ {x : Int32} {H : Heap} {locs : List Loc} {k n : Nat} {arr : Array Slot} {rest : List Value}, W p l e R s m args below meth c H locs k n Q (F0 m (pc + 1) arr (f x :: rest)) → W p l e R s m args below meth c H locs k n Q (F0 m pc arr (.int x :: rest))) : mx_Ok p l e R s m args below meth c Q nL cl D A r pc (o_i1 f) := by
  intro ls st h k n z
  obtain ⟨q, hf, kk⟩ := mx_st_inv z
  try dsimp only at hf
  split at hf
  · cases hf
    intro arr H locs hl hw hS
    exact row (kk arr H locs hl hw hS)
  · cases hf
theorem ok_l1 {f : Int64 → Value} (row : ∀ {x : Int64} {H : Heap} {locs : List Loc} {k n : Nat} {arr : Array Slot} {rest : List Value}, W p l e R s m args below meth c H locs k n Q (F0 m (pc + 1) arr (f x :: rest)) → W p l e R s m args below meth c H locs k n Q (F0 m pc arr (.long x :: rest))) : mx_Ok p l e R s m args below meth c Q nL cl D A r pc (o_l1 f) := by
  intro ls st h k n z
  obtain ⟨q, hf, kk⟩ := mx_st_inv z
  try dsimp only at hf
  split at hf
  · cases hf
    intro arr H locs hl hw hS
    exact row (kk arr H locs hl hw hS)
  · cases hf
theorem ok_ll {f : Int64 → Int64 → Value} (row : ∀ {x y : Int64} {H : Heap} {locs : List Loc} {k n : Nat} {arr : Array Slot} {rest : List Value}, W p l e R s m args below meth c H locs k n Q (F0 m (pc + 1) arr (f x y :: rest)) → W p l e R s m args below meth c H locs k n Q (F0 m pc arr (.long y :: .long x :: rest))) : mx_Ok p l e R s m args below meth c Q nL cl D A r pc (o_ll f) := by
  intro ls st h k n z
  obtain ⟨q, hf, kk⟩ := mx_st_inv z
  try dsimp only at hf
  split at hf
  · cases hf
    intro arr H locs hl hw hS
    exact row (kk arr H locs hl hw hS)
  · cases hf
theorem ok_li {f : Int64 → Int32 → Int64} (row : ∀ {x : Int64} {y : Int32} {H : Heap} {locs : List Loc} {k n : Nat} {arr : Array Slot} {rest : List Value}, W p l e R s m args below meth c H locs k n Q (F0 m (pc + 1) arr (.long (f x y) :: rest)) → W p l e R s m args below meth c H locs k n Q (F0 m pc arr (.int y :: .long x :: rest))) : mx_Ok p l e R s m args below meth c Q nL cl D A r pc (o_li f) := by
  intro ls st h k n z
  obtain ⟨q, hf, kk⟩ := mx_st_inv z
  try dsimp only at hf
  split at hf
  · cases hf
    intro arr H locs hl hw hS
    exact row (kk arr H locs hl hw hS)
  · cases hf
theorem ok_dup (X : mx_Cx p s m args c cc nL cl D A Ts own) (hd : decode cc pc = .ok (.dup, 1)) : mx_Ok p l e R s m args below meth c Q nL cl D A r pc o_dup := by
  intro ls st h k n z
  obtain ⟨q, hf, kk⟩ := mx_st_inv z
  try dsimp only at hf
  split at hf
  · split at hf
    · rename_i hv
      cases hf
      intro arr H locs hl hw hS
      exact lv_dup X.1.1 X.1.2.1 hd hv (kk arr H locs hl hw hS)
    · cases hf
  · cases hf
theorem ok_pop (X : mx_Cx p s m args c cc nL cl D A Ts own) (hd : decode cc pc = .ok (.pop, 1)) : mx_Ok p l e R s m args below meth c Q nL cl D A r pc o_pop := by
  intro ls st h k n z
  obtain ⟨q, hf, kk⟩ := mx_st_inv z
  try dsimp only at hf
  split at hf
  · split at hf
    · rename_i hv
      cases hf
      intro arr H locs hl hw hS
      exact lv_pop X.1.1 X.1.2.1 hd hv (kk arr H locs hl hw hS)
    · cases hf
  · cases hf
theorem ok_dupx1 (X : mx_Cx p s m args c cc nL cl D A Ts own) (hd : decode cc pc = .ok (.dup_x1, 1)) : mx_Ok p l e R s m args below meth c Q nL cl D A r pc o_dupx1 := by
  intro ls st h k n z
  obtain ⟨q, hf, kk⟩ := mx_st_inv z
  try dsimp only at hf
  split at hf
  · split at hf
    · rename_i hv
      cases hf
      intro arr H locs hl hw hS
      exact lv_dup_x1 X.1.1 X.1.2.1 hd hv.1 hv.2 (kk arr H locs hl hw hS)
    · cases hf
  · cases hf
theorem ok_dup2 (X : mx_Cx p s m args c cc nL cl D A Ts own) (hd : decode cc pc = .ok (.dup2, 1)) : mx_Ok p l e R s m args below meth c Q nL cl D A r pc o_dup2 := by
  intro ls st h k n z
  obtain ⟨q, hf, kk⟩ := mx_st_inv z
  try dsimp only at hf
  split at hf
  · split at hf
    · rename_i hv
      cases hf
      intro arr H locs hl hw hS
      exact lv_dup2_11 X.1.1 X.1.2.1 hd hv.1 hv.2 (kk arr H locs hl hw hS)
    · cases hf
  · cases hf
theorem ok_goto (X : mx_Cx p s m args c cc nL cl D A Ts own) {off : Int} {t : Nat} (hd : decode cc pc = .ok (.goto off, 3)) (ht : (pc : Int) + off = (t : Int)) : mx_Ok p l e R s m args below meth c Q nL cl D A r pc (o_goto t) := by
  intro ls st h k n z
  obtain ⟨q, hf, kk⟩ := mx_st_inv z
  cases hf
  intro arr H locs hl hw hS
  exact lv_goto X.1.1 X.1.2.1 hd ht (kk arr H locs hl hw hS)
theorem ok_if {t : Nat} {P : Int32 → Prop} (row : ∀ {x : Int32} {H : Heap} {locs : List Loc} {k n : Nat} {arr : Array Slot} {rest : List Value}, (P x → W p l e R s m args below meth c H locs k n Q (F0 m t arr rest)) → (¬ P x → W p l e R s m args below meth c H locs k n Q (F0 m (pc + 3) arr rest)) → W p l e R s m args below meth c H locs k n Q (F0 m pc arr (.int x :: rest))) : mx_Ok p l e R s m args below meth c Q nL cl D A r pc (o_if t P) := by
  intro ls st h k n z
  obtain ⟨q, hf, kt, kf⟩ := mx_br_inv z
  try dsimp only at hf
  split at hf
  · cases hf
    intro arr H locs hl hw hS
    exact row (fun y => kt y arr H locs hl hw hS) (fun y => kf y arr H locs hl hw hS)
  · cases hf
theorem ok_icmp {t : Nat} {P : Int32 → Int32 → Prop} (row : ∀ {x y : Int32} {H : Heap} {locs : List Loc} {k n : Nat} {arr : Array Slot} {rest : List Value}, (P x y → W p l e R s m args below meth c H locs k n Q (F0 m t arr rest)) → (¬ P x y → W p l e R s m args below meth c H locs k n Q (F0 m (pc + 3) arr rest)) → W p l e R s m args below meth c H locs k n Q (F0 m pc arr (.int y :: .int x :: rest))) : mx_Ok p l e R s m args below meth c Q nL cl D A r pc (o_icmp t P) := by
  intro ls st h k n z
  obtain ⟨q, hf, kt, kf⟩ := mx_br_inv z
  try dsimp only at hf
  split at hf
  · cases hf
    intro arr H locs hl hw hS
    exact row (fun y => kt y arr H locs hl hw hS) (fun y => kf y arr H locs hl hw hS)
  · cases hf
theorem ok_acmpeq (X : mx_Cx p s m args c cc nL cl D A Ts own) {off : Int} {t : Nat} (hd : decode cc pc = .ok (.if_acmp .eq off, 3)) (ht : (pc : Int) + off = (t : Int)) : mx_Ok p l e R s m args below meth c Q nL cl D A r pc (o_acmp t (fun x y => x = y)) := by
  intro ls st h k n z
  obtain ⟨q, hf, kt, kf⟩ := mx_br_inv z
  try dsimp only at hf
  split at hf
  · rename_i y x rest
    cases hf
    intro arr H locs hl hw hS
    exact lv_acmp_eq (rx := some x) (ry := some y) X.1.1 X.1.2.1 hd ht (fun z => kt (Option.some.inj z) arr H locs hl hw hS) (fun z => kf (fun w => z (congrArg some w)) arr H locs hl hw hS)
  · cases hf
theorem ok_acmpne (X : mx_Cx p s m args c cc nL cl D A Ts own) {off : Int} {t : Nat} (hd : decode cc pc = .ok (.if_acmp .ne off, 3)) (ht : (pc : Int) + off = (t : Int)) : mx_Ok p l e R s m args below meth c Q nL cl D A r pc (o_acmp t (fun x y => ¬ x = y)) := by
  intro ls st h k n z
  obtain ⟨q, hf, kt, kf⟩ := mx_br_inv z
  try dsimp only at hf
  split at hf
  · rename_i y x rest
    cases hf
    intro arr H locs hl hw hS
    exact lv_acmp_ne (rx := some x) (ry := some y) X.1.1 X.1.2.1 hd ht (fun z => kt (fun w => z (congrArg some w)) arr H locs hl hw hS) (fun z => kf (fun w => w (Option.some.inj z)) arr H locs hl hw hS)
  · cases hf
theorem ok_ifnull (X : mx_Cx p s m args c cc nL cl D A Ts own) {off : Int} {t : Nat} (hd : decode cc pc = .ok (.ifnull off, 3)) (ht : (pc : Int) + off = (t : Int)) : mx_Ok p l e R s m args below meth c Q nL cl D A r pc (o_ifnull t) := by
  intro ls st h k n z
  obtain ⟨q, hf, kk⟩ := mx_st_inv z
  try dsimp only at hf
  split at hf
  · cases hf
    intro arr H locs hl hw hS
    exact lv_ifnullN X.1.1 X.1.2.1 hd ht (kk arr H locs hl hw hS)
  · cases hf
    intro arr H locs hl hw hS
    exact lv_ifnull X.1.1 X.1.2.1 hd (kk arr H locs hl hw hS)
  · cases hf
theorem ok_ifnonnull (X : mx_Cx p s m args c cc nL cl D A Ts own) {off : Int} {t : Nat} (hd : decode cc pc = .ok (.ifnonnull off, 3)) (ht : (pc : Int) + off = (t : Int)) : mx_Ok p l e R s m args below meth c Q nL cl D A r pc (o_ifnonnull t) := by
  intro ls st h k n z
  obtain ⟨q, hf, kk⟩ := mx_st_inv z
  try dsimp only at hf
  split at hf
  · cases hf
    intro arr H locs hl hw hS
    exact lv_ifnonnull X.1.1 X.1.2.1 hd ht (kk arr H locs hl hw hS)
  · cases hf
    intro arr H locs hl hw hS
    exact lv_ifnonnullN X.1.1 X.1.2.1 hd (kk arr H locs hl hw hS)
  · cases hf
end MXS
