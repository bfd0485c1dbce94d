/-! Locals may stand in another order, and there may be more of them. -/
def mx_le (ls ls2 : mx_L) : Prop := ∀ i v, mx_lk ls i = some v → mx_lk ls2 i = some v
def mx_ndb : List Nat → Bool
  | [] => true
  | a :: t => !t.contains a && mx_ndb t
def mx_Nd (ls : mx_L) : Prop := mx_ndb (ls.map (·.1)) = true
theorem mx_ndb_filter (p : Nat × Value → Bool) : ∀ ls : mx_L, mx_Nd ls → mx_Nd (ls.filter p)
  | [], _ => rfl
  | q :: t, h => by
    unfold mx_Nd at h
    simp only [List.map_cons, mx_ndb, Bool.and_eq_true] at h
    have ih := mx_ndb_filter p t h.2
    by_cases hp : p q = true
    · rw [List.filter_cons_of_pos hp]
      unfold mx_Nd
      simp only [List.map_cons, mx_ndb, Bool.and_eq_true]
      refine ⟨?_, ih⟩
      have h1 := h.1
      simp only [Bool.not_eq_true', List.contains_eq_mem, List.mem_map, decide_eq_false_iff_not, not_exists, not_and, List.mem_filter] at h1 ⊢
      exact fun x hx => h1 x hx.1
    · rw [List.filter_cons_of_neg hp]
      exact ih
theorem mx_lk_none {i : Nat} : ∀ ls : mx_L, (ls.map (·.1)).contains i = false → mx_lk ls i = none
  | [], _ => rfl
  | (j, v) :: t, h => by
    simp only [List.map_cons, List.contains_cons, Bool.or_eq_false_iff] at h
    unfold mx_lk
    rw [if_neg (by intro e; rw [e] at h; simp at h)]
    exact mx_lk_none t h.2
theorem mx_lk_filter (p : Nat × Value → Bool) {i : Nat} {v : Value} : ∀ ls : mx_L, mx_Nd ls → mx_lk (ls.filter p) i = some v → mx_lk ls i = some v ∧ p (i, v) = true
  | [], _, h => by cases h
  | (j, w) :: t, hn, h => by
    unfold mx_Nd at hn
    simp only [List.map_cons, mx_ndb, Bool.and_eq_true] at hn
    by_cases hp : p (j, w) = true
    · rw [List.filter_cons_of_pos hp] at h
      unfold mx_lk at h ⊢
      by_cases hj : j = i
      · rw [if_pos hj] at h ⊢
        cases h
        subst hj
        exact ⟨rfl, hp⟩
      · rw [if_neg hj] at h ⊢
        exact mx_lk_filter p t hn.2 h
    · rw [List.filter_cons_of_neg hp] at h
      have ih := mx_lk_filter p t hn.2 h
      by_cases hj : j = i
      · subst hj
        have h1 := hn.1
        simp only [Bool.not_eq_true'] at h1
        rw [mx_lk_none t h1] at ih
        cases ih.1
      · unfold mx_lk
        rw [if_neg hj]
        exact ih
theorem mx_lk_keep (p : Nat × Value → Bool) {i : Nat} {v : Value} (hp : p (i, v) = true) : ∀ ls : mx_L, mx_lk ls i = some v → mx_lk (ls.filter p) i = some v
  | [], h => by cases h
  | (j, w) :: t, h => by
    unfold mx_lk at h
    by_cases hj : j = i
    · rw [if_pos hj] at h
      cases h
      subst hj
      rw [List.filter_cons_of_pos hp]
      unfold mx_lk
      rw [if_pos rfl]
    · rw [if_neg hj] at h
      have ih := mx_lk_keep p hp t h
      by_cases hq : p (j, w) = true
      · rw [List.filter_cons_of_pos hq]
        unfold mx_lk
        rw [if_neg hj]
        exact ih
      · rw [List.filter_cons_of_neg hq]
        exact ih
theorem mx_le_cons {ls ls2 : mx_L} (p : Nat × Value → Bool) (hn : mx_Nd ls) (hl : mx_le ls ls2) (i : Nat) (v : Value) : mx_le ((i, v) :: ls.filter p) ((i, v) :: ls2.filter p) := by
  intro j w h
  unfold mx_lk at h ⊢
  by_cases hj : i = j
  · rw [if_pos hj] at h ⊢
    exact h
  · rw [if_neg hj] at h ⊢
    obtain ⟨h1, h2⟩ := mx_lk_filter p ls hn h
    exact mx_lk_keep p h2 ls2 (hl j w h1)
theorem mx_Nd_cons {ls : mx_L} (p : Nat × Value → Bool) (hn : mx_Nd ls) (i : Nat) (v : Value) (hp : ∀ w, p (i, w) = false) : mx_Nd ((i, v) :: ls.filter p) := by
  unfold mx_Nd
  simp only [List.map_cons, mx_ndb, Bool.and_eq_true]
  refine ⟨?_, mx_ndb_filter p ls hn⟩
  simp only [Bool.not_eq_true', List.contains_eq_mem, List.mem_map, decide_eq_false_iff_not, not_exists, not_and, List.mem_filter]
  intro x hx e
  obtain ⟨a, b⟩ := x
  dsimp only at e
  subst e
  rw [hp b] at hx
  exact absurd hx.2 (by decide)
theorem mx_s1_le {ls ls2 : mx_L} (hn : mx_Nd ls) (hl : mx_le ls ls2) (i : Nat) (v : Value) : mx_le (mx_s1 ls i v) (mx_s1 ls2 i v) := mx_le_cons _ hn hl i v
theorem mx_s2_le {ls ls2 : mx_L} (hn : mx_Nd ls) (hl : mx_le ls ls2) (i : Nat) (v : Value) : mx_le (mx_s2 ls i v) (mx_s2 ls2 i v) := mx_le_cons _ hn hl i v
theorem mx_s1_nd {ls : mx_L} (hn : mx_Nd ls) (i : Nat) (v : Value) : mx_Nd (mx_s1 ls i v) := mx_Nd_cons _ hn i v (fun w => by simp)
theorem mx_s2_nd {ls : mx_L} (hn : mx_Nd ls) (i : Nat) (v : Value) : mx_Nd (mx_s2 ls i v) := mx_Nd_cons _ hn i v (fun w => by simp)
def mx_KE (k k' : mx_C) : Prop := ∀ pc ls ls2 st h c n, mx_Nd ls → mx_le ls ls2 → k pc ls st h c n → k' pc ls2 st h c n
def mx_Ext (o : mx_O) : Prop := ∀ (r : mx_T) (k k' : mx_C), mx_KE k k' → ∀ pc ls ls2 st h c n, mx_Nd ls → mx_le ls ls2 → o r k pc ls st h c n → o r k' pc ls2 st h c n
theorem mx_G_ext {tab : List (Nat × mx_O)} (hm : mx_All (fun _ o => mx_Mono o) tab) (he : mx_All (fun _ o => mx_Ext o) tab) {r : mx_T} {pc : Nat} {ls ls2 : mx_L} {st : List Value} {h : mx_H} {c n : Nat} (hn : mx_Nd ls) (hl : mx_le ls ls2) (g : mx_G r tab pc ls st h c n) : mx_G r tab pc ls2 st h c n := by
  refine g (fun pc ls st h c n => mx_Nd ls → ∀ ls2, mx_le ls ls2 → mx_G r tab pc ls2 st h c n) (fun pc ls st h c n z hn ls2 hl => ?_) hn ls2 hl
  refine mx_G_step hm ?_
  exact mx_find_all (P := fun _ o => mx_Ext o) pc (fun _ _ _ _ _ _ _ _ _ _ _ _ _ z => z) tab he r _ _ (fun pc ls ls2 st h c n hn hl k => k hn ls2 hl) pc ls ls2 st h c n hn hl z
def mx_ins : mx_L → mx_L → Prop
  | [], _ => True
  | (i, v) :: t, ls2 => mx_lk ls2 i = some v ∧ mx_ins t ls2
theorem mx_le_ins : ∀ {ls ls2 : mx_L}, mx_ins ls ls2 → mx_le ls ls2
  | [], _, _ => fun i v h => by cases h
  | (j, w) :: t, ls2, hi => fun i v h => by
    unfold mx_lk at h
    by_cases hj : j = i
    · rw [if_pos hj] at h
      cases h
      subst hj
      exact hi.1
    · rw [if_neg hj] at h
      exact mx_le_ins hi.2 i v h
theorem ex_st {f : Nat → mx_L → List Value → mx_H → Option (Nat × mx_L × List Value × mx_H)} (hf : ∀ pc ls ls2 st h q, mx_Nd ls → mx_le ls ls2 → f pc ls st h = some q → ∃ l2, f pc ls2 st h = some (q.1, l2, q.2.2) ∧ mx_Nd q.2.1 ∧ mx_le q.2.1 l2) : mx_Ext (o_st f) := by
  intro r k k' hk pc ls ls2 st h c n hn hl z
  obtain ⟨q, e, z⟩ := mx_st_inv z
  obtain ⟨l2, e2, h1, h2⟩ := hf pc ls ls2 st h q hn hl e
  unfold o_st
  rw [e2]
  exact hk _ _ _ _ _ _ _ h1 h2 z
theorem ex_sc {f : Nat → mx_L → List Value → mx_H → Option (Prop × Nat × mx_L × List Value × mx_H)} (hf : ∀ pc ls ls2 st h q, f pc ls st h = some q → q.2.2.1 = ls ∧ f pc ls2 st h = some (q.1, q.2.1, ls2, q.2.2.2)) : mx_Ext (o_sc f) := by
  intro r k k' hk pc ls ls2 st h c n hn hl z
  obtain ⟨q, e, z1, z2⟩ := mx_sc_inv z
  obtain ⟨h1, e2⟩ := hf pc ls ls2 st h q e
  unfold o_sc
  rw [e2]
  rw [h1] at z2
  exact ⟨z1, hk _ _ _ _ _ _ _ hn hl z2⟩
/-- an instruction that leaves the locals alone -/
theorem ex_sp {f : Nat → mx_L → List Value → mx_H → Option (Nat × mx_L × List Value × mx_H)} (hf : ∀ pc ls ls2 st h q, f pc ls st h = some q → q.2.1 = ls ∧ f pc ls2 st h = some (q.1, ls2, q.2.2)) : mx_Ext (o_st f) :=
  ex_st (fun pc ls ls2 st h q hn hl e => ⟨ls2, (hf pc ls ls2 st h q e).2, by rw [(hf pc ls ls2 st h q e).1]; exact ⟨hn, hl⟩⟩)
theorem ex_br {t : Nat} {f : List Value → Option (Prop × List Value)} : mx_Ext (o_br t f) := by
  intro r k k' hk pc ls ls2 st h c n hn hl z
  obtain ⟨q, e, z1, z2⟩ := mx_br_inv z
  unfold o_br
  rw [e]
  exact ⟨fun y => hk _ _ _ _ _ _ _ hn hl (z1 y), fun y => hk _ _ _ _ _ _ _ hn hl (z2 y)⟩
theorem ex_sw {ts : List (Int32 × Nat)} {d : Nat} : mx_Ext (o_sw ts d) := by
  intro r k k' hk pc ls ls2 st h c n hn hl z
  unfold o_sw at z ⊢
  split at z
  · exact mx_sw_mono (fun t => hk _ _ _ _ _ _ _ hn hl) ts z
  · exact z.elim
theorem ex_ret {f : List Value → Option (Option Value)} : mx_Ext (o_ret f) := fun _ _ _ _ _ _ _ _ _ _ _ _ _ z => z
theorem ex_zret : mx_Ext o_zret := fun _ _ _ _ _ _ _ _ _ _ _ _ _ z => z
theorem ex_al {rc rs len : Nat} {f : List Value → Option (Prop × mx_E × Nat × List Value)} : mx_Ext (o_al rc rs len f) := by
  intro r k k' hk pc ls ls2 st h c n hn hl z
  obtain ⟨q, e, z1, z2, z3, z4⟩ := mx_al_inv z
  unfold o_al
  rw [e]
  exact ⟨z1, z2, z3, fun a ha => hk _ _ _ _ _ _ _ hn hl (z4 a ha)⟩
theorem ex_call {rc rs na mc ms : Nat} {ok : List Value → mx_H → Prop} {S : mx_Sp} (hS : mx_SMono S) : mx_Ext (o_call rc rs na mc ms ok S) := by
  intro r k k' hk pc ls ls2 st h c n hn hl z
  unfold o_call at z ⊢
  cases hp : mx_pop na [] st with
  | none => rw [hp] at z; exact z.elim
  | some q =>
    rw [hp] at z
    exact ⟨z.1, z.2.1, z.2.2.1, z.2.2.2.1, hS _ _ _ _ (fun v h' => hk _ _ _ _ _ _ _ hn hl) z.2.2.2.2⟩
theorem ex_mm {rc rs : Nat} {f : Int32 → Int32 → Int32} : mx_Ext (o_mm rc rs f) := by
  intro r k k' hk pc ls ls2 st h c n hn hl z
  unfold o_mm at z ⊢
  split at z
  · exact ⟨z.1, hk _ _ _ _ _ _ _ hn hl z.2⟩
  · exact z.elim
theorem ex_push {len : Nat} {v : Value} : mx_Ext (o_push len v) := ex_sp (fun pc ls ls2 st h q e => by cases e; exact ⟨rfl, rfl⟩)
theorem ex_goto {t : Nat} : mx_Ext (o_goto t) := ex_sp (fun pc ls ls2 st h q e => by cases e; exact ⟨rfl, rfl⟩)
theorem ex_iload {len i : Nat} : mx_Ext (o_iload len i) := ex_st (fun pc ls ls2 st h q hn hl e => by
  split at e
  · rename_i x hx
    cases e
    exact ⟨ls2, by rw [hl _ _ hx], hn, hl⟩
  · cases e)
theorem ex_lload {len i : Nat} : mx_Ext (o_lload len i) := ex_st (fun pc ls ls2 st h q hn hl e => by
  split at e
  · rename_i x hx
    cases e
    exact ⟨ls2, by rw [hl _ _ hx], hn, hl⟩
  · cases e)
theorem ex_aload {len i : Nat} : mx_Ext (o_aload len i) := ex_st (fun pc ls ls2 st h q hn hl e => by
  split at e
  · rename_i x hx
    cases e
    exact ⟨ls2, by rw [hl _ _ hx], hn, hl⟩
  · rename_i hx
    cases e
    exact ⟨ls2, by rw [hl _ _ hx], hn, hl⟩
  · cases e)
theorem ex_istore {len i : Nat} : mx_Ext (o_istore len i) := ex_st (fun pc ls ls2 st h q hn hl e => by
  split at e
  · cases e
    exact ⟨_, rfl, mx_s1_nd hn _ _, mx_s1_le hn hl _ _⟩
  · cases e)
theorem ex_lstore {len i : Nat} : mx_Ext (o_lstore len i) := ex_st (fun pc ls ls2 st h q hn hl e => by
  split at e
  · cases e
    exact ⟨_, rfl, mx_s2_nd hn _ _, mx_s2_le hn hl _ _⟩
  · cases e)
theorem ex_astore {len i : Nat} : mx_Ext (o_astore len i) := ex_st (fun pc ls ls2 st h q hn hl e => by
  split at e
  · cases e
    exact ⟨_, rfl, mx_s1_nd hn _ _, mx_s1_le hn hl _ _⟩
  · cases e
    exact ⟨_, rfl, mx_s1_nd hn _ _, mx_s1_le hn hl _ _⟩
  · cases e)
theorem ex_iinc {i : Nat} {d : Int32} : mx_Ext (o_iinc i d) := ex_st (fun pc ls ls2 st h q hn hl e => by
  split at e
  · rename_i x hx
    cases e
    exact ⟨_, by rw [hl _ _ hx], mx_s1_nd hn _ _, mx_s1_le hn hl _ _⟩
  · cases e)
theorem ex_iincW {i : Nat} {d : Int32} : mx_Ext (o_iincW i d) := ex_st (fun pc ls ls2 st h q hn hl e => by
  split at e
  · rename_i x hx
    cases e
    exact ⟨_, by rw [hl _ _ hx], mx_s1_nd hn _ _, mx_s1_le hn hl _ _⟩
  · cases e)
theorem ex_ii {f : Int32 → Int32 → Int32} : mx_Ext (o_ii f) := ex_sp (fun pc ls ls2 st h q e => by
  revert e
  repeat (first | split)
  all_goals (intro e; first | (cases e; done) | (cases e; exact ⟨rfl, rfl⟩)))
theorem ex_iiz {f : Int32 → Int32 → Int32} : mx_Ext (o_iiz f) := ex_sc (fun pc ls ls2 st h q e => by
  revert e
  repeat (first | split)
  all_goals (intro e; first | (cases e; done) | (cases e; exact ⟨rfl, rfl⟩)))
theorem ex_i1 {f : Int32 → Value} : mx_Ext (o_i1 f) := ex_sp (fun pc ls ls2 st h q e => by
  revert e
  repeat (first | split)
  all_goals (intro e; first | (cases e; done) | (cases e; exact ⟨rfl, rfl⟩)))
theorem ex_l1 {f : Int64 → Value} : mx_Ext (o_l1 f) := ex_sp (fun pc ls ls2 st h q e => by
  revert e
  repeat (first | split)
  all_goals (intro e; first | (cases e; done) | (cases e; exact ⟨rfl, rfl⟩)))
theorem ex_ll {f : Int64 → Int64 → Value} : mx_Ext (o_ll f) := ex_sp (fun pc ls ls2 st h q e => by
  revert e
  repeat (first | split)
  all_goals (intro e; first | (cases e; done) | (cases e; exact ⟨rfl, rfl⟩)))
theorem ex_li {f : Int64 → Int32 → Int64} : mx_Ext (o_li f) := ex_sp (fun pc ls ls2 st h q e => by
  revert e
  repeat (first | split)
  all_goals (intro e; first | (cases e; done) | (cases e; exact ⟨rfl, rfl⟩)))
theorem ex_dup  : mx_Ext (o_dup) := ex_sp (fun pc ls ls2 st h q e => by
  revert e
  repeat (first | split)
  all_goals (intro e; first | (cases e; done) | (cases e; exact ⟨rfl, rfl⟩)))
theorem ex_pop  : mx_Ext (o_pop) := ex_sp (fun pc ls ls2 st h q e => by
  revert e
  repeat (first | split)
  all_goals (intro e; first | (cases e; done) | (cases e; exact ⟨rfl, rfl⟩)))
theorem ex_dupx1  : mx_Ext (o_dupx1) := ex_sp (fun pc ls ls2 st h q e => by
  revert e
  repeat (first | split)
  all_goals (intro e; first | (cases e; done) | (cases e; exact ⟨rfl, rfl⟩)))
theorem ex_dup2  : mx_Ext (o_dup2) := ex_sp (fun pc ls ls2 st h q e => by
  revert e
  repeat (first | split)
  all_goals (intro e; first | (cases e; done) | (cases e; exact ⟨rfl, rfl⟩)))
theorem ex_ifnull {t : Nat} : mx_Ext (o_ifnull t) := ex_sp (fun pc ls ls2 st h q e => by
  revert e
  repeat (first | split)
  all_goals (intro e; first | (cases e; done) | (cases e; exact ⟨rfl, rfl⟩)))
theorem ex_ifnonnull {t : Nat} : mx_Ext (o_ifnonnull t) := ex_sp (fun pc ls ls2 st h q e => by
  revert e
  repeat (first | split)
  all_goals (intro e; first | (cases e; done) | (cases e; exact ⟨rfl, rfl⟩)))
theorem ex_get {ci k : Nat} : mx_Ext (o_get ci k) := ex_sp (fun pc ls ls2 st h q e => by
  revert e
  repeat (first | split)
  all_goals (intro e; first | (cases e; done) | (cases e; exact ⟨rfl, rfl⟩)))
theorem ex_put {ci k : Nat} {ok : Value → Prop} : mx_Ext (o_put ci k ok) := ex_sc (fun pc ls ls2 st h q e => by
  revert e
  repeat (first | split)
  all_goals (intro e; first | (cases e; done) | (cases e; exact ⟨rfl, rfl⟩)))
theorem ex_iald {ty : FieldType} : mx_Ext (o_iald ty) := ex_sc (fun pc ls ls2 st h q e => by
  revert e
  repeat (first | split)
  all_goals (intro e; first | (cases e; done) | (cases e; exact ⟨rfl, rfl⟩)))
theorem ex_iast {ty : FieldType} {g : Int32 → Int32} : mx_Ext (o_iast ty g) := ex_sc (fun pc ls ls2 st h q e => by
  revert e
  repeat (first | split)
  all_goals (intro e; first | (cases e; done) | (cases e; exact ⟨rfl, rfl⟩)))
theorem ex_aald  : mx_Ext (o_aald) := ex_sc (fun pc ls ls2 st h q e => by
  revert e
  repeat (first | split)
  all_goals (intro e; first | (cases e; done) | (cases e; exact ⟨rfl, rfl⟩)))
theorem ex_aast {C : String} {cis : List Nat} : mx_Ext (o_aast C cis) := ex_sc (fun pc ls ls2 st h q e => by
  revert e
  repeat (first | split)
  all_goals (intro e; first | (cases e; done) | (cases e; exact ⟨rfl, rfl⟩)))
theorem ex_alen  : mx_Ext (o_alen) := ex_sp (fun pc ls ls2 st h q e => by
  revert e
  repeat (first | split)
  all_goals (intro e; first | (cases e; done) | (cases e; exact ⟨rfl, rfl⟩)))
theorem ex_alenZ {zt : Nat} : mx_Ext (o_alenZ zt) := ex_sp (fun pc ls ls2 st h q e => by
  revert e
  split
  · rename_i a r
    by_cases ha : a = zt
    · simp only [if_pos ha]
      intro e
      cases e
      exact ⟨rfl, rfl⟩
    · simp only [if_neg ha]
      cases hm : mx_len h a with
      | none => intro e; cases e
      | some n => intro e; cases e; exact ⟨rfl, rfl⟩
  · intro e
    cases e)
theorem ex_cast {ci : Nat} : mx_Ext (o_cast ci) := ex_sc (fun pc ls ls2 st h q e => by
  revert e
  repeat (first | split)
  all_goals (intro e; first | (cases e; done) | (cases e; exact ⟨rfl, rfl⟩)))
theorem ex_objinit  : mx_Ext (o_objinit) := ex_sc (fun pc ls ls2 st h q e => by
  revert e
  repeat (first | split)
  all_goals (intro e; first | (cases e; done) | (cases e; exact ⟨rfl, rfl⟩)))
