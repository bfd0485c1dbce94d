/-! The class's world: components (kind, place): 0 the object; 1 the lists (0 frames, 1 signals, 2 groups, 3 events, 4 + t the entries of table t); 2 their arrays; 3 the numbers (0 borne, 1 counts, 2 bytes); 4 (0 schedule, 1 wire, 2 its tables' array); 5 tables; 6 frames; 7 signals; 8, 9 groups and their members; 10, 11 events and theirs; 12 entries.
Beside the state s: x.1 (0 modCount, 1 a frame's header, 2 an event's header, 3 borne, 4: 0 resolveBy, 1 noiseByte), x.2.1 (0 data, 1 taken), x.2.2 the arrays' lengths. -/
abbrev xX : Type := (Nat → Nat → Int32) × (Nat → Nat → Int64) × (Nat → Nat)
def xk (i : Nat) : Nat := if i = 0 then 6 else if i = 1 then 7 else if i = 2 then 8 else if i = 3 then 10 else 12
def xb (i : Nat) : Nat := 8 * (i - 4)
def xg (ad : Nat → Nat → Nat) (n i : Nat) : Nat → Option Nat := fun j => if j < n then some (ad (xk i) (xb i + j)) else none
def xn (r : Nat → Int32) (g : Nat) : Nat := if r (3 * g + 2) = -1 then 2 else 3
def xr (ad : Nat → Nat → Nat) (r : Nat → Int32) (g : Nat) : Nat → Option Nat := fun q => if q < xn r g then some (ad 6 (r (3 * g + q)).toNatClampNeg) else none
abbrev qa (C : String) (n : Nat) (g : Nat → Option Nat) : mx_E := .inl (.object C, n, .inr (.inr (.inr (.inr g))))
def cX (zz : Nat × Nat) (ad : Nat → Nat → Nat) (s : se_S) (x : xX) : Nat → Nat → mx_E
  | 0, _ => .inr (0, [.ref (ad 1 0), .ref (ad 1 1), .ref (ad 1 2), .ref (ad 1 3), .ref (ad 3 0), .ref (ad 4 0), .ref (ad 4 1), .ref (ad 3 1), .int (s.2 0 0), .int (s.2 0 1), .int (s.2 0 2)])
  | 1, i => .inr (9, [.int (x.1 0 i), .ref (if x.2.2 i = 0 then zz.1 else ad 2 i), .int (nI (s.1 i))])
  | 2, i => qa "java/lang/Object" (x.2.2 i) (xg ad (s.1 i) i)
  | 3, 0 => .inl (.boolean, 60, .inl (x.1 3))
  | 3, 1 => .inl (.int, 5, .inl (s.2 21))
  | 3, _ => .inl (.int, 10, .inl (s.2 20))
  | 4, 0 => .inr (7, [.ref (ad 4 2), .int (s.2 0 3), .int (s.2 0 4), .int (s.2 0 5), .int (s.2 0 6), .int (s.2 0 7), .int (s.2 0 8), .int (x.1 4 0)])
  | 4, 1 => .inr (8, [.ref (ad 3 2), .int (s.2 0 10), .int (x.1 4 1), .int (s.2 0 13)])
  | 4, _ => qa "HeaderSchedule$Table" 3 (fun t => if t < 3 then some (ad 5 t) else none)
  | 5, t => .inr (6, [.ref (ad 1 (4 + t))])
  | 6, f => .inr (1, [.int (nI f), .int (x.1 1 f), .int (s.2 2 f), .int (s.2 3 f), .int (s.2 4 f), .long (x.2.1 0 f), .long (x.2.1 1 f), .int (s.2 5 f)])
  | 7, j => .inr (2, [.ref (ad 6 (s.2 7 j).toNatClampNeg), .int (s.2 8 j), .int (s.2 9 j), .int (s.2 11 j), .int (s.2 12 j)])
  | 8, g => .inr (3, [.ref (ad 9 g)])
  | 9, g => qa "HeaderSchedule$Frame" (xn (s.2 13) g) (xr ad (s.2 13) g)
  | 10, e => .inr (4, [.int (x.1 2 e), .ref (ad 11 e), .int (s.2 16 e)])
  | 11, e => qa "HeaderSchedule$Frame" (xn (s.2 15) e) (xr ad (s.2 15) e)
  | 12, k => .inr (5, [.int (s.2 17 k), .int (s.2 18 k), .int (s.2 19 k)])
  | _, _ => .inr (0, [])
def lvX (s : se_S) (x : xX) : Nat → Nat → Prop
  | 0, i => i = 0
  | 1, i => i < 7
  | 2, i => i < 7 ∧ 0 < x.2.2 i
  | 3, i => i < 3
  | 4, i => i < 3
  | 5, i => i < 3
  | 6, i => i < s.1 0
  | 7, i => i < s.1 1
  | 8, i => i < s.1 2
  | 9, i => i < s.1 2
  | 10, i => i < s.1 3
  | 11, i => i < s.1 3
  | 12, i => ∃ t j, t < 3 ∧ j < s.1 (4 + t) ∧ i = 8 * t + j
  | _, _ => False
def RX (zz : Nat × Nat) (h : mx_H) (ad : Nat → Nat → Nat) (s : se_S) (x : xX) : Prop := rp h (lvX s x) ad (cX zz ad s x) ∧ ∀ i, i < 7 → s.1 i ≤ x.2.2 i ∧ x.2.2 i ≤ 24 ∧ (0 < x.2.2 i → ad 2 i ≠ zz.1)
theorem RX.fd {zz : Nat × Nat} {h : mx_H} {ad : Nat → Nat → Nat} {s : se_S} {x : xX} (r : RX zz h ad s x) {k i ci : Nat} {fs : List Value} (hl : lvX s x k i) (e : cX zz ad s x k i = .inr (ci, fs)) (j : Nat) {v : Value} (ev : fs[j]? = some v) : mx_fld h (ad k i) ci j = some v := by
  unfold mx_fld
  rw [r.1.1 k i hl, e]
  show (if ci = ci then _ else _) = _
  rw [if_pos rfl]
  exact ev
theorem RX.cl {zz : Nat × Nat} {h : mx_H} {ad : Nat → Nat → Nat} {s : se_S} {x : xX} (r : RX zz h ad s x) {k i ci : Nat} {fs : List Value} (hl : lvX s x k i) (e : cX zz ad s x k i = .inr (ci, fs)) : mx_cls h (ad k i) = some ci := by
  unfold mx_cls
  rw [r.1.1 k i hl, e]
theorem RX.qr {zz : Nat × Nat} {h : mx_H} {ad : Nat → Nat → Nat} {s : se_S} {x : xX} (r : RX zz h ad s x) {k i n : Nat} {C : String} {g : Nat → Option Nat} (hl : lvX s x k i) (e : cX zz ad s x k i = qa C n g) : mx_qar h (ad k i) = some (C, n, g) := by
  unfold mx_qar
  rw [r.1.1 k i hl, e]
theorem RX.ln {zz : Nat × Nat} {h : mx_H} {ad : Nat → Nat → Nat} {s : se_S} {x : xX} (r : RX zz h ad s x) {k i n : Nat} {C : String} {g : Nat → Option Nat} (hl : lvX s x k i) (e : cX zz ad s x k i = qa C n g) : mx_len h (ad k i) = some n := by
  unfold mx_len
  rw [r.1.1 k i hl, e]
theorem RX.ir {zz : Nat × Nat} {h : mx_H} {ad : Nat → Nat → Nat} {s : se_S} {x : xX} (r : RX zz h ad s x) {k i n : Nat} {ty : FieldType} {g : Nat → Int32} (hl : lvX s x k i) (e : cX zz ad s x k i = .inl (ty, n, .inl g)) : mx_iar h (ad k i) ty = some (n, g) := by
  unfold mx_iar
  rw [r.1.1 k i hl, e]
  show (if ty = ty then _ else _) = _
  rw [if_pos rfl]
theorem RX.il {zz : Nat × Nat} {h : mx_H} {ad : Nat → Nat → Nat} {s : se_S} {x : xX} (r : RX zz h ad s x) {k i n : Nat} {ty : FieldType} {g : Nat → Int32} (hl : lvX s x k i) (e : cX zz ad s x k i = .inl (ty, n, .inl g)) : mx_len h (ad k i) = some n := by
  unfold mx_len
  rw [r.1.1 k i hl, e]
theorem lvX_as {s s' : se_S} {x x' : xX} (hc : s'.1 = s.1) (hp : x'.2.2 = x.2.2) : lvX s' x' = lvX s x := by
  funext k i
  unfold lvX
  rw [hc, hp]
theorem RX.up {zz : Nat × Nat} {h : mx_H} {ad : Nat → Nat → Nat} {s s' : se_S} {x x' : xX} (r : RX zz h ad s x) {k i : Nat} (hl : lvX s x k i) (hc : s'.1 = s.1) (hp : x'.2.2 = x.2.2) {e : mx_E} (e2 : cX zz ad s' x' k i = e) (e3 : ∀ k' i', lvX s x k' i' → ¬ (k' = k ∧ i' = i) → cX zz ad s' x' k' i' = cX zz ad s x k' i') : RX zz (va_up h (ad k i) (some e)) ad s' x' := by
  refine ⟨?_, fun j hj => by rw [hc, hp]; exact r.2 j hj⟩
  rw [lvX_as hc hp]
  refine rp_as (rp_up r.1 hl e) (fun _ _ z => z) (fun _ _ _ => rfl) (fun k' i' z => ?_)
  by_cases hk : k' = k ∧ i' = i
  · rw [hk.1, hk.2, up2_self, e2]
  · rw [up2_ne _ _ hk, e3 k' i' z hk]
theorem RX.put {zz : Nat × Nat} {h : mx_H} {ad : Nat → Nat → Nat} {s s' : se_S} {x x' : xX} (r : RX zz h ad s x) {k i ci j : Nat} {fs : List Value} {v : Value} (hl : lvX s x k i) (e1 : cX zz ad s x k i = .inr (ci, fs)) (hj : j < fs.length) (hc : s'.1 = s.1) (hp : x'.2.2 = x.2.2) (e2 : cX zz ad s' x' k i = .inr (ci, fs.set j v)) (e3 : ∀ k' i', lvX s x k' i' → ¬ (k' = k ∧ i' = i) → cX zz ad s' x' k' i' = cX zz ad s x k' i') : ∃ h', mx_put h (ad k i) ci j v = some h' ∧ RX zz h' ad s' x' := by
  refine ⟨_, ?_, r.up hl hc hp e2 e3⟩
  unfold mx_put
  rw [r.1.1 k i hl, e1]
  show (if ci = ci ∧ j < fs.length then _ else _) = _
  rw [if_pos ⟨rfl, hj⟩]
theorem RX.fresh {zz : Nat × Nat} {h : mx_H} {ad : Nat → Nat → Nat} {s : se_S} {x : xX} (r : RX zz h ad s x) {q : Nat} (hq : ∀ k i, lvX s x k i → ad k i ≠ q) (e : Option mx_E) : RX zz (va_up h q e) ad s x :=
  ⟨⟨fun k i hl => by rw [va_up_ne _ _ (hq k i hl)]; exact r.1.1 k i hl, r.1.2⟩, r.2⟩
theorem RX.nq {zz : Nat × Nat} {h : mx_H} {ad : Nat → Nat → Nat} {s : se_S} {x : xX} (r : RX zz h ad s x) {q : Nat} (hq : h q = none) : ∀ k i, lvX s x k i → ad k i ≠ q := fun k i hl e => by
  have := r.1.1 k i hl
  rw [e, hq] at this
  cases this
-- stores
theorem Xst {tab : List (Nat × mx_O)} {r : mx_T} {pc : Nat} {ls : mx_L} {t : List Value} {h : mx_H} {c n : Nat} {zz : Nat × Nat} {ad : Nat → Nat → Nat} {s s' : se_S} {x x' : xX} {ok : Value → Prop} {v : Value} {k i ci j : Nat} {fs : List Value} (st : mx_G r tab pc ls (v :: .ref (ad k i) :: t) h c n = o_put ci j ok r (mx_G r tab) pc ls (v :: .ref (ad k i) :: t) h c n) (hR : RX zz h ad s x) (hl : lvX s x k i) (e1 : cX zz ad s x k i = .inr (ci, fs)) (hj : j < fs.length) (hc : s'.1 = s.1) (hp : x'.2.2 = x.2.2) (e2 : cX zz ad s' x' k i = .inr (ci, fs.set j v)) (e3 : ∀ k' i', lvX s x k' i' → ¬ (k' = k ∧ i' = i) → cX zz ad s' x' k' i' = cX zz ad s x k' i') (hok : ok v) (kk : ∀ (h : mx_H), RX zz h ad s' x' → mx_G r tab (pc + 3) ls t h c n) : mx_G r tab pc ls (v :: .ref (ad k i) :: t) h c n := by
  obtain ⟨h', p1, hR'⟩ := hR.put (v := v) hl e1 hj hc hp e2 e3
  rw [st]
  simp only [o_put, o_sc, p1]
  exact ⟨hok, kk h' hR'⟩
theorem Xput0 {tab : List (Nat × mx_O)} {r : mx_T} {pc : Nat} {ls : mx_L} {t : List Value} {h : mx_H} {c n : Nat} {zz : Nat × Nat} {ad : Nat → Nat → Nat} {s : se_S} {x : xX} {ok : Value → Prop} {v : Int32} (j : Nat) (hj : j < 3) (st : mx_G r tab pc ls (.int v :: .ref (ad 0 0) :: t) h c n = o_put 0 (8 + j) ok r (mx_G r tab) pc ls (.int v :: .ref (ad 0 0) :: t) h c n) (hR : RX zz h ad s x) (hok : ok (.int v)) (kk : ∀ (h : mx_H) (s1 : se_S), s1 = (s.1, up2 s.2 0 j v) → RX zz h ad s1 x → mx_G r tab (pc + 3) ls t h c n) : mx_G r tab pc ls (.int v :: .ref (ad 0 0) :: t) h c n := by
  refine Xst (s' := (s.1, up2 s.2 0 j v)) (x' := x) st hR rfl rfl (show 8 + j < 11 by omega) rfl rfl ?_ ?_ hok (fun h hR => kk h _ rfl hR)
  · match j, hj with
    | 0, _ => rfl
    | 1, _ => rfl
    | 2, _ => rfl
  · intro k' i' hl hne
    match j, hj with
    | 0, _ => exact (match k', i', hl, hne with
                | 0, _, hl, hne => absurd ⟨rfl, hl⟩ hne
                | 1, _, _, _ => rfl
                | 2, _, _, _ => rfl
                | 3, 0, _, _ => rfl
                | 3, 1, _, _ => rfl
                | 3, _ + 2, _, _ => rfl
                | 4, 0, _, _ => rfl
                | 4, 1, _, _ => rfl
                | 4, _ + 2, _, _ => rfl
                | 5, _, _, _ => rfl
                | 6, _, _, _ => rfl
                | 7, _, _, _ => rfl
                | 8, _, _, _ => rfl
                | 9, _, _, _ => rfl
                | 10, _, _, _ => rfl
                | 11, _, _, _ => rfl
                | 12, _, _, _ => rfl
                | _ + 13, _, hl, _ => hl.elim)
    | 1, _ => exact (match k', i', hl, hne with
                | 0, _, hl, hne => absurd ⟨rfl, hl⟩ hne
                | 1, _, _, _ => rfl
                | 2, _, _, _ => rfl
                | 3, 0, _, _ => rfl
                | 3, 1, _, _ => rfl
                | 3, _ + 2, _, _ => rfl
                | 4, 0, _, _ => rfl
                | 4, 1, _, _ => rfl
                | 4, _ + 2, _, _ => rfl
                | 5, _, _, _ => rfl
                | 6, _, _, _ => rfl
                | 7, _, _, _ => rfl
                | 8, _, _, _ => rfl
                | 9, _, _, _ => rfl
                | 10, _, _, _ => rfl
                | 11, _, _, _ => rfl
                | 12, _, _, _ => rfl
                | _ + 13, _, hl, _ => hl.elim)
    | 2, _ => exact (match k', i', hl, hne with
                | 0, _, hl, hne => absurd ⟨rfl, hl⟩ hne
                | 1, _, _, _ => rfl
                | 2, _, _, _ => rfl
                | 3, 0, _, _ => rfl
                | 3, 1, _, _ => rfl
                | 3, _ + 2, _, _ => rfl
                | 4, 0, _, _ => rfl
                | 4, 1, _, _ => rfl
                | 4, _ + 2, _, _ => rfl
                | 5, _, _, _ => rfl
                | 6, _, _, _ => rfl
                | 7, _, _, _ => rfl
                | 8, _, _, _ => rfl
                | 9, _, _, _ => rfl
                | 10, _, _, _ => rfl
                | 11, _, _, _ => rfl
                | 12, _, _, _ => rfl
                | _ + 13, _, hl, _ => hl.elim)
theorem XputS {tab : List (Nat × mx_O)} {r : mx_T} {pc : Nat} {ls : mx_L} {t : List Value} {h : mx_H} {c n : Nat} {zz : Nat × Nat} {ad : Nat → Nat → Nat} {s : se_S} {x : xX} {ok : Value → Prop} {v : Int32} (j : Nat) (hj : j < 6) (st : mx_G r tab pc ls (.int v :: .ref (ad 4 0) :: t) h c n = o_put 7 (1 + j) ok r (mx_G r tab) pc ls (.int v :: .ref (ad 4 0) :: t) h c n) (hR : RX zz h ad s x) (hok : ok (.int v)) (kk : ∀ (h : mx_H) (s1 : se_S), s1 = (s.1, up2 s.2 0 (3 + j) v) → RX zz h ad s1 x → mx_G r tab (pc + 3) ls t h c n) : mx_G r tab pc ls (.int v :: .ref (ad 4 0) :: t) h c n := by
  refine Xst (s' := (s.1, up2 s.2 0 (3 + j) v)) (x' := x) st hR (show 0 < 3 by decide) rfl (show 1 + j < 8 by omega) rfl rfl ?_ ?_ hok (fun h hR => kk h _ rfl hR)
  · match j, hj with
    | 0, _ => rfl
    | 1, _ => rfl
    | 2, _ => rfl
    | 3, _ => rfl
    | 4, _ => rfl
    | 5, _ => rfl
  · intro k' i' hl hne
    match j, hj with
    | 0, _ => exact (match k', i', hl, hne with
                | 0, _, _, _ => rfl
                | 1, _, _, _ => rfl
                | 2, _, _, _ => rfl
                | 3, 0, _, _ => rfl
                | 3, 1, _, _ => rfl
                | 3, _ + 2, _, _ => rfl
                | 4, 0, _, hne => absurd ⟨rfl, rfl⟩ hne
                | 4, 1, _, _ => rfl
                | 4, _ + 2, _, _ => rfl
                | 5, _, _, _ => rfl
                | 6, _, _, _ => rfl
                | 7, _, _, _ => rfl
                | 8, _, _, _ => rfl
                | 9, _, _, _ => rfl
                | 10, _, _, _ => rfl
                | 11, _, _, _ => rfl
                | 12, _, _, _ => rfl
                | _ + 13, _, hl, _ => hl.elim)
    | 1, _ => exact (match k', i', hl, hne with
                | 0, _, _, _ => rfl
                | 1, _, _, _ => rfl
                | 2, _, _, _ => rfl
                | 3, 0, _, _ => rfl
                | 3, 1, _, _ => rfl
                | 3, _ + 2, _, _ => rfl
                | 4, 0, _, hne => absurd ⟨rfl, rfl⟩ hne
                | 4, 1, _, _ => rfl
                | 4, _ + 2, _, _ => rfl
                | 5, _, _, _ => rfl
                | 6, _, _, _ => rfl
                | 7, _, _, _ => rfl
                | 8, _, _, _ => rfl
                | 9, _, _, _ => rfl
                | 10, _, _, _ => rfl
                | 11, _, _, _ => rfl
                | 12, _, _, _ => rfl
                | _ + 13, _, hl, _ => hl.elim)
    | 2, _ => exact (match k', i', hl, hne with
                | 0, _, _, _ => rfl
                | 1, _, _, _ => rfl
                | 2, _, _, _ => rfl
                | 3, 0, _, _ => rfl
                | 3, 1, _, _ => rfl
                | 3, _ + 2, _, _ => rfl
                | 4, 0, _, hne => absurd ⟨rfl, rfl⟩ hne
                | 4, 1, _, _ => rfl
                | 4, _ + 2, _, _ => rfl
                | 5, _, _, _ => rfl
                | 6, _, _, _ => rfl
                | 7, _, _, _ => rfl
                | 8, _, _, _ => rfl
                | 9, _, _, _ => rfl
                | 10, _, _, _ => rfl
                | 11, _, _, _ => rfl
                | 12, _, _, _ => rfl
                | _ + 13, _, hl, _ => hl.elim)
    | 3, _ => exact (match k', i', hl, hne with
                | 0, _, _, _ => rfl
                | 1, _, _, _ => rfl
                | 2, _, _, _ => rfl
                | 3, 0, _, _ => rfl
                | 3, 1, _, _ => rfl
                | 3, _ + 2, _, _ => rfl
                | 4, 0, _, hne => absurd ⟨rfl, rfl⟩ hne
                | 4, 1, _, _ => rfl
                | 4, _ + 2, _, _ => rfl
                | 5, _, _, _ => rfl
                | 6, _, _, _ => rfl
                | 7, _, _, _ => rfl
                | 8, _, _, _ => rfl
                | 9, _, _, _ => rfl
                | 10, _, _, _ => rfl
                | 11, _, _, _ => rfl
                | 12, _, _, _ => rfl
                | _ + 13, _, hl, _ => hl.elim)
    | 4, _ => exact (match k', i', hl, hne with
                | 0, _, _, _ => rfl
                | 1, _, _, _ => rfl
                | 2, _, _, _ => rfl
                | 3, 0, _, _ => rfl
                | 3, 1, _, _ => rfl
                | 3, _ + 2, _, _ => rfl
                | 4, 0, _, hne => absurd ⟨rfl, rfl⟩ hne
                | 4, 1, _, _ => rfl
                | 4, _ + 2, _, _ => rfl
                | 5, _, _, _ => rfl
                | 6, _, _, _ => rfl
                | 7, _, _, _ => rfl
                | 8, _, _, _ => rfl
                | 9, _, _, _ => rfl
                | 10, _, _, _ => rfl
                | 11, _, _, _ => rfl
                | 12, _, _, _ => rfl
                | _ + 13, _, hl, _ => hl.elim)
    | 5, _ => exact (match k', i', hl, hne with
                | 0, _, _, _ => rfl
                | 1, _, _, _ => rfl
                | 2, _, _, _ => rfl
                | 3, 0, _, _ => rfl
                | 3, 1, _, _ => rfl
                | 3, _ + 2, _, _ => rfl
                | 4, 0, _, hne => absurd ⟨rfl, rfl⟩ hne
                | 4, 1, _, _ => rfl
                | 4, _ + 2, _, _ => rfl
                | 5, _, _, _ => rfl
                | 6, _, _, _ => rfl
                | 7, _, _, _ => rfl
                | 8, _, _, _ => rfl
                | 9, _, _, _ => rfl
                | 10, _, _, _ => rfl
                | 11, _, _, _ => rfl
                | 12, _, _, _ => rfl
                | _ + 13, _, hl, _ => hl.elim)
theorem XputW {tab : List (Nat × mx_O)} {r : mx_T} {pc : Nat} {ls : mx_L} {t : List Value} {h : mx_H} {c n : Nat} {zz : Nat × Nat} {ad : Nat → Nat → Nat} {s : se_S} {x : xX} {ok : Value → Prop} {v : Int32} (j : Nat) (hj : j = 1 ∨ j = 3) (st : mx_G r tab pc ls (.int v :: .ref (ad 4 1) :: t) h c n = o_put 8 j ok r (mx_G r tab) pc ls (.int v :: .ref (ad 4 1) :: t) h c n) (hR : RX zz h ad s x) (hok : ok (.int v)) (kk : ∀ (h : mx_H) (s1 : se_S), s1 = (s.1, up2 s.2 0 (if j = 1 then 10 else 13) v) → RX zz h ad s1 x → mx_G r tab (pc + 3) ls t h c n) : mx_G r tab pc ls (.int v :: .ref (ad 4 1) :: t) h c n := by
  rcases hj with rfl | rfl
  · refine Xst (s' := (s.1, up2 s.2 0 10 v)) (x' := x) st hR (show 1 < 3 by decide) rfl (show 1 < 4 by decide) rfl rfl rfl ?_ hok (fun h hR => kk h _ rfl hR)
    intro k' i' hl hne
    exact (match k', i', hl, hne with
                | 0, _, _, _ => rfl
                | 1, _, _, _ => rfl
                | 2, _, _, _ => rfl
                | 3, 0, _, _ => rfl
                | 3, 1, _, _ => rfl
                | 3, _ + 2, _, _ => rfl
                | 4, 0, _, _ => rfl
                | 4, 1, _, hne => absurd ⟨rfl, rfl⟩ hne
                | 4, _ + 2, _, _ => rfl
                | 5, _, _, _ => rfl
                | 6, _, _, _ => rfl
                | 7, _, _, _ => rfl
                | 8, _, _, _ => rfl
                | 9, _, _, _ => rfl
                | 10, _, _, _ => rfl
                | 11, _, _, _ => rfl
                | 12, _, _, _ => rfl
                | _ + 13, _, hl, _ => hl.elim)
  · refine Xst (s' := (s.1, up2 s.2 0 13 v)) (x' := x) st hR (show 1 < 3 by decide) rfl (show 3 < 4 by decide) rfl rfl rfl ?_ hok (fun h hR => kk h _ rfl hR)
    intro k' i' hl hne
    exact (match k', i', hl, hne with
                | 0, _, _, _ => rfl
                | 1, _, _, _ => rfl
                | 2, _, _, _ => rfl
                | 3, 0, _, _ => rfl
                | 3, 1, _, _ => rfl
                | 3, _ + 2, _, _ => rfl
                | 4, 0, _, _ => rfl
                | 4, 1, _, hne => absurd ⟨rfl, rfl⟩ hne
                | 4, _ + 2, _, _ => rfl
                | 5, _, _, _ => rfl
                | 6, _, _, _ => rfl
                | 7, _, _, _ => rfl
                | 8, _, _, _ => rfl
                | 9, _, _, _ => rfl
                | 10, _, _, _ => rfl
                | 11, _, _, _ => rfl
                | 12, _, _, _ => rfl
                | _ + 13, _, hl, _ => hl.elim)
theorem XputB {tab : List (Nat × mx_O)} {r : mx_T} {pc : Nat} {ls : mx_L} {t : List Value} {h : mx_H} {c n : Nat} {zz : Nat × Nat} {ad : Nat → Nat → Nat} {s : se_S} {x : xX} {ok : Value → Prop} {v : Int32} (st : mx_G r tab pc ls (.int v :: .ref (ad 4 0) :: t) h c n = o_put 7 7 ok r (mx_G r tab) pc ls (.int v :: .ref (ad 4 0) :: t) h c n) (hR : RX zz h ad s x) (hok : ok (.int v)) (kk : ∀ (h : mx_H) (x1 : xX), x1 = (up2 x.1 4 0 v, x.2) → RX zz h ad s x1 → mx_G r tab (pc + 3) ls t h c n) : mx_G r tab pc ls (.int v :: .ref (ad 4 0) :: t) h c n := by
  refine Xst (s' := s) (x' := (up2 x.1 4 0 v, x.2)) st hR (show 0 < 3 by decide) rfl (show 7 < 8 by decide) rfl rfl rfl ?_ hok (fun h hR => kk h _ rfl hR)
  intro k' i' hl hne
  exact (match k', i', hl, hne with
                | 0, _, _, _ => rfl
                | 1, _, _, _ => rfl
                | 2, _, _, _ => rfl
                | 3, 0, _, _ => rfl
                | 3, 1, _, _ => rfl
                | 3, _ + 2, _, _ => rfl
                | 4, 0, _, hne => absurd ⟨rfl, rfl⟩ hne
                | 4, 1, _, _ => rfl
                | 4, _ + 2, _, _ => rfl
                | 5, _, _, _ => rfl
                | 6, _, _, _ => rfl
                | 7, _, _, _ => rfl
                | 8, _, _, _ => rfl
                | 9, _, _, _ => rfl
                | 10, _, _, _ => rfl
                | 11, _, _, _ => rfl
                | 12, _, _, _ => rfl
                | _ + 13, _, hl, _ => hl.elim)
theorem XputN {tab : List (Nat × mx_O)} {r : mx_T} {pc : Nat} {ls : mx_L} {t : List Value} {h : mx_H} {c n : Nat} {zz : Nat × Nat} {ad : Nat → Nat → Nat} {s : se_S} {x : xX} {ok : Value → Prop} {v : Int32} (st : mx_G r tab pc ls (.int v :: .ref (ad 4 1) :: t) h c n = o_put 8 2 ok r (mx_G r tab) pc ls (.int v :: .ref (ad 4 1) :: t) h c n) (hR : RX zz h ad s x) (hok : ok (.int v)) (kk : ∀ (h : mx_H) (x1 : xX), x1 = (up2 x.1 4 1 v, x.2) → RX zz h ad s x1 → mx_G r tab (pc + 3) ls t h c n) : mx_G r tab pc ls (.int v :: .ref (ad 4 1) :: t) h c n := by
  refine Xst (s' := s) (x' := (up2 x.1 4 1 v, x.2)) st hR (show 1 < 3 by decide) rfl (show 2 < 4 by decide) rfl rfl rfl ?_ hok (fun h hR => kk h _ rfl hR)
  intro k' i' hl hne
  exact (match k', i', hl, hne with
                | 0, _, _, _ => rfl
                | 1, _, _, _ => rfl
                | 2, _, _, _ => rfl
                | 3, 0, _, _ => rfl
                | 3, 1, _, _ => rfl
                | 3, _ + 2, _, _ => rfl
                | 4, 0, _, _ => rfl
                | 4, 1, _, hne => absurd ⟨rfl, rfl⟩ hne
                | 4, _ + 2, _, _ => rfl
                | 5, _, _, _ => rfl
                | 6, _, _, _ => rfl
                | 7, _, _, _ => rfl
                | 8, _, _, _ => rfl
                | 9, _, _, _ => rfl
                | 10, _, _, _ => rfl
                | 11, _, _, _ => rfl
                | 12, _, _, _ => rfl
                | _ + 13, _, hl, _ => hl.elim)
-- the frames' and the signals' own stores
theorem XputF {tab : List (Nat × mx_O)} {r : mx_T} {pc : Nat} {ls : mx_L} {t : List Value} {h : mx_H} {c n : Nat} {zz : Nat × Nat} {ad : Nat → Nat → Nat} {s : se_S} {x : xX} {ok : Value → Prop} {v : Int32} {f : Nat} (st : mx_G r tab pc ls (.int v :: .ref (ad 6 f) :: t) h c n = o_put 1 7 ok r (mx_G r tab) pc ls (.int v :: .ref (ad 6 f) :: t) h c n) (hR : RX zz h ad s x) (hf : f < s.1 0) (hok : ok (.int v)) (kk : ∀ (h : mx_H) (s1 : se_S), s1 = (s.1, up2 s.2 5 f v) → RX zz h ad s1 x → mx_G r tab (pc + 3) ls t h c n) : mx_G r tab pc ls (.int v :: .ref (ad 6 f) :: t) h c n := by
  refine Xst (s' := (s.1, up2 s.2 5 f v)) (x' := x) st hR hf rfl (show 7 < 8 by decide) rfl rfl ?_ ?_ hok (fun h hR => kk h _ rfl hR)
  · show (Sum.inr (1, [.int (nI f), .int (x.1 1 f), .int (s.2 2 f), .int (s.2 3 f), .int (s.2 4 f), .long (x.2.1 0 f), .long (x.2.1 1 f), .int (up2 s.2 5 f v 5 f)]) : mx_E) = _
    rw [up2_self]
    rfl
  · intro k' i' hl hne
    exact (match k', i', hl, hne with
                | 0, _, _, _ => rfl
                | 1, _, _, _ => rfl
                | 2, _, _, _ => rfl
                | 3, 0, _, _ => rfl
                | 3, 1, _, _ => rfl
                | 3, _ + 2, _, _ => rfl
                | 4, 0, _, _ => rfl
                | 4, 1, _, _ => rfl
                | 4, _ + 2, _, _ => rfl
                | 5, _, _, _ => rfl
                | 6, j, _, hne => by
                                  show (Sum.inr (1, [.int (nI j), .int (x.1 1 j), .int (s.2 2 j), .int (s.2 3 j), .int (s.2 4 j), .long (x.2.1 0 j), .long (x.2.1 1 j), .int (up2 s.2 5 f v 5 j)]) : mx_E) = _
                                  rw [up2_ne _ _ (fun z => hne ⟨rfl, z.2⟩)]
                                  rfl
                | 7, _, _, _ => rfl
                | 8, _, _, _ => rfl
                | 9, _, _, _ => rfl
                | 10, _, _, _ => rfl
                | 11, _, _, _ => rfl
                | 12, _, _, _ => rfl
                | _ + 13, _, hl, _ => hl.elim)
theorem XputD {tab : List (Nat × mx_O)} {r : mx_T} {pc : Nat} {ls : mx_L} {t : List Value} {h : mx_H} {c n : Nat} {zz : Nat × Nat} {ad : Nat → Nat → Nat} {s : se_S} {x : xX} {ok : Value → Prop} {v : Int64} {f : Nat} (st : mx_G r tab pc ls (.long v :: .ref (ad 6 f) :: t) h c n = o_put 1 5 ok r (mx_G r tab) pc ls (.long v :: .ref (ad 6 f) :: t) h c n) (hR : RX zz h ad s x) (hf : f < s.1 0) (hok : ok (.long v)) (kk : ∀ (h : mx_H) (x1 : xX), x1 = (x.1, up2 x.2.1 0 f v, x.2.2) → RX zz h ad s x1 → mx_G r tab (pc + 3) ls t h c n) : mx_G r tab pc ls (.long v :: .ref (ad 6 f) :: t) h c n := by
  refine Xst (s' := s) (x' := (x.1, up2 x.2.1 0 f v, x.2.2)) st hR hf rfl (show 5 < 8 by decide) rfl rfl ?_ ?_ hok (fun h hR => kk h _ rfl hR)
  · show (Sum.inr (1, [.int (nI f), .int (x.1 1 f), .int (s.2 2 f), .int (s.2 3 f), .int (s.2 4 f), .long (up2 x.2.1 0 f v 0 f), .long (x.2.1 1 f), .int (s.2 5 f)]) : mx_E) = _
    rw [up2_self]
    rfl
  · intro k' i' hl hne
    exact (match k', i', hl, hne with
                | 0, _, _, _ => rfl
                | 1, _, _, _ => rfl
                | 2, _, _, _ => rfl
                | 3, 0, _, _ => rfl
                | 3, 1, _, _ => rfl
                | 3, _ + 2, _, _ => rfl
                | 4, 0, _, _ => rfl
                | 4, 1, _, _ => rfl
                | 4, _ + 2, _, _ => rfl
                | 5, _, _, _ => rfl
                | 6, j, _, hne => by
                                  show (Sum.inr (1, [.int (nI j), .int (x.1 1 j), .int (s.2 2 j), .int (s.2 3 j), .int (s.2 4 j), .long (up2 x.2.1 0 f v 0 j), .long (x.2.1 1 j), .int (s.2 5 j)]) : mx_E) = _
                                  rw [up2_ne _ _ (fun z => hne ⟨rfl, z.2⟩)]
                                  rfl
                | 7, _, _, _ => rfl
                | 8, _, _, _ => rfl
                | 9, _, _, _ => rfl
                | 10, _, _, _ => rfl
                | 11, _, _, _ => rfl
                | 12, _, _, _ => rfl
                | _ + 13, _, hl, _ => hl.elim)
theorem XputT {tab : List (Nat × mx_O)} {r : mx_T} {pc : Nat} {ls : mx_L} {t : List Value} {h : mx_H} {c n : Nat} {zz : Nat × Nat} {ad : Nat → Nat → Nat} {s : se_S} {x : xX} {ok : Value → Prop} {v : Int64} {f : Nat} (st : mx_G r tab pc ls (.long v :: .ref (ad 6 f) :: t) h c n = o_put 1 6 ok r (mx_G r tab) pc ls (.long v :: .ref (ad 6 f) :: t) h c n) (hR : RX zz h ad s x) (hf : f < s.1 0) (hok : ok (.long v)) (kk : ∀ (h : mx_H) (x1 : xX), x1 = (x.1, up2 x.2.1 1 f v, x.2.2) → RX zz h ad s x1 → mx_G r tab (pc + 3) ls t h c n) : mx_G r tab pc ls (.long v :: .ref (ad 6 f) :: t) h c n := by
  refine Xst (s' := s) (x' := (x.1, up2 x.2.1 1 f v, x.2.2)) st hR hf rfl (show 6 < 8 by decide) rfl rfl ?_ ?_ hok (fun h hR => kk h _ rfl hR)
  · show (Sum.inr (1, [.int (nI f), .int (x.1 1 f), .int (s.2 2 f), .int (s.2 3 f), .int (s.2 4 f), .long (x.2.1 0 f), .long (up2 x.2.1 1 f v 1 f), .int (s.2 5 f)]) : mx_E) = _
    rw [up2_self]
    rfl
  · intro k' i' hl hne
    exact (match k', i', hl, hne with
                | 0, _, _, _ => rfl
                | 1, _, _, _ => rfl
                | 2, _, _, _ => rfl
                | 3, 0, _, _ => rfl
                | 3, 1, _, _ => rfl
                | 3, _ + 2, _, _ => rfl
                | 4, 0, _, _ => rfl
                | 4, 1, _, _ => rfl
                | 4, _ + 2, _, _ => rfl
                | 5, _, _, _ => rfl
                | 6, j, _, hne => by
                                  show (Sum.inr (1, [.int (nI j), .int (x.1 1 j), .int (s.2 2 j), .int (s.2 3 j), .int (s.2 4 j), .long (x.2.1 0 j), .long (up2 x.2.1 1 f v 1 j), .int (s.2 5 j)]) : mx_E) = _
                                  rw [up2_ne _ _ (fun z => hne ⟨rfl, z.2⟩)]
                                  rfl
                | 7, _, _, _ => rfl
                | 8, _, _, _ => rfl
                | 9, _, _, _ => rfl
                | 10, _, _, _ => rfl
                | 11, _, _, _ => rfl
                | 12, _, _, _ => rfl
                | _ + 13, _, hl, _ => hl.elim)
theorem XputR {tab : List (Nat × mx_O)} {r : mx_T} {pc : Nat} {ls : mx_L} {t : List Value} {h : mx_H} {c n : Nat} {zz : Nat × Nat} {ad : Nat → Nat → Nat} {s : se_S} {x : xX} {ok : Value → Prop} {v : Int32} {g : Nat} (st : mx_G r tab pc ls (.int v :: .ref (ad 7 g) :: t) h c n = o_put 2 3 ok r (mx_G r tab) pc ls (.int v :: .ref (ad 7 g) :: t) h c n) (hR : RX zz h ad s x) (hg : g < s.1 1) (hok : ok (.int v)) (kk : ∀ (h : mx_H) (s1 : se_S), s1 = (s.1, up2 s.2 11 g v) → RX zz h ad s1 x → mx_G r tab (pc + 3) ls t h c n) : mx_G r tab pc ls (.int v :: .ref (ad 7 g) :: t) h c n := by
  refine Xst (s' := (s.1, up2 s.2 11 g v)) (x' := x) st hR hg rfl (show 3 < 5 by decide) rfl rfl ?_ ?_ hok (fun h hR => kk h _ rfl hR)
  · show (Sum.inr (2, [.ref (ad 6 (s.2 7 g).toNatClampNeg), .int (s.2 8 g), .int (s.2 9 g), .int (up2 s.2 11 g v 11 g), .int (s.2 12 g)]) : mx_E) = _
    rw [up2_self]
    rfl
  · intro k' i' hl hne
    exact (match k', i', hl, hne with
                | 0, _, _, _ => rfl
                | 1, _, _, _ => rfl
                | 2, _, _, _ => rfl
                | 3, 0, _, _ => rfl
                | 3, 1, _, _ => rfl
                | 3, _ + 2, _, _ => rfl
                | 4, 0, _, _ => rfl
                | 4, 1, _, _ => rfl
                | 4, _ + 2, _, _ => rfl
                | 5, _, _, _ => rfl
                | 6, _, _, _ => rfl
                | 7, j, _, hne => by
                                  show (Sum.inr (2, [.ref (ad 6 (s.2 7 j).toNatClampNeg), .int (s.2 8 j), .int (s.2 9 j), .int (up2 s.2 11 g v 11 j), .int (s.2 12 j)]) : mx_E) = _
                                  rw [up2_ne _ _ (fun z => hne ⟨rfl, z.2⟩)]
                                  rfl
                | 8, _, _, _ => rfl
                | 9, _, _, _ => rfl
                | 10, _, _, _ => rfl
                | 11, _, _, _ => rfl
                | 12, _, _, _ => rfl
                | _ + 13, _, hl, _ => hl.elim)
theorem XputE {tab : List (Nat × mx_O)} {r : mx_T} {pc : Nat} {ls : mx_L} {t : List Value} {h : mx_H} {c n : Nat} {zz : Nat × Nat} {ad : Nat → Nat → Nat} {s : se_S} {x : xX} {ok : Value → Prop} {v : Int32} {g : Nat} (st : mx_G r tab pc ls (.int v :: .ref (ad 7 g) :: t) h c n = o_put 2 4 ok r (mx_G r tab) pc ls (.int v :: .ref (ad 7 g) :: t) h c n) (hR : RX zz h ad s x) (hg : g < s.1 1) (hok : ok (.int v)) (kk : ∀ (h : mx_H) (s1 : se_S), s1 = (s.1, up2 s.2 12 g v) → RX zz h ad s1 x → mx_G r tab (pc + 3) ls t h c n) : mx_G r tab pc ls (.int v :: .ref (ad 7 g) :: t) h c n := by
  refine Xst (s' := (s.1, up2 s.2 12 g v)) (x' := x) st hR hg rfl (show 4 < 5 by decide) rfl rfl ?_ ?_ hok (fun h hR => kk h _ rfl hR)
  · show (Sum.inr (2, [.ref (ad 6 (s.2 7 g).toNatClampNeg), .int (s.2 8 g), .int (s.2 9 g), .int (s.2 11 g), .int (up2 s.2 12 g v 12 g)]) : mx_E) = _
    rw [up2_self]
    rfl
  · intro k' i' hl hne
    exact (match k', i', hl, hne with
                | 0, _, _, _ => rfl
                | 1, _, _, _ => rfl
                | 2, _, _, _ => rfl
                | 3, 0, _, _ => rfl
                | 3, 1, _, _ => rfl
                | 3, _ + 2, _, _ => rfl
                | 4, 0, _, _ => rfl
                | 4, 1, _, _ => rfl
                | 4, _ + 2, _, _ => rfl
                | 5, _, _, _ => rfl
                | 6, _, _, _ => rfl
                | 7, j, _, hne => by
                                  show (Sum.inr (2, [.ref (ad 6 (s.2 7 j).toNatClampNeg), .int (s.2 8 j), .int (s.2 9 j), .int (s.2 11 j), .int (up2 s.2 12 g v 12 j)]) : mx_E) = _
                                  rw [up2_ne _ _ (fun z => hne ⟨rfl, z.2⟩)]
                                  rfl
                | 8, _, _, _ => rfl
                | 9, _, _, _ => rfl
                | 10, _, _, _ => rfl
                | 11, _, _, _ => rfl
                | 12, _, _, _ => rfl
                | _ + 13, _, hl, _ => hl.elim)
-- the arrays of numbers
theorem Xas {tab : List (Nat × mx_O)} {r : mx_T} {pc : Nat} {ls : mx_L} {t : List Value} {h : mx_H} {c n : Nat} {zz : Nat × Nat} {ad : Nat → Nat → Nat} {s s' : se_S} {x x' : xX} {ty : FieldType} {g : Int32 → Int32} {v i : Int32} {k q N : Nat} {a : Nat → Int32} (st : mx_G r tab pc ls (.int v :: .int i :: .ref (ad k q) :: t) h c n = o_iast ty g r (mx_G r tab) pc ls (.int v :: .int i :: .ref (ad k q) :: t) h c n) (hR : RX zz h ad s x) (hl : lvX s x k q) (e1 : cX zz ad s x k q = .inl (ty, N, .inl a)) (hi : vp_in i N) (hc : s'.1 = s.1) (hp : x'.2.2 = x.2.2) (e2 : cX zz ad s' x' k q = .inl (ty, N, .inl (upd a i.toNatClampNeg (g v)))) (e3 : ∀ k' i', lvX s x k' i' → ¬ (k' = k ∧ i' = q) → cX zz ad s' x' k' i' = cX zz ad s x k' i') (kk : ∀ (h : mx_H), RX zz h ad s' x' → mx_G r tab (pc + 1) ls t h c n) : mx_G r tab pc ls (.int v :: .int i :: .ref (ad k q) :: t) h c n := by
  rw [st]
  simp only [o_iast, o_sc, hR.ir hl e1]
  exact ⟨hi, kk _ (hR.up hl hc hp e2 e3)⟩
theorem Xbor {tab : List (Nat × mx_O)} {r : mx_T} {pc : Nat} {ls : mx_L} {t : List Value} {h : mx_H} {c n : Nat} {zz : Nat × Nat} {ad : Nat → Nat → Nat} {s : se_S} {x : xX} {g : Int32 → Int32} {v i : Int32} (st : mx_G r tab pc ls (.int v :: .int i :: .ref (ad 3 0) :: t) h c n = o_iast .boolean g r (mx_G r tab) pc ls (.int v :: .int i :: .ref (ad 3 0) :: t) h c n) (hR : RX zz h ad s x) (hi : vp_in i 60) (kk : ∀ (h : mx_H) (x1 : xX), x1 = (up2 x.1 3 i.toNatClampNeg (g v), x.2) → RX zz h ad s x1 → mx_G r tab (pc + 1) ls t h c n) : mx_G r tab pc ls (.int v :: .int i :: .ref (ad 3 0) :: t) h c n := by
  refine Xas (s' := s) (x' := (up2 x.1 3 i.toNatClampNeg (g v), x.2)) st hR (show 0 < 3 by decide) rfl hi rfl rfl ?_ ?_ (fun h hR => kk h _ rfl hR)
  · rw [← up2_row]
    rfl
  · intro k' i' hl hne
    exact (match k', i', hl, hne with
                | 0, _, _, _ => rfl
                | 1, _, _, _ => rfl
                | 2, _, _, _ => rfl
                | 3, 0, _, hne => absurd ⟨rfl, rfl⟩ hne
                | 3, 1, _, _ => rfl
                | 3, _ + 2, _, _ => rfl
                | 4, 0, _, _ => rfl
                | 4, 1, _, _ => rfl
                | 4, _ + 2, _, _ => rfl
                | 5, _, _, _ => rfl
                | 6, _, _, _ => rfl
                | 7, _, _, _ => rfl
                | 8, _, _, _ => rfl
                | 9, _, _, _ => rfl
                | 10, _, _, _ => rfl
                | 11, _, _, _ => rfl
                | 12, _, _, _ => rfl
                | _ + 13, _, hl, _ => hl.elim)
theorem Xcnt {tab : List (Nat × mx_O)} {r : mx_T} {pc : Nat} {ls : mx_L} {t : List Value} {h : mx_H} {c n : Nat} {zz : Nat × Nat} {ad : Nat → Nat → Nat} {s : se_S} {x : xX} {g : Int32 → Int32} {v i : Int32} (st : mx_G r tab pc ls (.int v :: .int i :: .ref (ad 3 1) :: t) h c n = o_iast .int g r (mx_G r tab) pc ls (.int v :: .int i :: .ref (ad 3 1) :: t) h c n) (hR : RX zz h ad s x) (hi : vp_in i 5) (kk : ∀ (h : mx_H) (s1 : se_S), s1 = (s.1, up2 s.2 21 i.toNatClampNeg (g v)) → RX zz h ad s1 x → mx_G r tab (pc + 1) ls t h c n) : mx_G r tab pc ls (.int v :: .int i :: .ref (ad 3 1) :: t) h c n := by
  refine Xas (s' := (s.1, up2 s.2 21 i.toNatClampNeg (g v))) (x' := x) st hR (show 1 < 3 by decide) rfl hi rfl rfl ?_ ?_ (fun h hR => kk h _ rfl hR)
  · rw [← up2_row]
    rfl
  · intro k' i' hl hne
    exact (match k', i', hl, hne with
                | 0, _, _, _ => rfl
                | 1, _, _, _ => rfl
                | 2, _, _, _ => rfl
                | 3, 0, _, _ => rfl
                | 3, 1, _, hne => absurd ⟨rfl, rfl⟩ hne
                | 3, _ + 2, _, _ => rfl
                | 4, 0, _, _ => rfl
                | 4, 1, _, _ => rfl
                | 4, _ + 2, _, _ => rfl
                | 5, _, _, _ => rfl
                | 6, _, _, _ => rfl
                | 7, _, _, _ => rfl
                | 8, _, _, _ => rfl
                | 9, _, _, _ => rfl
                | 10, _, _, _ => rfl
                | 11, _, _, _ => rfl
                | 12, _, _, _ => rfl
                | _ + 13, _, hl, _ => hl.elim)
theorem Xbyt {tab : List (Nat × mx_O)} {r : mx_T} {pc : Nat} {ls : mx_L} {t : List Value} {h : mx_H} {c n : Nat} {zz : Nat × Nat} {ad : Nat → Nat → Nat} {s : se_S} {x : xX} {g : Int32 → Int32} {v i : Int32} (st : mx_G r tab pc ls (.int v :: .int i :: .ref (ad 3 2) :: t) h c n = o_iast .int g r (mx_G r tab) pc ls (.int v :: .int i :: .ref (ad 3 2) :: t) h c n) (hR : RX zz h ad s x) (hi : vp_in i 10) (kk : ∀ (h : mx_H) (s1 : se_S), s1 = (s.1, up2 s.2 20 i.toNatClampNeg (g v)) → RX zz h ad s1 x → mx_G r tab (pc + 1) ls t h c n) : mx_G r tab pc ls (.int v :: .int i :: .ref (ad 3 2) :: t) h c n := by
  refine Xas (s' := (s.1, up2 s.2 20 i.toNatClampNeg (g v))) (x' := x) st hR (show 2 < 3 by decide) rfl hi rfl rfl ?_ ?_ (fun h hR => kk h _ rfl hR)
  · rw [← up2_row]
    rfl
  · intro k' i' hl hne
    exact (match k', i', hl, hne with
                | 0, _, _, _ => rfl
                | 1, _, _, _ => rfl
                | 2, _, _, _ => rfl
                | 3, 0, _, _ => rfl
                | 3, 1, _, _ => rfl
                | 3, 2, _, hne => absurd ⟨rfl, rfl⟩ hne
                | 3, _ + 3, hl, _ => absurd (show _ + 3 < 3 from hl) (by omega)
                | 4, 0, _, _ => rfl
                | 4, 1, _, _ => rfl
                | 4, _ + 2, _, _ => rfl
                | 5, _, _, _ => rfl
                | 6, _, _, _ => rfl
                | 7, _, _, _ => rfl
                | 8, _, _, _ => rfl
                | 9, _, _, _ => rfl
                | 10, _, _, _ => rfl
                | 11, _, _, _ => rfl
                | 12, _, _, _ => rfl
                | _ + 13, _, hl, _ => hl.elim)
-- the lists, as they are read
theorem q_Al_size {h : mx_H} {a : Nat} {n : Int32} (zz : Nat × Nat) (e : mx_fld h a 9 2 = some (.int n)) (P : Option Value → mx_H → Prop) : S_Al_size zz [.ref a] h P = P (some (.int n)) h := by
  rw [S_Al_size, mx_S_eq (Nat.le_of_ble_eq_true rfl)]
  simp only [st_Al_size_0, st_Al_size_1, st_Al_size_4, lv_args, e, o_push, o_iload, o_lload, o_aload, o_istore, o_lstore, o_astore, o_iinc, o_iincW, o_ii, o_iiz, o_i1, o_l1, o_ll, o_li, o_dup, o_pop, o_dupx1, o_dup2, o_goto, o_if, o_icmp, o_acmp, o_ifnull, o_ifnonnull, o_get, o_put, o_iald, o_iast, o_aald, o_aast, o_alen, o_alenZ, o_cast, o_objinit, o_new, o_newi, o_newq, o_iret, o_zret, o_lret, o_aret, o_vret, o_mm, o_st, o_sc, o_br, o_sw, o_ret, o_al, o_call, mx_sw, mx_pop, mx_lk, mx_s1, mx_s2, mx_cat, mx_rr, mx_rv, mx_z01_0, mx_z01_1, mx_vI, mx_vJ, mx_vA, va_rf, List.filter_cons, List.filter_nil, Value.category, List.map_cons, List.map_nil, List.sum_cons, List.sum_nil, reduceCtorEq, ↓reduceIte, if_true, if_false, decide_true, decide_false, Bool.not_true, Bool.not_false, Bool.and_true, Bool.true_and, Bool.and_false, Bool.false_and, beq_self_eq_true, Nat.reduceAdd, Nat.reduceBEq, Nat.reduceEqDiff, Nat.reduceLeDiff, Nat.add_zero, Nat.zero_add, Nat.le_refl, Nat.zero_le, true_and, and_true, Option.toList_some, Option.toList_none, List.cons_append, List.nil_append, and_self, not_false_eq_true, not_true_eq_false, forall_const, imp_self, true_implies, false_implies, i10, i01]
theorem q_Pr_check {h : mx_H} {i n : Nat} (zz : Nat × Nat) (hi : i < n) (hn : n ≤ 24) (P : Option Value → mx_H → Prop) : S_Pr_checkIndex zz [.int (nI i), .int (nI n), .null] h P = P (some (.int (nI i))) h := by
  have e1 : (nI i < 0) = False := eq_false (nI_pos (by omega))
  have e2 : (nI i < nI n) = True := eq_true ((nI_ltI (by omega) (by omega)).mpr hi)
  rw [S_Pr_checkIndex, mx_S_eq (Nat.le_of_ble_eq_true rfl)]
  simp only [st_Pr_checkIndex_0, st_Pr_checkIndex_1, st_Pr_checkIndex_4, st_Pr_checkIndex_5, st_Pr_checkIndex_6, st_Pr_checkIndex_9, st_Pr_checkIndex_10, st_Pr_checkIndex_11, st_Pr_checkIndex_16, st_Pr_checkIndex_17, lv_args, e1, e2, o_push, o_iload, o_lload, o_aload, o_istore, o_lstore, o_astore, o_iinc, o_iincW, o_ii, o_iiz, o_i1, o_l1, o_ll, o_li, o_dup, o_pop, o_dupx1, o_dup2, o_goto, o_if, o_icmp, o_acmp, o_ifnull, o_ifnonnull, o_get, o_put, o_iald, o_iast, o_aald, o_aast, o_alen, o_alenZ, o_cast, o_objinit, o_new, o_newi, o_newq, o_iret, o_zret, o_lret, o_aret, o_vret, o_mm, o_st, o_sc, o_br, o_sw, o_ret, o_al, o_call, mx_sw, mx_pop, mx_lk, mx_s1, mx_s2, mx_cat, mx_rr, mx_rv, mx_z01_0, mx_z01_1, mx_vI, mx_vJ, mx_vA, va_rf, List.filter_cons, List.filter_nil, Value.category, List.map_cons, List.map_nil, List.sum_cons, List.sum_nil, reduceCtorEq, ↓reduceIte, if_true, if_false, decide_true, decide_false, Bool.not_true, Bool.not_false, Bool.and_true, Bool.true_and, Bool.and_false, Bool.false_and, beq_self_eq_true, Nat.reduceAdd, Nat.reduceBEq, Nat.reduceEqDiff, Nat.reduceLeDiff, Nat.add_zero, Nat.zero_add, Nat.le_refl, Nat.zero_le, true_and, and_true, Option.toList_some, Option.toList_none, List.cons_append, List.nil_append, and_self, not_false_eq_true, not_true_eq_false, forall_const, imp_self, true_implies, false_implies, i10, i01]
theorem q_Ob_check {h : mx_H} {i n : Nat} (zz : Nat × Nat) (hi : i < n) (hn : n ≤ 24) (P : Option Value → mx_H → Prop) : S_Ob_checkIndex zz [.int (nI i), .int (nI n)] h P = P (some (.int (nI i))) h := by
  rw [S_Ob_checkIndex, mx_S_eq (Nat.le_of_ble_eq_true rfl)]
  simp only [st_Ob_checkIndex_0, st_Ob_checkIndex_1, st_Ob_checkIndex_2, st_Ob_checkIndex_3, st_Ob_checkIndex_6, lv_args, (q_Pr_check zz hi hn), o_push, o_iload, o_lload, o_aload, o_istore, o_lstore, o_astore, o_iinc, o_iincW, o_ii, o_iiz, o_i1, o_l1, o_ll, o_li, o_dup, o_pop, o_dupx1, o_dup2, o_goto, o_if, o_icmp, o_acmp, o_ifnull, o_ifnonnull, o_get, o_put, o_iald, o_iast, o_aald, o_aast, o_alen, o_alenZ, o_cast, o_objinit, o_new, o_newi, o_newq, o_iret, o_zret, o_lret, o_aret, o_vret, o_mm, o_st, o_sc, o_br, o_sw, o_ret, o_al, o_call, mx_sw, mx_pop, mx_lk, mx_s1, mx_s2, mx_cat, mx_rr, mx_rv, mx_z01_0, mx_z01_1, mx_vI, mx_vJ, mx_vA, va_rf, List.filter_cons, List.filter_nil, Value.category, List.map_cons, List.map_nil, List.sum_cons, List.sum_nil, reduceCtorEq, ↓reduceIte, if_true, if_false, decide_true, decide_false, Bool.not_true, Bool.not_false, Bool.and_true, Bool.true_and, Bool.and_false, Bool.false_and, beq_self_eq_true, Nat.reduceAdd, Nat.reduceBEq, Nat.reduceEqDiff, Nat.reduceLeDiff, Nat.add_zero, Nat.zero_add, Nat.le_refl, Nat.zero_le, true_and, and_true, Option.toList_some, Option.toList_none, List.cons_append, List.nil_append, and_self, not_false_eq_true, not_true_eq_false, forall_const, imp_self, true_implies, false_implies, i10, i01]
theorem q_Al_data {h : mx_H} {a e cap i : Nat} {C : String} {g : Nat → Option Nat} (zz : Nat × Nat) (e1 : mx_fld h a 9 1 = some (.ref e)) (e2 : mx_qar h e = some (C, cap, g)) (hi : i < cap) (hc : cap ≤ 24) (P : Option Value → mx_H → Prop) : S_Al_elementData zz [.ref a, .int (nI i)] h P = P (some (va_rf (g i))) h := by
  have hci : (nI i).toNatClampNeg = i := nI_clamp (by omega)
  have hv : vp_in (nI i) cap = True := eq_true (vp_in_nI hi (by omega))
  rw [S_Al_elementData, mx_S_eq (Nat.le_of_ble_eq_true rfl)]
  simp only [st_Al_elementData_0, st_Al_elementData_1, st_Al_elementData_4, st_Al_elementData_5, st_Al_elementData_6, lv_args, e1, e2, hci, hv, o_push, o_iload, o_lload, o_aload, o_istore, o_lstore, o_astore, o_iinc, o_iincW, o_ii, o_iiz, o_i1, o_l1, o_ll, o_li, o_dup, o_pop, o_dupx1, o_dup2, o_goto, o_if, o_icmp, o_acmp, o_ifnull, o_ifnonnull, o_get, o_put, o_iald, o_iast, o_aald, o_aast, o_alen, o_alenZ, o_cast, o_objinit, o_new, o_newi, o_newq, o_iret, o_zret, o_lret, o_aret, o_vret, o_mm, o_st, o_sc, o_br, o_sw, o_ret, o_al, o_call, mx_sw, mx_pop, mx_lk, mx_s1, mx_s2, mx_cat, mx_rr, mx_rv, mx_z01_0, mx_z01_1, mx_vI, mx_vJ, mx_vA, va_rf, List.filter_cons, List.filter_nil, Value.category, List.map_cons, List.map_nil, List.sum_cons, List.sum_nil, reduceCtorEq, ↓reduceIte, if_true, if_false, decide_true, decide_false, Bool.not_true, Bool.not_false, Bool.and_true, Bool.true_and, Bool.and_false, Bool.false_and, beq_self_eq_true, Nat.reduceAdd, Nat.reduceBEq, Nat.reduceEqDiff, Nat.reduceLeDiff, Nat.add_zero, Nat.zero_add, Nat.le_refl, Nat.zero_le, true_and, and_true, Option.toList_some, Option.toList_none, List.cons_append, List.nil_append, and_self, not_false_eq_true, not_true_eq_false, forall_const, imp_self, true_implies, false_implies, i10, i01]
  cases g i <;> simp only [mx_rr, va_rf, true_and, and_true]
theorem q_Al_get {h : mx_H} {a e cap i n : Nat} {C : String} {g : Nat → Option Nat} (zz : Nat × Nat) (e0 : mx_cls h a = some 9) (e1 : mx_fld h a 9 1 = some (.ref e)) (e3 : mx_fld h a 9 2 = some (.int (nI n))) (e2 : mx_qar h e = some (C, cap, g)) (hi : i < n) (hn : n ≤ cap) (hc : cap ≤ 24) (P : Option Value → mx_H → Prop) : S_Al_get zz [.ref a, .int (nI i)] h P = P (some (va_rf (g i))) h := by
  have hic : i < cap := by omega
  have hn2 : n ≤ 24 := by omega
  rw [S_Al_get, mx_S_eq (Nat.le_of_ble_eq_true rfl)]
  simp only [st_Al_get_0, st_Al_get_1, st_Al_get_2, st_Al_get_5, st_Al_get_8, st_Al_get_9, st_Al_get_10, st_Al_get_11, st_Al_get_14, lv_args, e3, e0, (q_Ob_check zz hi hn2), (q_Al_data zz e1 e2 hic hc), o_push, o_iload, o_lload, o_aload, o_istore, o_lstore, o_astore, o_iinc, o_iincW, o_ii, o_iiz, o_i1, o_l1, o_ll, o_li, o_dup, o_pop, o_dupx1, o_dup2, o_goto, o_if, o_icmp, o_acmp, o_ifnull, o_ifnonnull, o_get, o_put, o_iald, o_iast, o_aald, o_aast, o_alen, o_alenZ, o_cast, o_objinit, o_new, o_newi, o_newq, o_iret, o_zret, o_lret, o_aret, o_vret, o_mm, o_st, o_sc, o_br, o_sw, o_ret, o_al, o_call, mx_sw, mx_pop, mx_lk, mx_s1, mx_s2, mx_cat, mx_rr, mx_rv, mx_z01_0, mx_z01_1, mx_vI, mx_vJ, mx_vA, va_rf, List.filter_cons, List.filter_nil, Value.category, List.map_cons, List.map_nil, List.sum_cons, List.sum_nil, reduceCtorEq, ↓reduceIte, if_true, if_false, decide_true, decide_false, Bool.not_true, Bool.not_false, Bool.and_true, Bool.true_and, Bool.and_false, Bool.false_and, beq_self_eq_true, Nat.reduceAdd, Nat.reduceBEq, Nat.reduceEqDiff, Nat.reduceLeDiff, Nat.add_zero, Nat.zero_add, Nat.le_refl, Nat.zero_le, true_and, and_true, Option.toList_some, Option.toList_none, List.cons_append, List.nil_append, and_self, not_false_eq_true, not_true_eq_false, forall_const, imp_self, true_implies, false_implies, i10, i01]
  cases g i <;> simp only [mx_rr, va_rf, true_and, and_true]
theorem RX.size {zz : Nat × Nat} {h : mx_H} {ad : Nat → Nat → Nat} {s : se_S} {x : xX} (r : RX zz h ad s x) (i : Nat) (hi : i < 7) (P : Option Value → mx_H → Prop) : S_Al_size zz [.ref (ad 1 i)] h P = P (some (.int (nI (s.1 i)))) h := q_Al_size zz (r.fd (k := 1) hi rfl 2 rfl) P
theorem RX.get {zz : Nat × Nat} {h : mx_H} {ad : Nat → Nat → Nat} {s : se_S} {x : xX} (r : RX zz h ad s x) (i j : Nat) (hi : i < 7) (hj : j < s.1 i) (P : Option Value → mx_H → Prop) : S_Al_get zz [.ref (ad 1 i), .int (nI j)] h P = P (some (.ref (ad (xk i) (xb i + j)))) h := by
  obtain ⟨h1, h2, h3⟩ := r.2 i hi
  have e1 : mx_fld h (ad 1 i) 9 1 = some (.ref (ad 2 i)) := by
    rw [r.fd (k := 1) hi rfl 1 rfl, if_neg (by omega)]
  rw [q_Al_get zz (r.cl (k := 1) hi rfl) e1 (r.fd (k := 1) hi rfl 2 rfl) (r.qr (k := 2) ⟨hi, by omega⟩ rfl) hj h1 h2]
  unfold xg
  rw [if_pos hj]
  rfl
