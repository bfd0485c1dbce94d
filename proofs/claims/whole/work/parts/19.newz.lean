/-! An array is made beside the shared empty one: the new address is another. -/
def o_alZ (rc rs len zt : Nat) (f : List Value → Option (Prop × mx_E × Nat × List Value)) : mx_O := fun _ k pc ls st h c n => match f st with
  | some q => q.1 ∧ c + 1 ≤ rc ∧ n + q.2.2.1 ≤ rs ∧ ∀ a : Nat, h a = none → a ≠ zt → k (pc + len) ls (.ref a :: q.2.2.2) (va_up h a (some q.2.1)) (c + 1) (n + q.2.2.1)
  | none => False
theorem mo_alZ {rc rs len zt : Nat} {f : List Value → Option (Prop × mx_E × Nat × List Value)} : mx_Mono (o_alZ rc rs len zt f) := by
  intro r r' k k' hr hk pc ls st h c n
  unfold o_alZ
  cases f st with
  | none => exact fun z => z
  | some q => exact fun z => ⟨z.1, z.2.1, z.2.2.1, fun a ha hz => hk _ _ _ _ _ _ (z.2.2.2 a ha hz)⟩
theorem mx_alZ_inv {rc rs len zt : Nat} {f : List Value → Option (Prop × mx_E × Nat × List Value)} {r : mx_T} {k : mx_C} {pc : Nat} {ls : mx_L} {st : List Value} {h : mx_H} {c n : Nat} (z : o_alZ rc rs len zt f r k pc ls st h c n) : ∃ q, f st = some q ∧ q.1 ∧ c + 1 ≤ rc ∧ n + q.2.2.1 ≤ rs ∧ ∀ a : Nat, h a = none → a ≠ zt → k (pc + len) ls (.ref a :: q.2.2.2) (va_up h a (some q.2.1)) (c + 1) (n + q.2.2.1) := by
  unfold o_alZ at z
  cases e : f st with
  | none => rw [e] at z; exact z.elim
  | some q => rw [e] at z; exact ⟨q, rfl, z⟩
abbrev o_newqZ (rc rs zt : Nat) (C : String) : mx_O := o_alZ rc rs 3 zt fun st => match st with
  | .int n :: r => some (¬ n < 0 ∧ n.toNatClampNeg ≤ 65536, .inl (.object C, n.toNatClampNeg, .inr (.inr (.inr (.inr (fun _ => none))))), n.toNatClampNeg, r)
  | _ => none
section MXZ
variable {p : Program} {l : Launch} {e : Env} {R : Room} {s : State} {m : MethodId} {args : Array Value} {below : List Frame} {meth : Method} {c : Code} {Q : State → Prop}
variable {cc : ByteArray} {nL : Nat} {cl : List vw_C} {D : va_G} {A : Nat → Prop} {Ts : List Cond} {own : String} {r : mx_T} {pc : Nat}
theorem ok_newqZ (X : mx_Cx p s m args c cc nL cl D A Ts own) {C : String} {index rc rs zt : Nat} {ty : FieldType} {g : Nat → Value} (hT : va_T ty zt 0 g A s s.heap) (hR : rc ≤ R.cells ∧ rs ≤ R.slots) (hcl : (Cond.classLink own index C).before args s = true) (hover : va_AO C s) (hd : decode cc pc = .ok (.anewarray index, 3)) : mx_Ok p l e R s m args below meth c Q nL cl D A r pc (o_newqZ rc rs zt C) := by
  intro ls st h k0 n z
  obtain ⟨q, hf, hq, h1, h2, kk⟩ := mx_alZ_inv z
  try dsimp only at hf
  split at hf
  · rename_i i rest
    cases hf
    intro arr H locs hl hw hS
    obtain ⟨L, f, hP, hD, h3⟩ := hw
    have hb : i.toNatClampNeg * 4 ≤ 536870912 := by
      have := hq.2
      omega
    exact va_newq X.1.1 X.1.2.1 X.1.2.2.2.1 hcl hover X.2.1 hP hD hS X.2.2 hq.1 rfl hb (Nat.le_trans h1 hR.1) (Nat.le_trans h2 hR.2) hd (fun q cA H1 hK1 hP1 hD1 hS1 => by
      have h9 := hK1.2 0 (cA, .object C) rfl
      have h8 := mx_W.mk (e := .inl (.object C, i.toNatClampNeg, .inr (.inr (.inr (.inr (fun _ => none)))))) h3 hP1 hD1 ⟨cA, rfl, h9.1, h9.2⟩
      have hz : q ≠ zt := fun e => by
        obtain ⟨_, _, _, _, _, _, _, hn⟩ := hT
        subst e
        exact hn (hD1.2 (va_pl L f).length _ (by rw [List.getElem?_append_right (Nat.le_refl _), Nat.sub_self]; rfl))
      exact kk q h8.1 hz arr H1 locs hl h8.2 hS1)
  · cases hf
end MXZ
