/-! Math.max, Math.min. -/
def o_mm (rc rs : Nat) (f : Int32 → Int32 → Int32) : mx_O := fun _ k pc ls st h c n => match st with
  | .int y :: .int x :: r => (mx_cat r ≤ 8 ∧ c ≤ rc ∧ n ≤ rs) ∧ k (pc + 3) ls (.int (f x y) :: r) h c n
  | _ => False
theorem mo_mm {rc rs : Nat} {f : Int32 → Int32 → Int32} : mx_Mono (o_mm rc rs f) := by
  intro r r' k k' hr hk pc ls st h c n
  unfold o_mm
  split
  · exact fun z => ⟨z.1, hk _ _ _ _ _ _ z.2⟩
  · exact fun z => z
section MXM
variable {p : Program} {l : Launch} {e : Env} {R : Room} {s : State} {m : MethodId} {args : Array Value} {below : List Frame} {meth : Method} {c : Code} {Q : State → Prop}
variable {cc : ByteArray} {nL : Nat} {cl : List vw_C} {D : va_G} {A : Nat → Prop} {Ts : List Cond} {own : String} {r : mx_T} {pc : Nat}
theorem ok_mmax (X : mx_Cx p s m args c cc nL cl D A Ts own) {index rc rs : Nat} (hR : (rc ≤ R.cells ∧ rs ≤ R.slots) ∧ 1 ≤ R.frames ∧ 21 ≤ R.locals) (hlink : (Cond.methodLink own index Lib.Math.max.name).before args s = true) (hstat : (Cond.static Lib.Math.max.name).before args s = true) (hini : (Cond.initialized "java/lang/Math").before args s = true) (hcode : (Cond.code Lib.Math.max.name Lib.Math.max.code 2 (some .int)).before args s = true) (hd : decode cc pc = .ok (.invokestatic index, 3)) : mx_Ok p l e R s m args below meth c Q nL cl D A r pc (o_mm rc rs (fun x y => if x < y then y else x)) := by
  intro ls st h k n z
  unfold o_mm at z
  split at z
  · obtain ⟨⟨h1, h2, h3⟩, kk⟩ := z
    intro arr H locs hl hw hS
    unfold mx_cat at h1
    exact va_mmax X.1.1 X.1.2.1 (by rw [X.1.2.2.1]; exact hl.1.symm) X.1.2.2.2.1 hlink hstat hini hcode hR.2.1 (by omega) (Nat.le_trans h2 hR.1.1) (Nat.le_trans h3 hR.1.2) hd (kk arr H locs hl hw hS)
  · exact z.elim
theorem ok_mmin (X : mx_Cx p s m args c cc nL cl D A Ts own) {index rc rs : Nat} (hR : (rc ≤ R.cells ∧ rs ≤ R.slots) ∧ 1 ≤ R.frames ∧ 21 ≤ R.locals) (hlink : (Cond.methodLink own index Lib.Math.min.name).before args s = true) (hstat : (Cond.static Lib.Math.min.name).before args s = true) (hini : (Cond.initialized "java/lang/Math").before args s = true) (hcode : (Cond.code Lib.Math.min.name Lib.Math.min.code 2 (some .int)).before args s = true) (hd : decode cc pc = .ok (.invokestatic index, 3)) : mx_Ok p l e R s m args below meth c Q nL cl D A r pc (o_mm rc rs (fun x y => if y < x then y else x)) := by
  intro ls st h k n z
  unfold o_mm at z
  split at z
  · obtain ⟨⟨h1, h2, h3⟩, kk⟩ := z
    intro arr H locs hl hw hS
    unfold mx_cat at h1
    exact va_mmin X.1.1 X.1.2.1 (by rw [X.1.2.2.1]; exact hl.1.symm) X.1.2.2.2.1 hlink hstat hini hcode hR.2.1 (by omega) (Nat.le_trans h2 hR.1.1) (Nat.le_trans h3 hR.1.2) hd (kk arr H locs hl hw hS)
  · exact z.elim
end MXM
