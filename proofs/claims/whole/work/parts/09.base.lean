/-! What every method of this claim stands on: the static array and the class object (zz), the nest mates' links, castings; the words of a call. -/
def mx_nw : List Cond := [.methodLinkNest "HeaderSchedule" 31 y_Sc_init "HeaderSchedule", .methodLinkNest "HeaderSchedule$Schedule" 11 y_Tb_init "HeaderSchedule", .methodLinkNest "HeaderSchedule" 38 y_Wi_init "HeaderSchedule", .methodLinkNest "HeaderSchedule$Wire" 38 y_Hs_byteOf "HeaderSchedule", .methodLinkNest "HeaderSchedule$Frame" 44 y_Hs_byteOf "HeaderSchedule", .methodLinkNest "HeaderSchedule$Wire" 25 y_Hs_isWithin "HeaderSchedule"]
def mx_ao : List String := ["HeaderSchedule$Table", "java/lang/Object", "HeaderSchedule$Frame"]
def mx_cs : List String := ["HeaderSchedule$Frame", "HeaderSchedule$Signal", "HeaderSchedule$Group", "HeaderSchedule$Event", "HeaderSchedule$Entry"]
def mx_Z (zz : Nat × Nat) : mx_Zt := fun A s H => va_Z "java/util/ArrayList" "DEFAULTCAPACITY_EMPTY_ELEMENTDATA" "[Ljava/lang/Object;" (.ref zz.1) A s H ∧ va_T (.object "java/lang/Object") zz.1 0 (fun _ => .null) A s H ∧ (∀ w ∈ mx_nw, va_Nw w s) ∧ (∀ C ∈ mx_ao, va_AO C s) ∧ va_Mi "[Ljava/lang/Object;" zz.2 s ∧ va_Dc s ∧ (∀ C ∈ mx_cs, va_Nw (.castable C "java/lang/Object") s)
theorem mx_nw_warm {s U : State} (hW : s.WarmedH U.vm) (h : ∀ w ∈ mx_nw, va_Nw w s) : ∀ w ∈ mx_nw, va_Nw w U := by
  intro w hw
  have h1 := h w hw
  simp only [mx_nw, List.mem_cons, List.not_mem_nil, or_false] at hw
  rcases hw with rfl | rfl | rfl | rfl | rfl | rfl <;> exact va_Nw.warmM hW h1
theorem mx_nw_same {s U : State} (hW : s.vm = U.vm) (h : ∀ w ∈ mx_nw, va_Nw w s) : ∀ w ∈ mx_nw, va_Nw w U := by
  intro w hw
  have h1 := h w hw
  simp only [mx_nw, List.mem_cons, List.not_mem_nil, or_false] at hw
  rcases hw with rfl | rfl | rfl | rfl | rfl | rfl <;> exact va_Nw.same rfl hW h1
theorem mx_Zok_Z (zz : Nat × Nat) : mx_Zok (mx_Z zz) := by
  refine ⟨fun A s U H hW h => ?_, fun A s U H hv h => ?_, fun A s H H1 hq h => ?_⟩
  · obtain ⟨h1, h2, h3, h4, h5, h6, h7⟩ := h
    exact ⟨h1.moved hW.alike, h2.moved hW.alike, mx_nw_warm hW h3, fun C hC => (h4 C hC).moved hW.alike, h5.moved hW.alike, h6.moved hW.alike, fun C hC => va_Nw.warmC hW (h7 C hC)⟩
  · have ha : s.vm.Alike U.vm := by rw [hv]; exact Vm.Alike.refl _
    obtain ⟨h1, h2, h3, h4, h5, h6, h7⟩ := h
    exact ⟨h1.moved ha, h2.moved ha, mx_nw_same hv h3, fun C hC => (h4 C hC).moved ha, h5.moved ha, h6.moved ha, fun C hC => va_Nw.same rfl hv (h7 C hC)⟩
  · obtain ⟨h1, h2, h3, h4, h5, h6, h7⟩ := h
    exact ⟨h1.kept hq, h2.kept hq, h3, h4, h5, h6, h7⟩
theorem mx_Zn_Z (zz : Nat × Nat) : mx_Zn (mx_Z zz) := by
  intro A B s H hAB h
  obtain ⟨h1, h2, h3, h4, h5, h6, h7⟩ := h
  exact ⟨h1.narrow hAB, h2.narrow hAB, h3, h4, h5, h6, h7⟩
theorem mw_goodIn {y : MethodName} {c : ByteArray} {n : Nat} {r : Option FieldType} (h : Cond.code y c n r ∈ mw) : GoodIn mw (wsOf y c n r) := by
  intro w hw
  rcases List.mem_cons.mp hw with rfl | hw
  · exact ⟨h, good_of_word (mw_good h)⟩
  · exact ⟨hw, good_of_word (mw_good hw)⟩
section MXB
variable {p : Program} {l : Launch} {e : Env} {R : Room} {s : State} {m : MethodId} {args : Array Value} {below : List Frame} {meth : Method} {c : Code} {Q : State → Prop}
variable {cc : ByteArray} {nL : Nat} {cl : List vw_C} {D : va_G} {A : Nat → Prop} {Ts : List Cond} {own : String} {r : mx_T} {pc : Nat}
theorem mx_cwB {index maxL mc ms : Nat} {y : MethodName} {bytes : ByteArray} {ret : Option FieldType} {rm : Room} (n : Nat) (hm : ∀ w ∈ mw, w.before args s = true) (hcode : Cond.code y bytes maxL ret ∈ mw) (hl : Cond.methodLink own index y ∈ mw) (hini : Cond.initialized y.cls ∈ mw) (hrc : rm.cells = mc) (hrs : rm.slots = ms)
    (hd : y.cls ≠ "java/lang/invoke/MethodHandle" ∧ y.cls ≠ "java/lang/invoke/VarHandle" ∧ (parseMethodDescriptor y.desc).map (fun d => d.parameters.length) = some n) (hR : rm.frames + 1 ≤ R.frames ∧ 8 + (maxL + 11) + rm.locals ≤ R.locals) : CallB R s args own index y bytes maxL ret (wsOf y bytes maxL ret) rm mc ms n :=
  callB_of n hm (mw_goodIn hcode) rfl hrc hrs (hm _ hini) (hm _ hl) hd hR
theorem mx_cnB {index maxL mc ms : Nat} {y : MethodName} {bytes : ByteArray} {ret : Option FieldType} {rm : Room} {host : String} (n : Nat) (hm : ∀ w ∈ mw, w.before args s = true) (hcode : Cond.code y bytes maxL ret ∈ mw) (hl : va_Nw (.methodLinkNest own index y host) s) (hini : Cond.initialized y.cls ∈ mw) (hrc : rm.cells = mc) (hrs : rm.slots = ms)
    (hd : y.cls ≠ "java/lang/invoke/MethodHandle" ∧ y.cls ≠ "java/lang/invoke/VarHandle" ∧ (parseMethodDescriptor y.desc).map (fun d => d.parameters.length) = some n) (hR : rm.frames + 1 ≤ R.frames ∧ 8 + (maxL + 11) + rm.locals ≤ R.locals) : va_CN R s args own index y host bytes maxL ret (wsOf y bytes maxL ret) rm mc ms n :=
  va_cnB n hm (mw_goodIn hcode) rfl hrc hrs hl (hm _ hini) hd hR
theorem ok_callIN (X : mx_Cx p s m args c cc nL cl D A Ts own) {Z : mx_Zt} (hZ : mx_Zok Z) (hz : Z A s s.heap) {rc rs : Nat} (hR : rc ≤ R.cells ∧ rs ≤ R.slots) {y : MethodName} {ws : List Cond} {rm : Room} {mc ms n index maxL : Nat} {bytes : ByteArray} {host : String} {S : mx_Sp} (hM : mx_Met l y ws rm cl Z mc ms S) (cw : va_CN R s args own index y host bytes maxL none ws rm mc ms n ∧ y.name = "<init>" ∧ (Cond.instanceMethod y).before args s = true) (hd : decode cc pc = .ok (.invokespecial index, 3)) : mx_Ok p l e R s m args below meth c Q nL cl D A r pc (o_call rc rs (n + 1) mc ms mx_rr S) := by
  intro ls st h k n0 z
  obtain ⟨av, rest, hst, hlen, hok, hcat, h1, h2, hSp⟩ := mx_call_inv z
  unfold mx_rr at hok
  split at hok
  · rename_i a As
    intro arr H locs hl hw hS
    exact mx_go (va_runIN X.1 (hM D A (.ref a :: As) h _ hSp) cw ⟨mx_blind hZ, mx_pre hZ X.2.1 X.2.2 hz hw hS⟩ rfl (by simpa using hlen) hl.1 (by rw [hst]; simp) (lv_room hcat) hd ⟨Nat.le_trans h1 hR.1, Nat.le_trans h2 hR.2⟩) hS (fun v h' H1 locs1 hp hw1 hS1 => hp arr H1 locs1 hl hw1 hS1)
  · exact hok.elim
theorem ok_gets (X : mx_Cx p s m args c cc nL cl D A Ts own) {C n d ref : String} {v : Value} {index : Nat} (hZ : va_Z C n d v A s s.heap) (hlink : (Cond.fieldLink own index ref n d).before args s = true) (hsame : ∀ x, s.fieldFound? C n d = some x → s.fieldFound? ref n d = some x) (hd : decode cc pc = .ok (.getstatic index, 3)) : mx_Ok p l e R s m args below meth c Q nL cl D A r pc (o_push 3 v) := by
  intro ls st h k n z
  obtain ⟨q, hf, kk⟩ := mx_st_inv z
  cases hf
  intro arr H locs hl hw hS
  exact va_gets X.1.1 X.1.2.1 hZ hS X.1.2.2.2.1 hlink hsame hd (kk arr H locs hl hw hS)
end MXB
abbrev o_iincW (i : Nat) (d : Int32) : mx_O := o_st fun pc ls st h => match mx_lk ls i with
  | some (.int x) => some (pc + 6, mx_s1 ls i (.int (x + d)), st, h)
  | _ => none
section MXB2
variable {p : Program} {l : Launch} {e : Env} {R : Room} {s : State} {m : MethodId} {args : Array Value} {below : List Frame} {meth : Method} {c : Code} {Q : State → Prop}
variable {cc : ByteArray} {nL : Nat} {cl : List vw_C} {D : va_G} {A : Nat → Prop} {Ts : List Cond} {own : String} {r : mx_T} {pc : Nat}
theorem ok_iincW (X : mx_Cx p s m args c cc nL cl D A Ts own) {i : Nat} {n : Int} {d : Int32} (hv : Int32.ofInt n = d) (hi : i < nL) (hd : decode cc pc = .ok (.iinc i n, 6)) : mx_Ok p l e R s m args below meth c Q nL cl D A r pc (o_iincW i d) := by
  intro ls st h k n z
  obtain ⟨q, hf, kk⟩ := mx_st_inv z
  try dsimp only at hf
  split at hf
  · rename_i x hx
    cases hf
    subst hv
    intro arr H locs hl hw hS
    obtain ⟨j, hj⟩ := List.getElem?_of_mem (mx_lk_mem ls i _ hx)
    exact lv_iincW X.1.1 X.1.2.1 hd hl hj rfl hi rfl (fun arr' hl' => kk arr' H locs hl' hw hS)
  · cases hf
theorem asg_Fr : ∀ ci ∈ [1], ∃ r, wcl[ci]? = some r ∧ ∀ comp c0 : ClassId, s.vm.findClass "HeaderSchedule$Frame" = some comp → s.vm.findClass r.1 = some c0 → s.vm.assignable c0 comp = true := by
  intro ci hc
  simp only [List.mem_singleton] at hc
  subst hc
  exact ⟨_, rfl, vb_asgS⟩
theorem asg_Tb : ∀ ci ∈ [6], ∃ r, wcl[ci]? = some r ∧ ∀ comp c0 : ClassId, s.vm.findClass "HeaderSchedule$Table" = some comp → s.vm.findClass r.1 = some c0 → s.vm.assignable c0 comp = true := by
  intro ci hc
  simp only [List.mem_singleton] at hc
  subst hc
  exact ⟨_, rfl, vb_asgS⟩
theorem asg_Oj (h : ∀ C ∈ mx_cs, va_Nw (.castable C "java/lang/Object") s) : ∀ ci ∈ [1, 2, 3, 4, 5], ∃ r, wcl[ci]? = some r ∧ ∀ comp c0 : ClassId, s.vm.findClass "java/lang/Object" = some comp → s.vm.findClass r.1 = some c0 → s.vm.assignable c0 comp = true := by
  intro ci hc
  simp only [List.mem_cons, List.not_mem_nil, or_false] at hc
  rcases hc with rfl | rfl | rfl | rfl | rfl
  · exact ⟨_, rfl, vb_asgC (h _ (by decide +kernel))⟩
  · exact ⟨_, rfl, vb_asgC (h _ (by decide +kernel))⟩
  · exact ⟨_, rfl, vb_asgC (h _ (by decide +kernel))⟩
  · exact ⟨_, rfl, vb_asgC (h _ (by decide +kernel))⟩
  · exact ⟨_, rfl, vb_asgC (h _ (by decide +kernel))⟩
end MXB2
