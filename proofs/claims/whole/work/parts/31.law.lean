/-! THE CLAIM OUT OF ONE WALK OF THE LAW'S BODY. Your part is whole_start (and what it stands on); all else here is the same for every law, but numbers. -/
def R_law : String := "HeaderScheduleLaw"
def lw_P (b : Addr) (xs : List Int32) (args : Array Value) (s : State) : Prop := args = #[.ref b] ∧ s.IntsAt b xs ∧ xs.length ≤ 3072 ∧ (Jvm.Cond.and given_1 narrow_1).before args s = true
def lw_Q (_ : Array Value) (s : State) (o : Outcome) (t : State) : Prop := o = .returned (some (.int 1)) ∧ Framed s o t [] 600000 7302250
def lw_Z (below : List Frame) (a : Array Value) (s : State) : State → Prop := fun t => ∃ o, t.status = .running ∧ Ended t below o ∧ lw_Q a s o t
/-- the law's own end, with 1 on the stack, nothing written that was there before, its room as the claim has it -/
theorem lw_ret {p : Program} {l : Launch} {e : Env} {s : State} {m : MethodId} {below : List Frame} {meth : Method} {c : Code} {b : Nat} (hx : p.tables.exec = Jvm.exec) (hb : c.code = code) (hr : meth.sig.returnType = ret) (hlocks : meth.locks = false) {pc : Nat} {H : Heap} {ls : Array Slot} (hdg : decode code pc = .ok (.ireturn, 1)) : W p l e room_1 s m #[Value.ref b] below meth c H [] 600000 7302250 (lw_Z below #[Value.ref b] s) (F0 m pc ls [.int 1]) := by
  intro T hT X
  obtain ⟨fs, hret, hrun, hended, hW, hframe⟩ := X.leave (v := some (.int 1)) (hlocks := hlocks) (fun h => by rw [hr] at h; cases h)
  have hmeth' : T.vm.method? m = some meth := X.method'
  refine ⟨T.setFrames fs, ?_, .returned (some (.int 1)), hrun, hended, rfl, ⟨_, rfl⟩, hW, hframe⟩
  jvm_step X.here [X.here.top, hx, hb, hdg, hmeth', hr, ret, narrow_b1]
  (try refine ⟨rfl, ?_⟩); (try refine ⟨rfl, ?_⟩)
  first | (intro acts; rw [hret _ acts rfl rfl rfl]) | rw [hret _ _ rfl rfl rfl]
  exact Steps.refl _
/-- what holds at the law's entry: the machine, the code, the tables' words (any of lw_tbl by 'hts w (by decide +kernel)'), the script of L ints xs at the cell b, what the Statement gives of the start (any of its parts by flat_of_before) -/
def lw_At (p : Program) (s : State) (m : MethodId) (meth : Method) (c : Code) (b L : Nat) (xs : Nat → Int32) : Prop :=
  p.tables.exec = Jvm.exec ∧ c.code = code ∧ meth.sig.returnType = ret ∧ c.maxLocals = 4 ∧ s.vm.findClass R_law = some m.cls ∧ (∀ w ∈ lw_tbl, w.before #[Value.ref b] s = true) ∧ va_X b L xs s s.heap ∧ b < s.heap.size ∧ meth.locks = false ∧ (Jvm.Cond.and given_1 narrow_1).before #[Value.ref b] s = true

abbrev o_sld (b L : Nat) (xs : Nat → Int32) : mx_O := o_sc fun pc ls st h => match st with
  | .int i :: .ref a :: r => some (a = b ∧ vp_in i L, pc + 1, ls, .int (xs i.toNatClampNeg) :: r, h)
  | _ => none
abbrev o_slen (b L : Nat) : mx_O := o_sc fun pc ls st h => match st with
  | .ref a :: r => some (a = b, pc + 1, ls, .int (Int32.ofNat L) :: r, h)
  | _ => none
section LWS
variable {p : Program} {l : Launch} {e : Env} {R : Room} {s : State} {m : MethodId} {args : Array Value} {below : List Frame} {meth : Method} {c : Code} {Q : State → Prop}
variable {cc : ByteArray} {nL : Nat} {cl : List vw_C} {D : va_G} {A : Nat → Prop} {Ts : List Cond} {own : String} {r : mx_T} {pc : Nat}
theorem ok_sld (X : mx_Cx p s m args c cc nL cl D A Ts own) {b L : Nat} {xs : Nat → Int32} (hX : va_X b L xs s s.heap) (hbl : b < s.heap.size) (hbA : ¬ A b) (hd : decode cc pc = .ok (.iaload, 1)) : mx_Ok p l e R s m args below meth c Q nL cl D A r pc (o_sld b L xs) := by
  intro ls st h k n z
  obtain ⟨q, hf, hq, kk⟩ := mx_sc_inv z
  try dsimp only at hf
  split at hf
  · cases hf
    obtain ⟨rfl, hin⟩ := hq
    intro arr H locs hl hw hS
    exact va_sld X.1.1 X.1.2.1 hX hbl hbA hS hin hd (kk arr H locs hl hw hS)
  · cases hf
theorem ok_slen (X : mx_Cx p s m args c cc nL cl D A Ts own) {b L : Nat} {xs : Nat → Int32} (hX : va_X b L xs s s.heap) (hbl : b < s.heap.size) (hbA : ¬ A b) (hd : decode cc pc = .ok (.arraylength, 1)) : mx_Ok p l e R s m args below meth c Q nL cl D A r pc (o_slen b L) := by
  intro ls st h k n z
  obtain ⟨q, hf, hq, kk⟩ := mx_sc_inv z
  try dsimp only at hf
  split at hf
  · cases hf
    have hq := hq
    dsimp only at hq
    subst hq
    intro arr H locs hl hw hS
    exact va_slen X.1.1 X.1.2.1 hX hbl hbA hS hd (kk arr H locs hl hw hS)
  · cases hf
abbrev r_law : mx_T := fun v _ c n => v = some (.int 1) ∧ c ≤ 600000 ∧ n ≤ 7302250
theorem ok_lawret {b : Nat} (X : mx_Cx p s m #[Value.ref b] c cc nL cl D (fun q => s.heap.size ≤ q) Ts own) (hcc : cc = code) (hr : meth.sig.returnType = ret) (hlocks : meth.locks = false) (hb : c.code = code) (hd : decode cc pc = .ok (.ireturn, 1)) : mx_Ok p l e room_1 s m #[Value.ref b] below meth c (lw_Z below #[Value.ref b] s) nL cl D (fun q => s.heap.size ≤ q) r_law pc o_iret := by
  subst hcc
  intro ls st h k n z
  obtain ⟨q, hf, h1, h2, h3⟩ := mx_ret_inv z
  try dsimp only at hf
  split at hf
  · cases hf
    cases h1
    intro arr H locs hl hw hS
    exact va_forget hS.2.2 (W.widen h2 h3 (lw_ret X.1.1 hb hr hlocks hd))
  · cases hf
end LWS
def t_law (zz : Nat × Nat) (b L : Nat) (xs : Nat → Int32) : List (Nat × mx_O) := [(0, o_new 600000 7302250 0 11 [.null, .null, .null, .null, .null, .null, .null, .null, .int 0, .int 0, .int 0]),
  (3, o_dup),
  (4, o_callF 600000 7302250 1 16 114 mx_rr (S_Hs_init zz)),
  (7, o_astore 1 1),
  (8, o_new 600000 7302250 10 40 [.int 0, .null, .null, .null, .null, .null, .null, .int 0, .null, .null, .null, .null, .null, .null, .int 0, .null, .int 0, .null, .null, .null, .null, .null, .null, .null, .int 0, .int 0, .int 0, .int 0, .int 0, .int 0, .int 0, .int 0, .int 0, .int 0, .int 0, .null, .int 0, .int 0, .int 0, .null]),
  (11, o_dup),
  (12, o_callF 600000 7302250 1 22 250 mx_rr (S_Mo_init zz)),
  (15, o_astore 1 2),
  (16, o_push 1 (.int 0)),
  (17, o_istore 1 3),
  (18, o_iload 1 3),
  (19, o_aload 1 0),
  (20, o_slen b L),
  (21, o_push 2 (.int 6)),
  (23, o_ii (fun x y => x - y)),
  (24, o_icmp 686 (fun x y => y < x)),
  (27, o_aload 1 0),
  (28, o_iload 1 3),
  (29, o_sld b L xs),
  (30, o_push 2 (.int 31)),
  (32, o_ii (fun x y => x &&& y)),
  (33, o_sw [(0, 120), (1, 189), (2, 242), (3, 285), (4, 348), (5, 401), (6, 424), (7, 457), (8, 480), (9, 503), (10, 526), (11, 549), (12, 582), (13, 595), (14, 618), (15, 641), (16, 654), (17, 667)] 680),
  (120, o_aload 1 1),
  (121, o_aload 1 0),
  (122, o_iload 1 3),
  (123, o_push 1 (.int 1)),
  (124, o_ii (fun x y => x + y)),
  (125, o_sld b L xs),
  (126, o_aload 1 0),
  (127, o_iload 1 3),
  (128, o_push 1 (.int 2)),
  (129, o_ii (fun x y => x + y)),
  (130, o_sld b L xs),
  (131, o_aload 1 0),
  (132, o_iload 1 3),
  (133, o_push 1 (.int 3)),
  (134, o_ii (fun x y => x + y)),
  (135, o_sld b L xs),
  (136, o_aload 1 0),
  (137, o_iload 1 3),
  (138, o_push 1 (.int 4)),
  (139, o_ii (fun x y => x + y)),
  (140, o_sld b L xs),
  (141, o_if 148 (fun x => x = 0)),
  (144, o_push 1 (.int 1)),
  (145, o_goto 149),
  (148, o_push 1 (.int 0)),
  (149, o_callF 600000 7302250 5 3 136 (mx_rv 0) (S_Hs_frame zz)),
  (152, o_aload 1 2),
  (153, o_aload 1 0),
  (154, o_iload 1 3),
  (155, o_push 1 (.int 1)),
  (156, o_ii (fun x y => x + y)),
  (157, o_sld b L xs),
  (158, o_aload 1 0),
  (159, o_iload 1 3),
  (160, o_push 1 (.int 2)),
  (161, o_ii (fun x y => x + y)),
  (162, o_sld b L xs),
  (163, o_aload 1 0),
  (164, o_iload 1 3),
  (165, o_push 1 (.int 3)),
  (166, o_ii (fun x y => x + y)),
  (167, o_sld b L xs),
  (168, o_aload 1 0),
  (169, o_iload 1 3),
  (170, o_push 1 (.int 4)),
  (171, o_ii (fun x y => x + y)),
  (172, o_sld b L xs),
  (173, o_if 180 (fun x => x = 0)),
  (176, o_push 1 (.int 1)),
  (177, o_goto 181),
  (180, o_push 1 (.int 0)),
  (181, o_callF 600000 7302250 5 0 0 (mx_rv 10) (S_Mo_frame zz)),
  (184, o_icmp 680 (fun x y => x = y)),
  (187, o_push 1 (.int 0)),
  (188, o_iret),
  (189, o_aload 1 1),
  (190, o_aload 1 0),
  (191, o_iload 1 3),
  (192, o_push 1 (.int 1)),
  (193, o_ii (fun x y => x + y)),
  (194, o_sld b L xs),
  (195, o_aload 1 0),
  (196, o_iload 1 3),
  (197, o_push 1 (.int 2)),
  (198, o_ii (fun x y => x + y)),
  (199, o_sld b L xs),
  (200, o_aload 1 0),
  (201, o_iload 1 3),
  (202, o_push 1 (.int 3)),
  (203, o_ii (fun x y => x + y)),
  (204, o_sld b L xs),
  (205, o_aload 1 0),
  (206, o_iload 1 3),
  (207, o_push 1 (.int 4)),
  (208, o_ii (fun x y => x + y)),
  (209, o_sld b L xs),
  (210, o_callF 600000 7302250 5 3 133 (mx_rv 0) (S_Hs_signal zz)),
  (213, o_aload 1 2),
  (214, o_aload 1 0),
  (215, o_iload 1 3),
  (216, o_push 1 (.int 1)),
  (217, o_ii (fun x y => x + y)),
  (218, o_sld b L xs),
  (219, o_aload 1 0),
  (220, o_iload 1 3),
  (221, o_push 1 (.int 2)),
  (222, o_ii (fun x y => x + y)),
  (223, o_sld b L xs),
  (224, o_aload 1 0),
  (225, o_iload 1 3),
  (226, o_push 1 (.int 3)),
  (227, o_ii (fun x y => x + y)),
  (228, o_sld b L xs),
  (229, o_aload 1 0),
  (230, o_iload 1 3),
  (231, o_push 1 (.int 4)),
  (232, o_ii (fun x y => x + y)),
  (233, o_sld b L xs),
  (234, o_callF 600000 7302250 5 0 0 (mx_rv 10) (S_Mo_signal zz)),
  (237, o_icmp 680 (fun x y => x = y)),
  (240, o_push 1 (.int 0)),
  (241, o_iret),
  (242, o_aload 1 1),
  (243, o_aload 1 0),
  (244, o_iload 1 3),
  (245, o_push 1 (.int 1)),
  (246, o_ii (fun x y => x + y)),
  (247, o_sld b L xs),
  (248, o_aload 1 0),
  (249, o_iload 1 3),
  (250, o_push 1 (.int 2)),
  (251, o_ii (fun x y => x + y)),
  (252, o_sld b L xs),
  (253, o_aload 1 0),
  (254, o_iload 1 3),
  (255, o_push 1 (.int 3)),
  (256, o_ii (fun x y => x + y)),
  (257, o_sld b L xs),
  (258, o_callF 600000 7302250 4 5 134 (mx_rv 0) (S_Hs_sporadic zz)),
  (261, o_aload 1 2),
  (262, o_aload 1 0),
  (263, o_iload 1 3),
  (264, o_push 1 (.int 1)),
  (265, o_ii (fun x y => x + y)),
  (266, o_sld b L xs),
  (267, o_aload 1 0),
  (268, o_iload 1 3),
  (269, o_push 1 (.int 2)),
  (270, o_ii (fun x y => x + y)),
  (271, o_sld b L xs),
  (272, o_aload 1 0),
  (273, o_iload 1 3),
  (274, o_push 1 (.int 3)),
  (275, o_ii (fun x y => x + y)),
  (276, o_sld b L xs),
  (277, o_callF 600000 7302250 4 0 0 (mx_rv 10) (S_Mo_sporadic zz)),
  (280, o_icmp 680 (fun x y => x = y)),
  (283, o_push 1 (.int 0)),
  (284, o_iret),
  (285, o_aload 1 1),
  (286, o_aload 1 0),
  (287, o_iload 1 3),
  (288, o_push 1 (.int 1)),
  (289, o_ii (fun x y => x + y)),
  (290, o_sld b L xs),
  (291, o_aload 1 0),
  (292, o_iload 1 3),
  (293, o_push 1 (.int 2)),
  (294, o_ii (fun x y => x + y)),
  (295, o_sld b L xs),
  (296, o_aload 1 0),
  (297, o_iload 1 3),
  (298, o_push 1 (.int 3)),
  (299, o_ii (fun x y => x + y)),
  (300, o_sld b L xs),
  (301, o_aload 1 0),
  (302, o_iload 1 3),
  (303, o_push 1 (.int 4)),
  (304, o_ii (fun x y => x + y)),
  (305, o_sld b L xs),
  (306, o_aload 1 0),
  (307, o_iload 1 3),
  (308, o_push 1 (.int 5)),
  (309, o_ii (fun x y => x + y)),
  (310, o_sld b L xs),
  (311, o_callF 600000 7302250 6 5 136 (mx_rv 0) (S_Hs_event zz)),
  (314, o_aload 1 2),
  (315, o_aload 1 0),
  (316, o_iload 1 3),
  (317, o_push 1 (.int 1)),
  (318, o_ii (fun x y => x + y)),
  (319, o_sld b L xs),
  (320, o_aload 1 0),
  (321, o_iload 1 3),
  (322, o_push 1 (.int 2)),
  (323, o_ii (fun x y => x + y)),
  (324, o_sld b L xs),
  (325, o_aload 1 0),
  (326, o_iload 1 3),
  (327, o_push 1 (.int 3)),
  (328, o_ii (fun x y => x + y)),
  (329, o_sld b L xs),
  (330, o_aload 1 0),
  (331, o_iload 1 3),
  (332, o_push 1 (.int 4)),
  (333, o_ii (fun x y => x + y)),
  (334, o_sld b L xs),
  (335, o_aload 1 0),
  (336, o_iload 1 3),
  (337, o_push 1 (.int 5)),
  (338, o_ii (fun x y => x + y)),
  (339, o_sld b L xs),
  (340, o_callF 600000 7302250 6 0 0 (mx_rv 10) (S_Mo_event zz)),
  (343, o_icmp 680 (fun x y => x = y)),
  (346, o_push 1 (.int 0)),
  (347, o_iret),
  (348, o_aload 1 1),
  (349, o_aload 1 0),
  (350, o_iload 1 3),
  (351, o_push 1 (.int 1)),
  (352, o_ii (fun x y => x + y)),
  (353, o_sld b L xs),
  (354, o_aload 1 0),
  (355, o_iload 1 3),
  (356, o_push 1 (.int 2)),
  (357, o_ii (fun x y => x + y)),
  (358, o_sld b L xs),
  (359, o_aload 1 0),
  (360, o_iload 1 3),
  (361, o_push 1 (.int 3)),
  (362, o_ii (fun x y => x + y)),
  (363, o_sld b L xs),
  (364, o_aload 1 0),
  (365, o_iload 1 3),
  (366, o_push 1 (.int 4)),
  (367, o_ii (fun x y => x + y)),
  (368, o_sld b L xs),
  (369, o_callF 600000 7302250 5 3 131 (mx_rv 0) (S_Hs_entry zz)),
  (372, o_aload 1 2),
  (373, o_aload 1 0),
  (374, o_iload 1 3),
  (375, o_push 1 (.int 1)),
  (376, o_ii (fun x y => x + y)),
  (377, o_sld b L xs),
  (378, o_aload 1 0),
  (379, o_iload 1 3),
  (380, o_push 1 (.int 2)),
  (381, o_ii (fun x y => x + y)),
  (382, o_sld b L xs),
  (383, o_aload 1 0),
  (384, o_iload 1 3),
  (385, o_push 1 (.int 3)),
  (386, o_ii (fun x y => x + y)),
  (387, o_sld b L xs),
  (388, o_aload 1 0),
  (389, o_iload 1 3),
  (390, o_push 1 (.int 4)),
  (391, o_ii (fun x y => x + y)),
  (392, o_sld b L xs),
  (393, o_callF 600000 7302250 5 0 0 (mx_rv 10) (S_Mo_entry zz)),
  (396, o_icmp 680 (fun x y => x = y)),
  (399, o_push 1 (.int 0)),
  (400, o_iret),
  (401, o_aload 1 1),
  (402, o_aload 1 0),
  (403, o_iload 1 3),
  (404, o_push 1 (.int 1)),
  (405, o_ii (fun x y => x + y)),
  (406, o_sld b L xs),
  (407, o_callF 600000 7302250 2 0 0 (mx_rv 0) (S_Hs_start zz)),
  (410, o_aload 1 2),
  (411, o_aload 1 0),
  (412, o_iload 1 3),
  (413, o_push 1 (.int 1)),
  (414, o_ii (fun x y => x + y)),
  (415, o_sld b L xs),
  (416, o_callF 600000 7302250 2 0 0 (mx_rv 10) (S_Mo_start zz)),
  (419, o_icmp 680 (fun x y => x = y)),
  (422, o_push 1 (.int 0)),
  (423, o_iret),
  (424, o_aload 1 1),
  (425, o_aload 1 0),
  (426, o_iload 1 3),
  (427, o_push 1 (.int 1)),
  (428, o_ii (fun x y => x + y)),
  (429, o_sld b L xs),
  (430, o_aload 1 0),
  (431, o_iload 1 3),
  (432, o_push 1 (.int 2)),
  (433, o_ii (fun x y => x + y)),
  (434, o_sld b L xs),
  (435, o_callF 600000 7302250 3 0 0 (mx_rv 0) (S_Hs_write zz)),
  (438, o_aload 1 2),
  (439, o_aload 1 0),
  (440, o_iload 1 3),
  (441, o_push 1 (.int 1)),
  (442, o_ii (fun x y => x + y)),
  (443, o_sld b L xs),
  (444, o_aload 1 0),
  (445, o_iload 1 3),
  (446, o_push 1 (.int 2)),
  (447, o_ii (fun x y => x + y)),
  (448, o_sld b L xs),
  (449, o_callF 600000 7302250 3 0 0 (mx_rv 10) (S_Mo_write zz)),
  (452, o_icmp 680 (fun x y => x = y)),
  (455, o_push 1 (.int 0)),
  (456, o_iret),
  (457, o_aload 1 1),
  (458, o_aload 1 0),
  (459, o_iload 1 3),
  (460, o_push 1 (.int 1)),
  (461, o_ii (fun x y => x + y)),
  (462, o_sld b L xs),
  (463, o_callF 600000 7302250 2 0 0 (mx_rv 0) (S_Hs_read zz)),
  (466, o_aload 1 2),
  (467, o_aload 1 0),
  (468, o_iload 1 3),
  (469, o_push 1 (.int 1)),
  (470, o_ii (fun x y => x + y)),
  (471, o_sld b L xs),
  (472, o_callF 600000 7302250 2 0 0 (mx_rv 10) (S_Mo_read zz)),
  (475, o_icmp 680 (fun x y => x = y)),
  (478, o_push 1 (.int 0)),
  (479, o_iret),
  (480, o_aload 1 1),
  (481, o_aload 1 0),
  (482, o_iload 1 3),
  (483, o_push 1 (.int 1)),
  (484, o_ii (fun x y => x + y)),
  (485, o_sld b L xs),
  (486, o_callF 600000 7302250 2 0 0 (mx_rv 0) (S_Hs_fresh zz)),
  (489, o_aload 1 2),
  (490, o_aload 1 0),
  (491, o_iload 1 3),
  (492, o_push 1 (.int 1)),
  (493, o_ii (fun x y => x + y)),
  (494, o_sld b L xs),
  (495, o_callF 600000 7302250 2 0 0 (mx_rv 10) (S_Mo_fresh zz)),
  (498, o_icmp 680 (fun x y => x = y)),
  (501, o_push 1 (.int 0)),
  (502, o_iret),
  (503, o_aload 1 1),
  (504, o_aload 1 0),
  (505, o_iload 1 3),
  (506, o_push 1 (.int 1)),
  (507, o_ii (fun x y => x + y)),
  (508, o_sld b L xs),
  (509, o_callF 600000 7302250 2 0 0 (mx_rv 0) (S_Hs_pending zz)),
  (512, o_aload 1 2),
  (513, o_aload 1 0),
  (514, o_iload 1 3),
  (515, o_push 1 (.int 1)),
  (516, o_ii (fun x y => x + y)),
  (517, o_sld b L xs),
  (518, o_callF 600000 7302250 2 0 0 (mx_rv 10) (S_Mo_pending zz)),
  (521, o_icmp 680 (fun x y => x = y)),
  (524, o_push 1 (.int 0)),
  (525, o_iret),
  (526, o_aload 1 1),
  (527, o_aload 1 0),
  (528, o_iload 1 3),
  (529, o_push 1 (.int 1)),
  (530, o_ii (fun x y => x + y)),
  (531, o_sld b L xs),
  (532, o_callF 600000 7302250 2 0 0 (mx_rv 0) (S_Hs_request zz)),
  (535, o_aload 1 2),
  (536, o_aload 1 0),
  (537, o_iload 1 3),
  (538, o_push 1 (.int 1)),
  (539, o_ii (fun x y => x + y)),
  (540, o_sld b L xs),
  (541, o_callF 600000 7302250 2 0 0 (mx_rv 10) (S_Mo_request zz)),
  (544, o_icmp 680 (fun x y => x = y)),
  (547, o_push 1 (.int 0)),
  (548, o_iret),
  (549, o_aload 1 1),
  (550, o_aload 1 0),
  (551, o_iload 1 3),
  (552, o_push 1 (.int 1)),
  (553, o_ii (fun x y => x + y)),
  (554, o_sld b L xs),
  (555, o_aload 1 0),
  (556, o_iload 1 3),
  (557, o_push 1 (.int 2)),
  (558, o_ii (fun x y => x + y)),
  (559, o_sld b L xs),
  (560, o_callF 600000 7302250 3 0 0 (mx_rv 0) (S_Hs_noise zz)),
  (563, o_aload 1 2),
  (564, o_aload 1 0),
  (565, o_iload 1 3),
  (566, o_push 1 (.int 1)),
  (567, o_ii (fun x y => x + y)),
  (568, o_sld b L xs),
  (569, o_aload 1 0),
  (570, o_iload 1 3),
  (571, o_push 1 (.int 2)),
  (572, o_ii (fun x y => x + y)),
  (573, o_sld b L xs),
  (574, o_callF 600000 7302250 3 0 0 (mx_rv 10) (S_Mo_noise zz)),
  (577, o_icmp 680 (fun x y => x = y)),
  (580, o_push 1 (.int 0)),
  (581, o_iret),
  (582, o_aload 1 1),
  (583, o_callF 600000 7302250 1 0 0 (mx_rv 0) (S_Hs_tick zz)),
  (586, o_aload 1 2),
  (587, o_callF 600000 7302250 1 0 0 (mx_rv 10) (S_Mo_tick zz)),
  (590, o_icmp 680 (fun x y => x = y)),
  (593, o_push 1 (.int 0)),
  (594, o_iret),
  (595, o_aload 1 1),
  (596, o_aload 1 0),
  (597, o_iload 1 3),
  (598, o_push 1 (.int 1)),
  (599, o_ii (fun x y => x + y)),
  (600, o_sld b L xs),
  (601, o_callF 600000 7302250 2 0 0 (mx_rv 0) (S_Hs_bus zz)),
  (604, o_aload 1 2),
  (605, o_aload 1 0),
  (606, o_iload 1 3),
  (607, o_push 1 (.int 1)),
  (608, o_ii (fun x y => x + y)),
  (609, o_sld b L xs),
  (610, o_callF 600000 7302250 2 0 0 (mx_rv 10) (S_Mo_bus zz)),
  (613, o_icmp 680 (fun x y => x = y)),
  (616, o_push 1 (.int 0)),
  (617, o_iret),
  (618, o_aload 1 1),
  (619, o_aload 1 0),
  (620, o_iload 1 3),
  (621, o_push 1 (.int 1)),
  (622, o_ii (fun x y => x + y)),
  (623, o_sld b L xs),
  (624, o_callF 600000 7302250 2 0 0 (mx_rv 0) (S_Hs_count zz)),
  (627, o_aload 1 2),
  (628, o_aload 1 0),
  (629, o_iload 1 3),
  (630, o_push 1 (.int 1)),
  (631, o_ii (fun x y => x + y)),
  (632, o_sld b L xs),
  (633, o_callF 600000 7302250 2 0 0 (mx_rv 10) (S_Mo_count zz)),
  (636, o_icmp 680 (fun x y => x = y)),
  (639, o_push 1 (.int 0)),
  (640, o_iret),
  (641, o_aload 1 1),
  (642, o_callF 600000 7302250 1 0 0 (mx_rv 0) (S_Hs_position zz)),
  (645, o_aload 1 2),
  (646, o_callF 600000 7302250 1 0 0 (mx_rv 10) (S_Mo_position zz)),
  (649, o_icmp 680 (fun x y => x = y)),
  (652, o_push 1 (.int 0)),
  (653, o_iret),
  (654, o_aload 1 1),
  (655, o_callF 600000 7302250 1 0 0 (mx_rv 0) (S_Hs_sleep zz)),
  (658, o_aload 1 2),
  (659, o_callF 600000 7302250 1 0 0 (mx_rv 10) (S_Mo_sleep zz)),
  (662, o_icmp 680 (fun x y => x = y)),
  (665, o_push 1 (.int 0)),
  (666, o_iret),
  (667, o_aload 1 1),
  (668, o_callF 600000 7302250 1 0 0 (mx_rv 0) (S_Hs_wake zz)),
  (671, o_aload 1 2),
  (672, o_callF 600000 7302250 1 0 0 (mx_rv 10) (S_Mo_wake zz)),
  (675, o_icmp 680 (fun x y => x = y)),
  (678, o_push 1 (.int 0)),
  (679, o_iret),
  (680, o_iinc 3 6),
  (683, o_goto 18),
  (686, o_push 1 (.int 1)),
  (687, o_iret)]
set_option maxRecDepth 100000 in
theorem tm_law (zz : Nat × Nat) (b L : Nat) (xs : Nat → Int32) : mx_All (fun _ o => mx_Mono o) (t_law zz b L xs) := by
  refine mx_all_cons (mo_al) ?_
  refine mx_all_cons (mo_st) ?_
  refine mx_all_cons (mo_callF (sm_Hs_init zz)) ?_
  refine mx_all_cons (mo_st) ?_
  refine mx_all_cons (mo_al) ?_
  refine mx_all_cons (mo_st) ?_
  refine mx_all_cons (mo_callF (sm_Mo_init zz)) ?_
  refine mx_all_cons (mo_st) ?_
  refine mx_all_cons (mo_st) ?_
  refine mx_all_cons (mo_st) ?_
  refine mx_all_cons (mo_st) ?_
  refine mx_all_cons (mo_st) ?_
  refine mx_all_cons (mo_sc) ?_
  refine mx_all_cons (mo_st) ?_
  refine mx_all_cons (mo_st) ?_
  refine mx_all_cons (mo_br) ?_
  refine mx_all_cons (mo_st) ?_
  refine mx_all_cons (mo_st) ?_
  refine mx_all_cons (mo_sc) ?_
  refine mx_all_cons (mo_st) ?_
  refine mx_all_cons (mo_st) ?_
  refine mx_all_cons (mo_sw) ?_
  refine mx_all_cons (mo_st) ?_
  refine mx_all_cons (mo_st) ?_
  refine mx_all_cons (mo_st) ?_
  refine mx_all_cons (mo_st) ?_
  refine mx_all_cons (mo_st) ?_
  refine mx_all_cons (mo_sc) ?_
  refine mx_all_cons (mo_st) ?_
  refine mx_all_cons (mo_st) ?_
  refine mx_all_cons (mo_st) ?_
  refine mx_all_cons (mo_st) ?_
  refine mx_all_cons (mo_sc) ?_
  refine mx_all_cons (mo_st) ?_
  refine mx_all_cons (mo_st) ?_
  refine mx_all_cons (mo_st) ?_
  refine mx_all_cons (mo_st) ?_
  refine mx_all_cons (mo_sc) ?_
  refine mx_all_cons (mo_st) ?_
  refine mx_all_cons (mo_st) ?_
  refine mx_all_cons (mo_st) ?_
  refine mx_all_cons (mo_st) ?_
  refine mx_all_cons (mo_sc) ?_
  refine mx_all_cons (mo_br) ?_
  refine mx_all_cons (mo_st) ?_
  refine mx_all_cons (mo_st) ?_
  refine mx_all_cons (mo_st) ?_
  refine mx_all_cons (mo_callF (sm_Hs_frame zz)) ?_
  refine mx_all_cons (mo_st) ?_
  refine mx_all_cons (mo_st) ?_
  refine mx_all_cons (mo_st) ?_
  refine mx_all_cons (mo_st) ?_
  refine mx_all_cons (mo_st) ?_
  refine mx_all_cons (mo_sc) ?_
  refine mx_all_cons (mo_st) ?_
  refine mx_all_cons (mo_st) ?_
  refine mx_all_cons (mo_st) ?_
  refine mx_all_cons (mo_st) ?_
  refine mx_all_cons (mo_sc) ?_
  refine mx_all_cons (mo_st) ?_
  refine mx_all_cons (mo_st) ?_
  refine mx_all_cons (mo_st) ?_
  refine mx_all_cons (mo_st) ?_
  refine mx_all_cons (mo_sc) ?_
  refine mx_all_cons (mo_st) ?_
  refine mx_all_cons (mo_st) ?_
  refine mx_all_cons (mo_st) ?_
  refine mx_all_cons (mo_st) ?_
  refine mx_all_cons (mo_sc) ?_
  refine mx_all_cons (mo_br) ?_
  refine mx_all_cons (mo_st) ?_
  refine mx_all_cons (mo_st) ?_
  refine mx_all_cons (mo_st) ?_
  refine mx_all_cons (mo_callF (sm_Mo_frame zz)) ?_
  refine mx_all_cons (mo_br) ?_
  refine mx_all_cons (mo_st) ?_
  refine mx_all_cons (mo_ret) ?_
  refine mx_all_cons (mo_st) ?_
  refine mx_all_cons (mo_st) ?_
  refine mx_all_cons (mo_st) ?_
  refine mx_all_cons (mo_st) ?_
  refine mx_all_cons (mo_st) ?_
  refine mx_all_cons (mo_sc) ?_
  refine mx_all_cons (mo_st) ?_
  refine mx_all_cons (mo_st) ?_
  refine mx_all_cons (mo_st) ?_
  refine mx_all_cons (mo_st) ?_
  refine mx_all_cons (mo_sc) ?_
  refine mx_all_cons (mo_st) ?_
  refine mx_all_cons (mo_st) ?_
  refine mx_all_cons (mo_st) ?_
  refine mx_all_cons (mo_st) ?_
  refine mx_all_cons (mo_sc) ?_
  refine mx_all_cons (mo_st) ?_
  refine mx_all_cons (mo_st) ?_
  refine mx_all_cons (mo_st) ?_
  refine mx_all_cons (mo_st) ?_
  refine mx_all_cons (mo_sc) ?_
  refine mx_all_cons (mo_callF (sm_Hs_signal zz)) ?_
  refine mx_all_cons (mo_st) ?_
  refine mx_all_cons (mo_st) ?_
  refine mx_all_cons (mo_st) ?_
  refine mx_all_cons (mo_st) ?_
  refine mx_all_cons (mo_st) ?_
  refine mx_all_cons (mo_sc) ?_
  refine mx_all_cons (mo_st) ?_
  refine mx_all_cons (mo_st) ?_
  refine mx_all_cons (mo_st) ?_
  refine mx_all_cons (mo_st) ?_
  refine mx_all_cons (mo_sc) ?_
  refine mx_all_cons (mo_st) ?_
  refine mx_all_cons (mo_st) ?_
  refine mx_all_cons (mo_st) ?_
  refine mx_all_cons (mo_st) ?_
  refine mx_all_cons (mo_sc) ?_
  refine mx_all_cons (mo_st) ?_
  refine mx_all_cons (mo_st) ?_
  refine mx_all_cons (mo_st) ?_
  refine mx_all_cons (mo_st) ?_
  refine mx_all_cons (mo_sc) ?_
  refine mx_all_cons (mo_callF (sm_Mo_signal zz)) ?_
  refine mx_all_cons (mo_br) ?_
  refine mx_all_cons (mo_st) ?_
  refine mx_all_cons (mo_ret) ?_
  refine mx_all_cons (mo_st) ?_
  refine mx_all_cons (mo_st) ?_
  refine mx_all_cons (mo_st) ?_
  refine mx_all_cons (mo_st) ?_
  refine mx_all_cons (mo_st) ?_
  refine mx_all_cons (mo_sc) ?_
  refine mx_all_cons (mo_st) ?_
  refine mx_all_cons (mo_st) ?_
  refine mx_all_cons (mo_st) ?_
  refine mx_all_cons (mo_st) ?_
  refine mx_all_cons (mo_sc) ?_
  refine mx_all_cons (mo_st) ?_
  refine mx_all_cons (mo_st) ?_
  refine mx_all_cons (mo_st) ?_
  refine mx_all_cons (mo_st) ?_
  refine mx_all_cons (mo_sc) ?_
  refine mx_all_cons (mo_callF (sm_Hs_sporadic zz)) ?_
  refine mx_all_cons (mo_st) ?_
  refine mx_all_cons (mo_st) ?_
  refine mx_all_cons (mo_st) ?_
  refine mx_all_cons (mo_st) ?_
  refine mx_all_cons (mo_st) ?_
  refine mx_all_cons (mo_sc) ?_
  refine mx_all_cons (mo_st) ?_
  refine mx_all_cons (mo_st) ?_
  refine mx_all_cons (mo_st) ?_
  refine mx_all_cons (mo_st) ?_
  refine mx_all_cons (mo_sc) ?_
  refine mx_all_cons (mo_st) ?_
  refine mx_all_cons (mo_st) ?_
  refine mx_all_cons (mo_st) ?_
  refine mx_all_cons (mo_st) ?_
  refine mx_all_cons (mo_sc) ?_
  refine mx_all_cons (mo_callF (sm_Mo_sporadic zz)) ?_
  refine mx_all_cons (mo_br) ?_
  refine mx_all_cons (mo_st) ?_
  refine mx_all_cons (mo_ret) ?_
  refine mx_all_cons (mo_st) ?_
  refine mx_all_cons (mo_st) ?_
  refine mx_all_cons (mo_st) ?_
  refine mx_all_cons (mo_st) ?_
  refine mx_all_cons (mo_st) ?_
  refine mx_all_cons (mo_sc) ?_
  refine mx_all_cons (mo_st) ?_
  refine mx_all_cons (mo_st) ?_
  refine mx_all_cons (mo_st) ?_
  refine mx_all_cons (mo_st) ?_
  refine mx_all_cons (mo_sc) ?_
  refine mx_all_cons (mo_st) ?_
  refine mx_all_cons (mo_st) ?_
  refine mx_all_cons (mo_st) ?_
  refine mx_all_cons (mo_st) ?_
  refine mx_all_cons (mo_sc) ?_
  refine mx_all_cons (mo_st) ?_
  refine mx_all_cons (mo_st) ?_
  refine mx_all_cons (mo_st) ?_
  refine mx_all_cons (mo_st) ?_
  refine mx_all_cons (mo_sc) ?_
  refine mx_all_cons (mo_st) ?_
  refine mx_all_cons (mo_st) ?_
  refine mx_all_cons (mo_st) ?_
  refine mx_all_cons (mo_st) ?_
  refine mx_all_cons (mo_sc) ?_
  refine mx_all_cons (mo_callF (sm_Hs_event zz)) ?_
  refine mx_all_cons (mo_st) ?_
  refine mx_all_cons (mo_st) ?_
  refine mx_all_cons (mo_st) ?_
  refine mx_all_cons (mo_st) ?_
  refine mx_all_cons (mo_st) ?_
  refine mx_all_cons (mo_sc) ?_
  refine mx_all_cons (mo_st) ?_
  refine mx_all_cons (mo_st) ?_
  refine mx_all_cons (mo_st) ?_
  refine mx_all_cons (mo_st) ?_
  refine mx_all_cons (mo_sc) ?_
  refine mx_all_cons (mo_st) ?_
  refine mx_all_cons (mo_st) ?_
  refine mx_all_cons (mo_st) ?_
  refine mx_all_cons (mo_st) ?_
  refine mx_all_cons (mo_sc) ?_
  refine mx_all_cons (mo_st) ?_
  refine mx_all_cons (mo_st) ?_
  refine mx_all_cons (mo_st) ?_
  refine mx_all_cons (mo_st) ?_
  refine mx_all_cons (mo_sc) ?_
  refine mx_all_cons (mo_st) ?_
  refine mx_all_cons (mo_st) ?_
  refine mx_all_cons (mo_st) ?_
  refine mx_all_cons (mo_st) ?_
  refine mx_all_cons (mo_sc) ?_
  refine mx_all_cons (mo_callF (sm_Mo_event zz)) ?_
  refine mx_all_cons (mo_br) ?_
  refine mx_all_cons (mo_st) ?_
  refine mx_all_cons (mo_ret) ?_
  refine mx_all_cons (mo_st) ?_
  refine mx_all_cons (mo_st) ?_
  refine mx_all_cons (mo_st) ?_
  refine mx_all_cons (mo_st) ?_
  refine mx_all_cons (mo_st) ?_
  refine mx_all_cons (mo_sc) ?_
  refine mx_all_cons (mo_st) ?_
  refine mx_all_cons (mo_st) ?_
  refine mx_all_cons (mo_st) ?_
  refine mx_all_cons (mo_st) ?_
  refine mx_all_cons (mo_sc) ?_
  refine mx_all_cons (mo_st) ?_
  refine mx_all_cons (mo_st) ?_
  refine mx_all_cons (mo_st) ?_
  refine mx_all_cons (mo_st) ?_
  refine mx_all_cons (mo_sc) ?_
  refine mx_all_cons (mo_st) ?_
  refine mx_all_cons (mo_st) ?_
  refine mx_all_cons (mo_st) ?_
  refine mx_all_cons (mo_st) ?_
  refine mx_all_cons (mo_sc) ?_
  refine mx_all_cons (mo_callF (sm_Hs_entry zz)) ?_
  refine mx_all_cons (mo_st) ?_
  refine mx_all_cons (mo_st) ?_
  refine mx_all_cons (mo_st) ?_
  refine mx_all_cons (mo_st) ?_
  refine mx_all_cons (mo_st) ?_
  refine mx_all_cons (mo_sc) ?_
  refine mx_all_cons (mo_st) ?_
  refine mx_all_cons (mo_st) ?_
  refine mx_all_cons (mo_st) ?_
  refine mx_all_cons (mo_st) ?_
  refine mx_all_cons (mo_sc) ?_
  refine mx_all_cons (mo_st) ?_
  refine mx_all_cons (mo_st) ?_
  refine mx_all_cons (mo_st) ?_
  refine mx_all_cons (mo_st) ?_
  refine mx_all_cons (mo_sc) ?_
  refine mx_all_cons (mo_st) ?_
  refine mx_all_cons (mo_st) ?_
  refine mx_all_cons (mo_st) ?_
  refine mx_all_cons (mo_st) ?_
  refine mx_all_cons (mo_sc) ?_
  refine mx_all_cons (mo_callF (sm_Mo_entry zz)) ?_
  refine mx_all_cons (mo_br) ?_
  refine mx_all_cons (mo_st) ?_
  refine mx_all_cons (mo_ret) ?_
  refine mx_all_cons (mo_st) ?_
  refine mx_all_cons (mo_st) ?_
  refine mx_all_cons (mo_st) ?_
  refine mx_all_cons (mo_st) ?_
  refine mx_all_cons (mo_st) ?_
  refine mx_all_cons (mo_sc) ?_
  refine mx_all_cons (mo_callF (sm_Hs_start zz)) ?_
  refine mx_all_cons (mo_st) ?_
  refine mx_all_cons (mo_st) ?_
  refine mx_all_cons (mo_st) ?_
  refine mx_all_cons (mo_st) ?_
  refine mx_all_cons (mo_st) ?_
  refine mx_all_cons (mo_sc) ?_
  refine mx_all_cons (mo_callF (sm_Mo_start zz)) ?_
  refine mx_all_cons (mo_br) ?_
  refine mx_all_cons (mo_st) ?_
  refine mx_all_cons (mo_ret) ?_
  refine mx_all_cons (mo_st) ?_
  refine mx_all_cons (mo_st) ?_
  refine mx_all_cons (mo_st) ?_
  refine mx_all_cons (mo_st) ?_
  refine mx_all_cons (mo_st) ?_
  refine mx_all_cons (mo_sc) ?_
  refine mx_all_cons (mo_st) ?_
  refine mx_all_cons (mo_st) ?_
  refine mx_all_cons (mo_st) ?_
  refine mx_all_cons (mo_st) ?_
  refine mx_all_cons (mo_sc) ?_
  refine mx_all_cons (mo_callF (sm_Hs_write zz)) ?_
  refine mx_all_cons (mo_st) ?_
  refine mx_all_cons (mo_st) ?_
  refine mx_all_cons (mo_st) ?_
  refine mx_all_cons (mo_st) ?_
  refine mx_all_cons (mo_st) ?_
  refine mx_all_cons (mo_sc) ?_
  refine mx_all_cons (mo_st) ?_
  refine mx_all_cons (mo_st) ?_
  refine mx_all_cons (mo_st) ?_
  refine mx_all_cons (mo_st) ?_
  refine mx_all_cons (mo_sc) ?_
  refine mx_all_cons (mo_callF (sm_Mo_write zz)) ?_
  refine mx_all_cons (mo_br) ?_
  refine mx_all_cons (mo_st) ?_
  refine mx_all_cons (mo_ret) ?_
  refine mx_all_cons (mo_st) ?_
  refine mx_all_cons (mo_st) ?_
  refine mx_all_cons (mo_st) ?_
  refine mx_all_cons (mo_st) ?_
  refine mx_all_cons (mo_st) ?_
  refine mx_all_cons (mo_sc) ?_
  refine mx_all_cons (mo_callF (sm_Hs_read zz)) ?_
  refine mx_all_cons (mo_st) ?_
  refine mx_all_cons (mo_st) ?_
  refine mx_all_cons (mo_st) ?_
  refine mx_all_cons (mo_st) ?_
  refine mx_all_cons (mo_st) ?_
  refine mx_all_cons (mo_sc) ?_
  refine mx_all_cons (mo_callF (sm_Mo_read zz)) ?_
  refine mx_all_cons (mo_br) ?_
  refine mx_all_cons (mo_st) ?_
  refine mx_all_cons (mo_ret) ?_
  refine mx_all_cons (mo_st) ?_
  refine mx_all_cons (mo_st) ?_
  refine mx_all_cons (mo_st) ?_
  refine mx_all_cons (mo_st) ?_
  refine mx_all_cons (mo_st) ?_
  refine mx_all_cons (mo_sc) ?_
  refine mx_all_cons (mo_callF (sm_Hs_fresh zz)) ?_
  refine mx_all_cons (mo_st) ?_
  refine mx_all_cons (mo_st) ?_
  refine mx_all_cons (mo_st) ?_
  refine mx_all_cons (mo_st) ?_
  refine mx_all_cons (mo_st) ?_
  refine mx_all_cons (mo_sc) ?_
  refine mx_all_cons (mo_callF (sm_Mo_fresh zz)) ?_
  refine mx_all_cons (mo_br) ?_
  refine mx_all_cons (mo_st) ?_
  refine mx_all_cons (mo_ret) ?_
  refine mx_all_cons (mo_st) ?_
  refine mx_all_cons (mo_st) ?_
  refine mx_all_cons (mo_st) ?_
  refine mx_all_cons (mo_st) ?_
  refine mx_all_cons (mo_st) ?_
  refine mx_all_cons (mo_sc) ?_
  refine mx_all_cons (mo_callF (sm_Hs_pending zz)) ?_
  refine mx_all_cons (mo_st) ?_
  refine mx_all_cons (mo_st) ?_
  refine mx_all_cons (mo_st) ?_
  refine mx_all_cons (mo_st) ?_
  refine mx_all_cons (mo_st) ?_
  refine mx_all_cons (mo_sc) ?_
  refine mx_all_cons (mo_callF (sm_Mo_pending zz)) ?_
  refine mx_all_cons (mo_br) ?_
  refine mx_all_cons (mo_st) ?_
  refine mx_all_cons (mo_ret) ?_
  refine mx_all_cons (mo_st) ?_
  refine mx_all_cons (mo_st) ?_
  refine mx_all_cons (mo_st) ?_
  refine mx_all_cons (mo_st) ?_
  refine mx_all_cons (mo_st) ?_
  refine mx_all_cons (mo_sc) ?_
  refine mx_all_cons (mo_callF (sm_Hs_request zz)) ?_
  refine mx_all_cons (mo_st) ?_
  refine mx_all_cons (mo_st) ?_
  refine mx_all_cons (mo_st) ?_
  refine mx_all_cons (mo_st) ?_
  refine mx_all_cons (mo_st) ?_
  refine mx_all_cons (mo_sc) ?_
  refine mx_all_cons (mo_callF (sm_Mo_request zz)) ?_
  refine mx_all_cons (mo_br) ?_
  refine mx_all_cons (mo_st) ?_
  refine mx_all_cons (mo_ret) ?_
  refine mx_all_cons (mo_st) ?_
  refine mx_all_cons (mo_st) ?_
  refine mx_all_cons (mo_st) ?_
  refine mx_all_cons (mo_st) ?_
  refine mx_all_cons (mo_st) ?_
  refine mx_all_cons (mo_sc) ?_
  refine mx_all_cons (mo_st) ?_
  refine mx_all_cons (mo_st) ?_
  refine mx_all_cons (mo_st) ?_
  refine mx_all_cons (mo_st) ?_
  refine mx_all_cons (mo_sc) ?_
  refine mx_all_cons (mo_callF (sm_Hs_noise zz)) ?_
  refine mx_all_cons (mo_st) ?_
  refine mx_all_cons (mo_st) ?_
  refine mx_all_cons (mo_st) ?_
  refine mx_all_cons (mo_st) ?_
  refine mx_all_cons (mo_st) ?_
  refine mx_all_cons (mo_sc) ?_
  refine mx_all_cons (mo_st) ?_
  refine mx_all_cons (mo_st) ?_
  refine mx_all_cons (mo_st) ?_
  refine mx_all_cons (mo_st) ?_
  refine mx_all_cons (mo_sc) ?_
  refine mx_all_cons (mo_callF (sm_Mo_noise zz)) ?_
  refine mx_all_cons (mo_br) ?_
  refine mx_all_cons (mo_st) ?_
  refine mx_all_cons (mo_ret) ?_
  refine mx_all_cons (mo_st) ?_
  refine mx_all_cons (mo_callF (sm_Hs_tick zz)) ?_
  refine mx_all_cons (mo_st) ?_
  refine mx_all_cons (mo_callF (sm_Mo_tick zz)) ?_
  refine mx_all_cons (mo_br) ?_
  refine mx_all_cons (mo_st) ?_
  refine mx_all_cons (mo_ret) ?_
  refine mx_all_cons (mo_st) ?_
  refine mx_all_cons (mo_st) ?_
  refine mx_all_cons (mo_st) ?_
  refine mx_all_cons (mo_st) ?_
  refine mx_all_cons (mo_st) ?_
  refine mx_all_cons (mo_sc) ?_
  refine mx_all_cons (mo_callF (sm_Hs_bus zz)) ?_
  refine mx_all_cons (mo_st) ?_
  refine mx_all_cons (mo_st) ?_
  refine mx_all_cons (mo_st) ?_
  refine mx_all_cons (mo_st) ?_
  refine mx_all_cons (mo_st) ?_
  refine mx_all_cons (mo_sc) ?_
  refine mx_all_cons (mo_callF (sm_Mo_bus zz)) ?_
  refine mx_all_cons (mo_br) ?_
  refine mx_all_cons (mo_st) ?_
  refine mx_all_cons (mo_ret) ?_
  refine mx_all_cons (mo_st) ?_
  refine mx_all_cons (mo_st) ?_
  refine mx_all_cons (mo_st) ?_
  refine mx_all_cons (mo_st) ?_
  refine mx_all_cons (mo_st) ?_
  refine mx_all_cons (mo_sc) ?_
  refine mx_all_cons (mo_callF (sm_Hs_count zz)) ?_
  refine mx_all_cons (mo_st) ?_
  refine mx_all_cons (mo_st) ?_
  refine mx_all_cons (mo_st) ?_
  refine mx_all_cons (mo_st) ?_
  refine mx_all_cons (mo_st) ?_
  refine mx_all_cons (mo_sc) ?_
  refine mx_all_cons (mo_callF (sm_Mo_count zz)) ?_
  refine mx_all_cons (mo_br) ?_
  refine mx_all_cons (mo_st) ?_
  refine mx_all_cons (mo_ret) ?_
  refine mx_all_cons (mo_st) ?_
  refine mx_all_cons (mo_callF (sm_Hs_position zz)) ?_
  refine mx_all_cons (mo_st) ?_
  refine mx_all_cons (mo_callF (sm_Mo_position zz)) ?_
  refine mx_all_cons (mo_br) ?_
  refine mx_all_cons (mo_st) ?_
  refine mx_all_cons (mo_ret) ?_
  refine mx_all_cons (mo_st) ?_
  refine mx_all_cons (mo_callF (sm_Hs_sleep zz)) ?_
  refine mx_all_cons (mo_st) ?_
  refine mx_all_cons (mo_callF (sm_Mo_sleep zz)) ?_
  refine mx_all_cons (mo_br) ?_
  refine mx_all_cons (mo_st) ?_
  refine mx_all_cons (mo_ret) ?_
  refine mx_all_cons (mo_st) ?_
  refine mx_all_cons (mo_callF (sm_Hs_wake zz)) ?_
  refine mx_all_cons (mo_st) ?_
  refine mx_all_cons (mo_callF (sm_Mo_wake zz)) ?_
  refine mx_all_cons (mo_br) ?_
  refine mx_all_cons (mo_st) ?_
  refine mx_all_cons (mo_ret) ?_
  refine mx_all_cons (mo_st) ?_
  refine mx_all_cons (mo_st) ?_
  refine mx_all_cons (mo_st) ?_
  refine mx_all_cons (mo_ret) ?_
  exact mx_all_nil
set_option maxHeartbeats 4000000 in
set_option maxRecDepth 100000 in
theorem ok_law_tab {p : Program} {e : Env} {s : State} {m : MethodId} {below : List Frame} {meth : Method} {c : Code} (l : Launch) {b L : Nat} {xs : Nat → Int32} (zz : Nat × Nat) (C0 : lw_At p s m meth c b L xs) {D : va_G} (hK : va_K D wcl [] s) (hz : mx_Z zz (fun q => s.heap.size ≤ q) s s.heap) :
    mx_All (mx_Ok p l e room_1 s m #[Value.ref b] below meth c (lw_Z below #[Value.ref b] s) 4 wcl D (fun q => s.heap.size ≤ q) r_law) (t_law zz b L xs) := by
  have X : mx_Cx p s m #[Value.ref b] c code 4 wcl D (fun q => s.heap.size ≤ q) lw_tbl "HeaderScheduleLaw" := ⟨⟨C0.1, C0.2.1, C0.2.2.2.1, C0.2.2.2.2.1, C0.2.2.2.2.2.1⟩, hK, fun _ h => h⟩
  have hm : ∀ w ∈ mw, w.before #[Value.ref b] s = true := fun w h => C0.2.2.2.2.2.1 w (mw_in h)
  refine mx_all_cons (ok_new (C := "HeaderSchedule") (T := T_Hs) X ⟨(Nat.le_of_ble_eq_true rfl), (Nat.le_of_ble_eq_true rfl)⟩ (fun w9 h9 => mw_in (in_Hs w9 h9)) ty_Hs tyok_Hs rfl (hm _ w52) (hm _ w53) (hm _ w33) (by decide) d_Lw_law_0) ?_
  refine mx_all_cons (ok_dup X d_Lw_law_3) ?_
  refine mx_all_cons (ok_callIF X (mx_Zok_Z zz) (mx_Zn_Z zz) hz ⟨(Nat.le_of_ble_eq_true rfl), (Nat.le_of_ble_eq_true rfl)⟩ (m_Hs_init l zz) ⟨mx_cwB 0 hm w56 w54 w33 rfl rfl (by decide +kernel) ⟨(Nat.le_of_ble_eq_true rfl), (Nat.le_of_ble_eq_true rfl)⟩, rfl, (hm _ w55)⟩ d_Lw_law_4) ?_
  refine mx_all_cons (ok_astore (fun hl kk => lv_astore_n X.1.1 X.1.2.1 d_Lw_law_7 rfl hl (by decide) rfl kk) (fun hl kk => lv_astore_nN X.1.1 X.1.2.1 d_Lw_law_7 rfl hl (by decide) rfl kk)) ?_
  refine mx_all_cons (ok_new (C := "HeaderScheduleModel") (T := T_Mo) X ⟨(Nat.le_of_ble_eq_true rfl), (Nat.le_of_ble_eq_true rfl)⟩ (fun w9 h9 => mw_in (in_Mo w9 h9)) ty_Mo tyok_Mo rfl (hm _ w671) (hm _ w672) (hm _ w40) (by decide) d_Lw_law_8) ?_
  refine mx_all_cons (ok_dup X d_Lw_law_11) ?_
  refine mx_all_cons (ok_callIF X (mx_Zok_Z zz) (mx_Zn_Z zz) hz ⟨(Nat.le_of_ble_eq_true rfl), (Nat.le_of_ble_eq_true rfl)⟩ (m_Mo_init l zz) ⟨mx_cwB 0 hm w675 w673 w40 rfl rfl (by decide +kernel) ⟨(Nat.le_of_ble_eq_true rfl), (Nat.le_of_ble_eq_true rfl)⟩, rfl, (hm _ w674)⟩ d_Lw_law_12) ?_
  refine mx_all_cons (ok_astore (fun hl kk => lv_astore_n X.1.1 X.1.2.1 d_Lw_law_15 rfl hl (by decide) rfl kk) (fun hl kk => lv_astore_nN X.1.1 X.1.2.1 d_Lw_law_15 rfl hl (by decide) rfl kk)) ?_
  refine mx_all_cons (ok_push (fun kk => lv_iconst X.1.1 X.1.2.1 d_Lw_law_16 (by decide) kk)) ?_
  refine mx_all_cons (ok_istore (fun hl kk => lv_istore_n X.1.1 X.1.2.1 d_Lw_law_17 rfl hl (by decide) rfl kk)) ?_
  refine mx_all_cons (ok_iload (fun hl kk => lv_iload_n X.1.1 X.1.2.1 d_Lw_law_18 rfl hl kk)) ?_
  refine mx_all_cons (ok_aload (fun hl kk => lv_aload_n X.1.1 X.1.2.1 d_Lw_law_19 rfl hl kk) (fun hl kk => lv_aload_nN X.1.1 X.1.2.1 d_Lw_law_19 rfl hl kk)) ?_
  refine mx_all_cons (ok_slen (xs := xs) X C0.2.2.2.2.2.2.1 C0.2.2.2.2.2.2.2.1 (Nat.not_le.mpr C0.2.2.2.2.2.2.2.1) d_Lw_law_20) ?_
  refine mx_all_cons (ok_push (fun kk => lv_bipush X.1.1 X.1.2.1 d_Lw_law_21 (by decide) kk)) ?_
  refine mx_all_cons (ok_ii (fun kk => lv_isub X.1.1 X.1.2.1 d_Lw_law_23 kk)) ?_
  refine mx_all_cons (ok_icmp (fun kt kf => lv_icmp_gt X.1.1 X.1.2.1 d_Lw_law_24 (by decide) kt kf)) ?_
  refine mx_all_cons (ok_aload (fun hl kk => lv_aload_n X.1.1 X.1.2.1 d_Lw_law_27 rfl hl kk) (fun hl kk => lv_aload_nN X.1.1 X.1.2.1 d_Lw_law_27 rfl hl kk)) ?_
  refine mx_all_cons (ok_iload (fun hl kk => lv_iload_n X.1.1 X.1.2.1 d_Lw_law_28 rfl hl kk)) ?_
  refine mx_all_cons (ok_sld X C0.2.2.2.2.2.2.1 C0.2.2.2.2.2.2.2.1 (Nat.not_le.mpr C0.2.2.2.2.2.2.2.1) d_Lw_law_29) ?_
  refine mx_all_cons (ok_push (fun kk => lv_bipush X.1.1 X.1.2.1 d_Lw_law_30 (by decide) kk)) ?_
  refine mx_all_cons (ok_ii (fun kk => lv_iand X.1.1 X.1.2.1 d_Lw_law_32 kk)) ?_
  refine mx_all_cons (ok_table (N := 17) X d_Lw_law_33 (by decide) (by decide) (by decide) (by decide)) ?_
  refine mx_all_cons (ok_aload (fun hl kk => lv_aload_n X.1.1 X.1.2.1 d_Lw_law_120 rfl hl kk) (fun hl kk => lv_aload_nN X.1.1 X.1.2.1 d_Lw_law_120 rfl hl kk)) ?_
  refine mx_all_cons (ok_aload (fun hl kk => lv_aload_n X.1.1 X.1.2.1 d_Lw_law_121 rfl hl kk) (fun hl kk => lv_aload_nN X.1.1 X.1.2.1 d_Lw_law_121 rfl hl kk)) ?_
  refine mx_all_cons (ok_iload (fun hl kk => lv_iload_n X.1.1 X.1.2.1 d_Lw_law_122 rfl hl kk)) ?_
  refine mx_all_cons (ok_push (fun kk => lv_iconst X.1.1 X.1.2.1 d_Lw_law_123 (by decide) kk)) ?_
  refine mx_all_cons (ok_ii (fun kk => lv_iadd X.1.1 X.1.2.1 d_Lw_law_124 kk)) ?_
  refine mx_all_cons (ok_sld X C0.2.2.2.2.2.2.1 C0.2.2.2.2.2.2.2.1 (Nat.not_le.mpr C0.2.2.2.2.2.2.2.1) d_Lw_law_125) ?_
  refine mx_all_cons (ok_aload (fun hl kk => lv_aload_n X.1.1 X.1.2.1 d_Lw_law_126 rfl hl kk) (fun hl kk => lv_aload_nN X.1.1 X.1.2.1 d_Lw_law_126 rfl hl kk)) ?_
  refine mx_all_cons (ok_iload (fun hl kk => lv_iload_n X.1.1 X.1.2.1 d_Lw_law_127 rfl hl kk)) ?_
  refine mx_all_cons (ok_push (fun kk => lv_iconst X.1.1 X.1.2.1 d_Lw_law_128 (by decide) kk)) ?_
  refine mx_all_cons (ok_ii (fun kk => lv_iadd X.1.1 X.1.2.1 d_Lw_law_129 kk)) ?_
  refine mx_all_cons (ok_sld X C0.2.2.2.2.2.2.1 C0.2.2.2.2.2.2.2.1 (Nat.not_le.mpr C0.2.2.2.2.2.2.2.1) d_Lw_law_130) ?_
  refine mx_all_cons (ok_aload (fun hl kk => lv_aload_n X.1.1 X.1.2.1 d_Lw_law_131 rfl hl kk) (fun hl kk => lv_aload_nN X.1.1 X.1.2.1 d_Lw_law_131 rfl hl kk)) ?_
  refine mx_all_cons (ok_iload (fun hl kk => lv_iload_n X.1.1 X.1.2.1 d_Lw_law_132 rfl hl kk)) ?_
  refine mx_all_cons (ok_push (fun kk => lv_iconst X.1.1 X.1.2.1 d_Lw_law_133 (by decide) kk)) ?_
  refine mx_all_cons (ok_ii (fun kk => lv_iadd X.1.1 X.1.2.1 d_Lw_law_134 kk)) ?_
  refine mx_all_cons (ok_sld X C0.2.2.2.2.2.2.1 C0.2.2.2.2.2.2.2.1 (Nat.not_le.mpr C0.2.2.2.2.2.2.2.1) d_Lw_law_135) ?_
  refine mx_all_cons (ok_aload (fun hl kk => lv_aload_n X.1.1 X.1.2.1 d_Lw_law_136 rfl hl kk) (fun hl kk => lv_aload_nN X.1.1 X.1.2.1 d_Lw_law_136 rfl hl kk)) ?_
  refine mx_all_cons (ok_iload (fun hl kk => lv_iload_n X.1.1 X.1.2.1 d_Lw_law_137 rfl hl kk)) ?_
  refine mx_all_cons (ok_push (fun kk => lv_iconst X.1.1 X.1.2.1 d_Lw_law_138 (by decide) kk)) ?_
  refine mx_all_cons (ok_ii (fun kk => lv_iadd X.1.1 X.1.2.1 d_Lw_law_139 kk)) ?_
  refine mx_all_cons (ok_sld X C0.2.2.2.2.2.2.1 C0.2.2.2.2.2.2.2.1 (Nat.not_le.mpr C0.2.2.2.2.2.2.2.1) d_Lw_law_140) ?_
  refine mx_all_cons (ok_if (fun kt kf => lv_if_eq X.1.1 X.1.2.1 d_Lw_law_141 (by decide) kt kf)) ?_
  refine mx_all_cons (ok_push (fun kk => lv_iconst X.1.1 X.1.2.1 d_Lw_law_144 (by decide) kk)) ?_
  refine mx_all_cons (ok_goto X d_Lw_law_145 (by decide)) ?_
  refine mx_all_cons (ok_push (fun kk => lv_iconst X.1.1 X.1.2.1 d_Lw_law_148 (by decide) kk)) ?_
  refine mx_all_cons (ok_callVF (C := "HeaderSchedule") (T := T_Hs) (N := 11) X (mx_Zok_Z zz) (mx_Zn_Z zz) hz ⟨(Nat.le_of_ble_eq_true rfl), (Nat.le_of_ble_eq_true rfl)⟩ (m_Hs_frame l zz) ⟨mx_cwB 4 hm w195 w192 w33 rfl rfl (by decide +kernel) ⟨(Nat.le_of_ble_eq_true rfl), (Nat.le_of_ble_eq_true rfl)⟩, (hm _ w193), hm _ w194⟩ rfl d_Lw_law_149) ?_
  refine mx_all_cons (ok_aload (fun hl kk => lv_aload_n X.1.1 X.1.2.1 d_Lw_law_152 rfl hl kk) (fun hl kk => lv_aload_nN X.1.1 X.1.2.1 d_Lw_law_152 rfl hl kk)) ?_
  refine mx_all_cons (ok_aload (fun hl kk => lv_aload_n X.1.1 X.1.2.1 d_Lw_law_153 rfl hl kk) (fun hl kk => lv_aload_nN X.1.1 X.1.2.1 d_Lw_law_153 rfl hl kk)) ?_
  refine mx_all_cons (ok_iload (fun hl kk => lv_iload_n X.1.1 X.1.2.1 d_Lw_law_154 rfl hl kk)) ?_
  refine mx_all_cons (ok_push (fun kk => lv_iconst X.1.1 X.1.2.1 d_Lw_law_155 (by decide) kk)) ?_
  refine mx_all_cons (ok_ii (fun kk => lv_iadd X.1.1 X.1.2.1 d_Lw_law_156 kk)) ?_
  refine mx_all_cons (ok_sld X C0.2.2.2.2.2.2.1 C0.2.2.2.2.2.2.2.1 (Nat.not_le.mpr C0.2.2.2.2.2.2.2.1) d_Lw_law_157) ?_
  refine mx_all_cons (ok_aload (fun hl kk => lv_aload_n X.1.1 X.1.2.1 d_Lw_law_158 rfl hl kk) (fun hl kk => lv_aload_nN X.1.1 X.1.2.1 d_Lw_law_158 rfl hl kk)) ?_
  refine mx_all_cons (ok_iload (fun hl kk => lv_iload_n X.1.1 X.1.2.1 d_Lw_law_159 rfl hl kk)) ?_
  refine mx_all_cons (ok_push (fun kk => lv_iconst X.1.1 X.1.2.1 d_Lw_law_160 (by decide) kk)) ?_
  refine mx_all_cons (ok_ii (fun kk => lv_iadd X.1.1 X.1.2.1 d_Lw_law_161 kk)) ?_
  refine mx_all_cons (ok_sld X C0.2.2.2.2.2.2.1 C0.2.2.2.2.2.2.2.1 (Nat.not_le.mpr C0.2.2.2.2.2.2.2.1) d_Lw_law_162) ?_
  refine mx_all_cons (ok_aload (fun hl kk => lv_aload_n X.1.1 X.1.2.1 d_Lw_law_163 rfl hl kk) (fun hl kk => lv_aload_nN X.1.1 X.1.2.1 d_Lw_law_163 rfl hl kk)) ?_
  refine mx_all_cons (ok_iload (fun hl kk => lv_iload_n X.1.1 X.1.2.1 d_Lw_law_164 rfl hl kk)) ?_
  refine mx_all_cons (ok_push (fun kk => lv_iconst X.1.1 X.1.2.1 d_Lw_law_165 (by decide) kk)) ?_
  refine mx_all_cons (ok_ii (fun kk => lv_iadd X.1.1 X.1.2.1 d_Lw_law_166 kk)) ?_
  refine mx_all_cons (ok_sld X C0.2.2.2.2.2.2.1 C0.2.2.2.2.2.2.2.1 (Nat.not_le.mpr C0.2.2.2.2.2.2.2.1) d_Lw_law_167) ?_
  refine mx_all_cons (ok_aload (fun hl kk => lv_aload_n X.1.1 X.1.2.1 d_Lw_law_168 rfl hl kk) (fun hl kk => lv_aload_nN X.1.1 X.1.2.1 d_Lw_law_168 rfl hl kk)) ?_
  refine mx_all_cons (ok_iload (fun hl kk => lv_iload_n X.1.1 X.1.2.1 d_Lw_law_169 rfl hl kk)) ?_
  refine mx_all_cons (ok_push (fun kk => lv_iconst X.1.1 X.1.2.1 d_Lw_law_170 (by decide) kk)) ?_
  refine mx_all_cons (ok_ii (fun kk => lv_iadd X.1.1 X.1.2.1 d_Lw_law_171 kk)) ?_
  refine mx_all_cons (ok_sld X C0.2.2.2.2.2.2.1 C0.2.2.2.2.2.2.2.1 (Nat.not_le.mpr C0.2.2.2.2.2.2.2.1) d_Lw_law_172) ?_
  refine mx_all_cons (ok_if (fun kt kf => lv_if_eq X.1.1 X.1.2.1 d_Lw_law_173 (by decide) kt kf)) ?_
  refine mx_all_cons (ok_push (fun kk => lv_iconst X.1.1 X.1.2.1 d_Lw_law_176 (by decide) kk)) ?_
  refine mx_all_cons (ok_goto X d_Lw_law_177 (by decide)) ?_
  refine mx_all_cons (ok_push (fun kk => lv_iconst X.1.1 X.1.2.1 d_Lw_law_180 (by decide) kk)) ?_
  refine mx_all_cons (ok_callVF (C := "HeaderScheduleModel") (T := T_Mo) (N := 40) X (mx_Zok_Z zz) (mx_Zn_Z zz) hz ⟨(Nat.le_of_ble_eq_true rfl), (Nat.le_of_ble_eq_true rfl)⟩ (m_Mo_frame l zz) ⟨mx_cwB 4 hm w801 w798 w40 rfl rfl (by decide +kernel) ⟨(Nat.le_of_ble_eq_true rfl), (Nat.le_of_ble_eq_true rfl)⟩, (hm _ w799), hm _ w800⟩ rfl d_Lw_law_181) ?_
  refine mx_all_cons (ok_icmp (fun kt kf => lv_icmp_eq X.1.1 X.1.2.1 d_Lw_law_184 (by decide) kt kf)) ?_
  refine mx_all_cons (ok_push (fun kk => lv_iconst X.1.1 X.1.2.1 d_Lw_law_187 (by decide) kk)) ?_
  refine mx_all_cons (ok_lawret X rfl C0.2.2.1 C0.2.2.2.2.2.2.2.2.1 (by exact C0.2.1) d_Lw_law_188) ?_
  refine mx_all_cons (ok_aload (fun hl kk => lv_aload_n X.1.1 X.1.2.1 d_Lw_law_189 rfl hl kk) (fun hl kk => lv_aload_nN X.1.1 X.1.2.1 d_Lw_law_189 rfl hl kk)) ?_
  refine mx_all_cons (ok_aload (fun hl kk => lv_aload_n X.1.1 X.1.2.1 d_Lw_law_190 rfl hl kk) (fun hl kk => lv_aload_nN X.1.1 X.1.2.1 d_Lw_law_190 rfl hl kk)) ?_
  refine mx_all_cons (ok_iload (fun hl kk => lv_iload_n X.1.1 X.1.2.1 d_Lw_law_191 rfl hl kk)) ?_
  refine mx_all_cons (ok_push (fun kk => lv_iconst X.1.1 X.1.2.1 d_Lw_law_192 (by decide) kk)) ?_
  refine mx_all_cons (ok_ii (fun kk => lv_iadd X.1.1 X.1.2.1 d_Lw_law_193 kk)) ?_
  refine mx_all_cons (ok_sld X C0.2.2.2.2.2.2.1 C0.2.2.2.2.2.2.2.1 (Nat.not_le.mpr C0.2.2.2.2.2.2.2.1) d_Lw_law_194) ?_
  refine mx_all_cons (ok_aload (fun hl kk => lv_aload_n X.1.1 X.1.2.1 d_Lw_law_195 rfl hl kk) (fun hl kk => lv_aload_nN X.1.1 X.1.2.1 d_Lw_law_195 rfl hl kk)) ?_
  refine mx_all_cons (ok_iload (fun hl kk => lv_iload_n X.1.1 X.1.2.1 d_Lw_law_196 rfl hl kk)) ?_
  refine mx_all_cons (ok_push (fun kk => lv_iconst X.1.1 X.1.2.1 d_Lw_law_197 (by decide) kk)) ?_
  refine mx_all_cons (ok_ii (fun kk => lv_iadd X.1.1 X.1.2.1 d_Lw_law_198 kk)) ?_
  refine mx_all_cons (ok_sld X C0.2.2.2.2.2.2.1 C0.2.2.2.2.2.2.2.1 (Nat.not_le.mpr C0.2.2.2.2.2.2.2.1) d_Lw_law_199) ?_
  refine mx_all_cons (ok_aload (fun hl kk => lv_aload_n X.1.1 X.1.2.1 d_Lw_law_200 rfl hl kk) (fun hl kk => lv_aload_nN X.1.1 X.1.2.1 d_Lw_law_200 rfl hl kk)) ?_
  refine mx_all_cons (ok_iload (fun hl kk => lv_iload_n X.1.1 X.1.2.1 d_Lw_law_201 rfl hl kk)) ?_
  refine mx_all_cons (ok_push (fun kk => lv_iconst X.1.1 X.1.2.1 d_Lw_law_202 (by decide) kk)) ?_
  refine mx_all_cons (ok_ii (fun kk => lv_iadd X.1.1 X.1.2.1 d_Lw_law_203 kk)) ?_
  refine mx_all_cons (ok_sld X C0.2.2.2.2.2.2.1 C0.2.2.2.2.2.2.2.1 (Nat.not_le.mpr C0.2.2.2.2.2.2.2.1) d_Lw_law_204) ?_
  refine mx_all_cons (ok_aload (fun hl kk => lv_aload_n X.1.1 X.1.2.1 d_Lw_law_205 rfl hl kk) (fun hl kk => lv_aload_nN X.1.1 X.1.2.1 d_Lw_law_205 rfl hl kk)) ?_
  refine mx_all_cons (ok_iload (fun hl kk => lv_iload_n X.1.1 X.1.2.1 d_Lw_law_206 rfl hl kk)) ?_
  refine mx_all_cons (ok_push (fun kk => lv_iconst X.1.1 X.1.2.1 d_Lw_law_207 (by decide) kk)) ?_
  refine mx_all_cons (ok_ii (fun kk => lv_iadd X.1.1 X.1.2.1 d_Lw_law_208 kk)) ?_
  refine mx_all_cons (ok_sld X C0.2.2.2.2.2.2.1 C0.2.2.2.2.2.2.2.1 (Nat.not_le.mpr C0.2.2.2.2.2.2.2.1) d_Lw_law_209) ?_
  refine mx_all_cons (ok_callVF (C := "HeaderSchedule") (T := T_Hs) (N := 11) X (mx_Zok_Z zz) (mx_Zn_Z zz) hz ⟨(Nat.le_of_ble_eq_true rfl), (Nat.le_of_ble_eq_true rfl)⟩ (m_Hs_signal l zz) ⟨mx_cwB 4 hm w318 w315 w33 rfl rfl (by decide +kernel) ⟨(Nat.le_of_ble_eq_true rfl), (Nat.le_of_ble_eq_true rfl)⟩, (hm _ w316), hm _ w317⟩ rfl d_Lw_law_210) ?_
  refine mx_all_cons (ok_aload (fun hl kk => lv_aload_n X.1.1 X.1.2.1 d_Lw_law_213 rfl hl kk) (fun hl kk => lv_aload_nN X.1.1 X.1.2.1 d_Lw_law_213 rfl hl kk)) ?_
  refine mx_all_cons (ok_aload (fun hl kk => lv_aload_n X.1.1 X.1.2.1 d_Lw_law_214 rfl hl kk) (fun hl kk => lv_aload_nN X.1.1 X.1.2.1 d_Lw_law_214 rfl hl kk)) ?_
  refine mx_all_cons (ok_iload (fun hl kk => lv_iload_n X.1.1 X.1.2.1 d_Lw_law_215 rfl hl kk)) ?_
  refine mx_all_cons (ok_push (fun kk => lv_iconst X.1.1 X.1.2.1 d_Lw_law_216 (by decide) kk)) ?_
  refine mx_all_cons (ok_ii (fun kk => lv_iadd X.1.1 X.1.2.1 d_Lw_law_217 kk)) ?_
  refine mx_all_cons (ok_sld X C0.2.2.2.2.2.2.1 C0.2.2.2.2.2.2.2.1 (Nat.not_le.mpr C0.2.2.2.2.2.2.2.1) d_Lw_law_218) ?_
  refine mx_all_cons (ok_aload (fun hl kk => lv_aload_n X.1.1 X.1.2.1 d_Lw_law_219 rfl hl kk) (fun hl kk => lv_aload_nN X.1.1 X.1.2.1 d_Lw_law_219 rfl hl kk)) ?_
  refine mx_all_cons (ok_iload (fun hl kk => lv_iload_n X.1.1 X.1.2.1 d_Lw_law_220 rfl hl kk)) ?_
  refine mx_all_cons (ok_push (fun kk => lv_iconst X.1.1 X.1.2.1 d_Lw_law_221 (by decide) kk)) ?_
  refine mx_all_cons (ok_ii (fun kk => lv_iadd X.1.1 X.1.2.1 d_Lw_law_222 kk)) ?_
  refine mx_all_cons (ok_sld X C0.2.2.2.2.2.2.1 C0.2.2.2.2.2.2.2.1 (Nat.not_le.mpr C0.2.2.2.2.2.2.2.1) d_Lw_law_223) ?_
  refine mx_all_cons (ok_aload (fun hl kk => lv_aload_n X.1.1 X.1.2.1 d_Lw_law_224 rfl hl kk) (fun hl kk => lv_aload_nN X.1.1 X.1.2.1 d_Lw_law_224 rfl hl kk)) ?_
  refine mx_all_cons (ok_iload (fun hl kk => lv_iload_n X.1.1 X.1.2.1 d_Lw_law_225 rfl hl kk)) ?_
  refine mx_all_cons (ok_push (fun kk => lv_iconst X.1.1 X.1.2.1 d_Lw_law_226 (by decide) kk)) ?_
  refine mx_all_cons (ok_ii (fun kk => lv_iadd X.1.1 X.1.2.1 d_Lw_law_227 kk)) ?_
  refine mx_all_cons (ok_sld X C0.2.2.2.2.2.2.1 C0.2.2.2.2.2.2.2.1 (Nat.not_le.mpr C0.2.2.2.2.2.2.2.1) d_Lw_law_228) ?_
  refine mx_all_cons (ok_aload (fun hl kk => lv_aload_n X.1.1 X.1.2.1 d_Lw_law_229 rfl hl kk) (fun hl kk => lv_aload_nN X.1.1 X.1.2.1 d_Lw_law_229 rfl hl kk)) ?_
  refine mx_all_cons (ok_iload (fun hl kk => lv_iload_n X.1.1 X.1.2.1 d_Lw_law_230 rfl hl kk)) ?_
  refine mx_all_cons (ok_push (fun kk => lv_iconst X.1.1 X.1.2.1 d_Lw_law_231 (by decide) kk)) ?_
  refine mx_all_cons (ok_ii (fun kk => lv_iadd X.1.1 X.1.2.1 d_Lw_law_232 kk)) ?_
  refine mx_all_cons (ok_sld X C0.2.2.2.2.2.2.1 C0.2.2.2.2.2.2.2.1 (Nat.not_le.mpr C0.2.2.2.2.2.2.2.1) d_Lw_law_233) ?_
  refine mx_all_cons (ok_callVF (C := "HeaderScheduleModel") (T := T_Mo) (N := 40) X (mx_Zok_Z zz) (mx_Zn_Z zz) hz ⟨(Nat.le_of_ble_eq_true rfl), (Nat.le_of_ble_eq_true rfl)⟩ (m_Mo_signal l zz) ⟨mx_cwB 4 hm w812 w809 w40 rfl rfl (by decide +kernel) ⟨(Nat.le_of_ble_eq_true rfl), (Nat.le_of_ble_eq_true rfl)⟩, (hm _ w810), hm _ w811⟩ rfl d_Lw_law_234) ?_
  refine mx_all_cons (ok_icmp (fun kt kf => lv_icmp_eq X.1.1 X.1.2.1 d_Lw_law_237 (by decide) kt kf)) ?_
  refine mx_all_cons (ok_push (fun kk => lv_iconst X.1.1 X.1.2.1 d_Lw_law_240 (by decide) kk)) ?_
  refine mx_all_cons (ok_lawret X rfl C0.2.2.1 C0.2.2.2.2.2.2.2.2.1 (by exact C0.2.1) d_Lw_law_241) ?_
  refine mx_all_cons (ok_aload (fun hl kk => lv_aload_n X.1.1 X.1.2.1 d_Lw_law_242 rfl hl kk) (fun hl kk => lv_aload_nN X.1.1 X.1.2.1 d_Lw_law_242 rfl hl kk)) ?_
  refine mx_all_cons (ok_aload (fun hl kk => lv_aload_n X.1.1 X.1.2.1 d_Lw_law_243 rfl hl kk) (fun hl kk => lv_aload_nN X.1.1 X.1.2.1 d_Lw_law_243 rfl hl kk)) ?_
  refine mx_all_cons (ok_iload (fun hl kk => lv_iload_n X.1.1 X.1.2.1 d_Lw_law_244 rfl hl kk)) ?_
  refine mx_all_cons (ok_push (fun kk => lv_iconst X.1.1 X.1.2.1 d_Lw_law_245 (by decide) kk)) ?_
  refine mx_all_cons (ok_ii (fun kk => lv_iadd X.1.1 X.1.2.1 d_Lw_law_246 kk)) ?_
  refine mx_all_cons (ok_sld X C0.2.2.2.2.2.2.1 C0.2.2.2.2.2.2.2.1 (Nat.not_le.mpr C0.2.2.2.2.2.2.2.1) d_Lw_law_247) ?_
  refine mx_all_cons (ok_aload (fun hl kk => lv_aload_n X.1.1 X.1.2.1 d_Lw_law_248 rfl hl kk) (fun hl kk => lv_aload_nN X.1.1 X.1.2.1 d_Lw_law_248 rfl hl kk)) ?_
  refine mx_all_cons (ok_iload (fun hl kk => lv_iload_n X.1.1 X.1.2.1 d_Lw_law_249 rfl hl kk)) ?_
  refine mx_all_cons (ok_push (fun kk => lv_iconst X.1.1 X.1.2.1 d_Lw_law_250 (by decide) kk)) ?_
  refine mx_all_cons (ok_ii (fun kk => lv_iadd X.1.1 X.1.2.1 d_Lw_law_251 kk)) ?_
  refine mx_all_cons (ok_sld X C0.2.2.2.2.2.2.1 C0.2.2.2.2.2.2.2.1 (Nat.not_le.mpr C0.2.2.2.2.2.2.2.1) d_Lw_law_252) ?_
  refine mx_all_cons (ok_aload (fun hl kk => lv_aload_n X.1.1 X.1.2.1 d_Lw_law_253 rfl hl kk) (fun hl kk => lv_aload_nN X.1.1 X.1.2.1 d_Lw_law_253 rfl hl kk)) ?_
  refine mx_all_cons (ok_iload (fun hl kk => lv_iload_n X.1.1 X.1.2.1 d_Lw_law_254 rfl hl kk)) ?_
  refine mx_all_cons (ok_push (fun kk => lv_iconst X.1.1 X.1.2.1 d_Lw_law_255 (by decide) kk)) ?_
  refine mx_all_cons (ok_ii (fun kk => lv_iadd X.1.1 X.1.2.1 d_Lw_law_256 kk)) ?_
  refine mx_all_cons (ok_sld X C0.2.2.2.2.2.2.1 C0.2.2.2.2.2.2.2.1 (Nat.not_le.mpr C0.2.2.2.2.2.2.2.1) d_Lw_law_257) ?_
  refine mx_all_cons (ok_callVF (C := "HeaderSchedule") (T := T_Hs) (N := 11) X (mx_Zok_Z zz) (mx_Zn_Z zz) hz ⟨(Nat.le_of_ble_eq_true rfl), (Nat.le_of_ble_eq_true rfl)⟩ (m_Hs_sporadic l zz) ⟨mx_cwB 3 hm w383 w380 w33 rfl rfl (by decide +kernel) ⟨(Nat.le_of_ble_eq_true rfl), (Nat.le_of_ble_eq_true rfl)⟩, (hm _ w381), hm _ w382⟩ rfl d_Lw_law_258) ?_
  refine mx_all_cons (ok_aload (fun hl kk => lv_aload_n X.1.1 X.1.2.1 d_Lw_law_261 rfl hl kk) (fun hl kk => lv_aload_nN X.1.1 X.1.2.1 d_Lw_law_261 rfl hl kk)) ?_
  refine mx_all_cons (ok_aload (fun hl kk => lv_aload_n X.1.1 X.1.2.1 d_Lw_law_262 rfl hl kk) (fun hl kk => lv_aload_nN X.1.1 X.1.2.1 d_Lw_law_262 rfl hl kk)) ?_
  refine mx_all_cons (ok_iload (fun hl kk => lv_iload_n X.1.1 X.1.2.1 d_Lw_law_263 rfl hl kk)) ?_
  refine mx_all_cons (ok_push (fun kk => lv_iconst X.1.1 X.1.2.1 d_Lw_law_264 (by decide) kk)) ?_
  refine mx_all_cons (ok_ii (fun kk => lv_iadd X.1.1 X.1.2.1 d_Lw_law_265 kk)) ?_
  refine mx_all_cons (ok_sld X C0.2.2.2.2.2.2.1 C0.2.2.2.2.2.2.2.1 (Nat.not_le.mpr C0.2.2.2.2.2.2.2.1) d_Lw_law_266) ?_
  refine mx_all_cons (ok_aload (fun hl kk => lv_aload_n X.1.1 X.1.2.1 d_Lw_law_267 rfl hl kk) (fun hl kk => lv_aload_nN X.1.1 X.1.2.1 d_Lw_law_267 rfl hl kk)) ?_
  refine mx_all_cons (ok_iload (fun hl kk => lv_iload_n X.1.1 X.1.2.1 d_Lw_law_268 rfl hl kk)) ?_
  refine mx_all_cons (ok_push (fun kk => lv_iconst X.1.1 X.1.2.1 d_Lw_law_269 (by decide) kk)) ?_
  refine mx_all_cons (ok_ii (fun kk => lv_iadd X.1.1 X.1.2.1 d_Lw_law_270 kk)) ?_
  refine mx_all_cons (ok_sld X C0.2.2.2.2.2.2.1 C0.2.2.2.2.2.2.2.1 (Nat.not_le.mpr C0.2.2.2.2.2.2.2.1) d_Lw_law_271) ?_
  refine mx_all_cons (ok_aload (fun hl kk => lv_aload_n X.1.1 X.1.2.1 d_Lw_law_272 rfl hl kk) (fun hl kk => lv_aload_nN X.1.1 X.1.2.1 d_Lw_law_272 rfl hl kk)) ?_
  refine mx_all_cons (ok_iload (fun hl kk => lv_iload_n X.1.1 X.1.2.1 d_Lw_law_273 rfl hl kk)) ?_
  refine mx_all_cons (ok_push (fun kk => lv_iconst X.1.1 X.1.2.1 d_Lw_law_274 (by decide) kk)) ?_
  refine mx_all_cons (ok_ii (fun kk => lv_iadd X.1.1 X.1.2.1 d_Lw_law_275 kk)) ?_
  refine mx_all_cons (ok_sld X C0.2.2.2.2.2.2.1 C0.2.2.2.2.2.2.2.1 (Nat.not_le.mpr C0.2.2.2.2.2.2.2.1) d_Lw_law_276) ?_
  refine mx_all_cons (ok_callVF (C := "HeaderScheduleModel") (T := T_Mo) (N := 40) X (mx_Zok_Z zz) (mx_Zn_Z zz) hz ⟨(Nat.le_of_ble_eq_true rfl), (Nat.le_of_ble_eq_true rfl)⟩ (m_Mo_sporadic l zz) ⟨mx_cwB 3 hm w824 w821 w40 rfl rfl (by decide +kernel) ⟨(Nat.le_of_ble_eq_true rfl), (Nat.le_of_ble_eq_true rfl)⟩, (hm _ w822), hm _ w823⟩ rfl d_Lw_law_277) ?_
  refine mx_all_cons (ok_icmp (fun kt kf => lv_icmp_eq X.1.1 X.1.2.1 d_Lw_law_280 (by decide) kt kf)) ?_
  refine mx_all_cons (ok_push (fun kk => lv_iconst X.1.1 X.1.2.1 d_Lw_law_283 (by decide) kk)) ?_
  refine mx_all_cons (ok_lawret X rfl C0.2.2.1 C0.2.2.2.2.2.2.2.2.1 (by exact C0.2.1) d_Lw_law_284) ?_
  refine mx_all_cons (ok_aload (fun hl kk => lv_aload_n X.1.1 X.1.2.1 d_Lw_law_285 rfl hl kk) (fun hl kk => lv_aload_nN X.1.1 X.1.2.1 d_Lw_law_285 rfl hl kk)) ?_
  refine mx_all_cons (ok_aload (fun hl kk => lv_aload_n X.1.1 X.1.2.1 d_Lw_law_286 rfl hl kk) (fun hl kk => lv_aload_nN X.1.1 X.1.2.1 d_Lw_law_286 rfl hl kk)) ?_
  refine mx_all_cons (ok_iload (fun hl kk => lv_iload_n X.1.1 X.1.2.1 d_Lw_law_287 rfl hl kk)) ?_
  refine mx_all_cons (ok_push (fun kk => lv_iconst X.1.1 X.1.2.1 d_Lw_law_288 (by decide) kk)) ?_
  refine mx_all_cons (ok_ii (fun kk => lv_iadd X.1.1 X.1.2.1 d_Lw_law_289 kk)) ?_
  refine mx_all_cons (ok_sld X C0.2.2.2.2.2.2.1 C0.2.2.2.2.2.2.2.1 (Nat.not_le.mpr C0.2.2.2.2.2.2.2.1) d_Lw_law_290) ?_
  refine mx_all_cons (ok_aload (fun hl kk => lv_aload_n X.1.1 X.1.2.1 d_Lw_law_291 rfl hl kk) (fun hl kk => lv_aload_nN X.1.1 X.1.2.1 d_Lw_law_291 rfl hl kk)) ?_
  refine mx_all_cons (ok_iload (fun hl kk => lv_iload_n X.1.1 X.1.2.1 d_Lw_law_292 rfl hl kk)) ?_
  refine mx_all_cons (ok_push (fun kk => lv_iconst X.1.1 X.1.2.1 d_Lw_law_293 (by decide) kk)) ?_
  refine mx_all_cons (ok_ii (fun kk => lv_iadd X.1.1 X.1.2.1 d_Lw_law_294 kk)) ?_
  refine mx_all_cons (ok_sld X C0.2.2.2.2.2.2.1 C0.2.2.2.2.2.2.2.1 (Nat.not_le.mpr C0.2.2.2.2.2.2.2.1) d_Lw_law_295) ?_
  refine mx_all_cons (ok_aload (fun hl kk => lv_aload_n X.1.1 X.1.2.1 d_Lw_law_296 rfl hl kk) (fun hl kk => lv_aload_nN X.1.1 X.1.2.1 d_Lw_law_296 rfl hl kk)) ?_
  refine mx_all_cons (ok_iload (fun hl kk => lv_iload_n X.1.1 X.1.2.1 d_Lw_law_297 rfl hl kk)) ?_
  refine mx_all_cons (ok_push (fun kk => lv_iconst X.1.1 X.1.2.1 d_Lw_law_298 (by decide) kk)) ?_
  refine mx_all_cons (ok_ii (fun kk => lv_iadd X.1.1 X.1.2.1 d_Lw_law_299 kk)) ?_
  refine mx_all_cons (ok_sld X C0.2.2.2.2.2.2.1 C0.2.2.2.2.2.2.2.1 (Nat.not_le.mpr C0.2.2.2.2.2.2.2.1) d_Lw_law_300) ?_
  refine mx_all_cons (ok_aload (fun hl kk => lv_aload_n X.1.1 X.1.2.1 d_Lw_law_301 rfl hl kk) (fun hl kk => lv_aload_nN X.1.1 X.1.2.1 d_Lw_law_301 rfl hl kk)) ?_
  refine mx_all_cons (ok_iload (fun hl kk => lv_iload_n X.1.1 X.1.2.1 d_Lw_law_302 rfl hl kk)) ?_
  refine mx_all_cons (ok_push (fun kk => lv_iconst X.1.1 X.1.2.1 d_Lw_law_303 (by decide) kk)) ?_
  refine mx_all_cons (ok_ii (fun kk => lv_iadd X.1.1 X.1.2.1 d_Lw_law_304 kk)) ?_
  refine mx_all_cons (ok_sld X C0.2.2.2.2.2.2.1 C0.2.2.2.2.2.2.2.1 (Nat.not_le.mpr C0.2.2.2.2.2.2.2.1) d_Lw_law_305) ?_
  refine mx_all_cons (ok_aload (fun hl kk => lv_aload_n X.1.1 X.1.2.1 d_Lw_law_306 rfl hl kk) (fun hl kk => lv_aload_nN X.1.1 X.1.2.1 d_Lw_law_306 rfl hl kk)) ?_
  refine mx_all_cons (ok_iload (fun hl kk => lv_iload_n X.1.1 X.1.2.1 d_Lw_law_307 rfl hl kk)) ?_
  refine mx_all_cons (ok_push (fun kk => lv_iconst X.1.1 X.1.2.1 d_Lw_law_308 (by decide) kk)) ?_
  refine mx_all_cons (ok_ii (fun kk => lv_iadd X.1.1 X.1.2.1 d_Lw_law_309 kk)) ?_
  refine mx_all_cons (ok_sld X C0.2.2.2.2.2.2.1 C0.2.2.2.2.2.2.2.1 (Nat.not_le.mpr C0.2.2.2.2.2.2.2.1) d_Lw_law_310) ?_
  refine mx_all_cons (ok_callVF (C := "HeaderSchedule") (T := T_Hs) (N := 11) X (mx_Zok_Z zz) (mx_Zn_Z zz) hz ⟨(Nat.le_of_ble_eq_true rfl), (Nat.le_of_ble_eq_true rfl)⟩ (m_Hs_event l zz) ⟨mx_cwB 5 hm w406 w403 w33 rfl rfl (by decide +kernel) ⟨(Nat.le_of_ble_eq_true rfl), (Nat.le_of_ble_eq_true rfl)⟩, (hm _ w404), hm _ w405⟩ rfl d_Lw_law_311) ?_
  refine mx_all_cons (ok_aload (fun hl kk => lv_aload_n X.1.1 X.1.2.1 d_Lw_law_314 rfl hl kk) (fun hl kk => lv_aload_nN X.1.1 X.1.2.1 d_Lw_law_314 rfl hl kk)) ?_
  refine mx_all_cons (ok_aload (fun hl kk => lv_aload_n X.1.1 X.1.2.1 d_Lw_law_315 rfl hl kk) (fun hl kk => lv_aload_nN X.1.1 X.1.2.1 d_Lw_law_315 rfl hl kk)) ?_
  refine mx_all_cons (ok_iload (fun hl kk => lv_iload_n X.1.1 X.1.2.1 d_Lw_law_316 rfl hl kk)) ?_
  refine mx_all_cons (ok_push (fun kk => lv_iconst X.1.1 X.1.2.1 d_Lw_law_317 (by decide) kk)) ?_
  refine mx_all_cons (ok_ii (fun kk => lv_iadd X.1.1 X.1.2.1 d_Lw_law_318 kk)) ?_
  refine mx_all_cons (ok_sld X C0.2.2.2.2.2.2.1 C0.2.2.2.2.2.2.2.1 (Nat.not_le.mpr C0.2.2.2.2.2.2.2.1) d_Lw_law_319) ?_
  refine mx_all_cons (ok_aload (fun hl kk => lv_aload_n X.1.1 X.1.2.1 d_Lw_law_320 rfl hl kk) (fun hl kk => lv_aload_nN X.1.1 X.1.2.1 d_Lw_law_320 rfl hl kk)) ?_
  refine mx_all_cons (ok_iload (fun hl kk => lv_iload_n X.1.1 X.1.2.1 d_Lw_law_321 rfl hl kk)) ?_
  refine mx_all_cons (ok_push (fun kk => lv_iconst X.1.1 X.1.2.1 d_Lw_law_322 (by decide) kk)) ?_
  refine mx_all_cons (ok_ii (fun kk => lv_iadd X.1.1 X.1.2.1 d_Lw_law_323 kk)) ?_
  refine mx_all_cons (ok_sld X C0.2.2.2.2.2.2.1 C0.2.2.2.2.2.2.2.1 (Nat.not_le.mpr C0.2.2.2.2.2.2.2.1) d_Lw_law_324) ?_
  refine mx_all_cons (ok_aload (fun hl kk => lv_aload_n X.1.1 X.1.2.1 d_Lw_law_325 rfl hl kk) (fun hl kk => lv_aload_nN X.1.1 X.1.2.1 d_Lw_law_325 rfl hl kk)) ?_
  refine mx_all_cons (ok_iload (fun hl kk => lv_iload_n X.1.1 X.1.2.1 d_Lw_law_326 rfl hl kk)) ?_
  refine mx_all_cons (ok_push (fun kk => lv_iconst X.1.1 X.1.2.1 d_Lw_law_327 (by decide) kk)) ?_
  refine mx_all_cons (ok_ii (fun kk => lv_iadd X.1.1 X.1.2.1 d_Lw_law_328 kk)) ?_
  refine mx_all_cons (ok_sld X C0.2.2.2.2.2.2.1 C0.2.2.2.2.2.2.2.1 (Nat.not_le.mpr C0.2.2.2.2.2.2.2.1) d_Lw_law_329) ?_
  refine mx_all_cons (ok_aload (fun hl kk => lv_aload_n X.1.1 X.1.2.1 d_Lw_law_330 rfl hl kk) (fun hl kk => lv_aload_nN X.1.1 X.1.2.1 d_Lw_law_330 rfl hl kk)) ?_
  refine mx_all_cons (ok_iload (fun hl kk => lv_iload_n X.1.1 X.1.2.1 d_Lw_law_331 rfl hl kk)) ?_
  refine mx_all_cons (ok_push (fun kk => lv_iconst X.1.1 X.1.2.1 d_Lw_law_332 (by decide) kk)) ?_
  refine mx_all_cons (ok_ii (fun kk => lv_iadd X.1.1 X.1.2.1 d_Lw_law_333 kk)) ?_
  refine mx_all_cons (ok_sld X C0.2.2.2.2.2.2.1 C0.2.2.2.2.2.2.2.1 (Nat.not_le.mpr C0.2.2.2.2.2.2.2.1) d_Lw_law_334) ?_
  refine mx_all_cons (ok_aload (fun hl kk => lv_aload_n X.1.1 X.1.2.1 d_Lw_law_335 rfl hl kk) (fun hl kk => lv_aload_nN X.1.1 X.1.2.1 d_Lw_law_335 rfl hl kk)) ?_
  refine mx_all_cons (ok_iload (fun hl kk => lv_iload_n X.1.1 X.1.2.1 d_Lw_law_336 rfl hl kk)) ?_
  refine mx_all_cons (ok_push (fun kk => lv_iconst X.1.1 X.1.2.1 d_Lw_law_337 (by decide) kk)) ?_
  refine mx_all_cons (ok_ii (fun kk => lv_iadd X.1.1 X.1.2.1 d_Lw_law_338 kk)) ?_
  refine mx_all_cons (ok_sld X C0.2.2.2.2.2.2.1 C0.2.2.2.2.2.2.2.1 (Nat.not_le.mpr C0.2.2.2.2.2.2.2.1) d_Lw_law_339) ?_
  refine mx_all_cons (ok_callVF (C := "HeaderScheduleModel") (T := T_Mo) (N := 40) X (mx_Zok_Z zz) (mx_Zn_Z zz) hz ⟨(Nat.le_of_ble_eq_true rfl), (Nat.le_of_ble_eq_true rfl)⟩ (m_Mo_event l zz) ⟨mx_cwB 5 hm w832 w829 w40 rfl rfl (by decide +kernel) ⟨(Nat.le_of_ble_eq_true rfl), (Nat.le_of_ble_eq_true rfl)⟩, (hm _ w830), hm _ w831⟩ rfl d_Lw_law_340) ?_
  refine mx_all_cons (ok_icmp (fun kt kf => lv_icmp_eq X.1.1 X.1.2.1 d_Lw_law_343 (by decide) kt kf)) ?_
  refine mx_all_cons (ok_push (fun kk => lv_iconst X.1.1 X.1.2.1 d_Lw_law_346 (by decide) kk)) ?_
  refine mx_all_cons (ok_lawret X rfl C0.2.2.1 C0.2.2.2.2.2.2.2.2.1 (by exact C0.2.1) d_Lw_law_347) ?_
  refine mx_all_cons (ok_aload (fun hl kk => lv_aload_n X.1.1 X.1.2.1 d_Lw_law_348 rfl hl kk) (fun hl kk => lv_aload_nN X.1.1 X.1.2.1 d_Lw_law_348 rfl hl kk)) ?_
  refine mx_all_cons (ok_aload (fun hl kk => lv_aload_n X.1.1 X.1.2.1 d_Lw_law_349 rfl hl kk) (fun hl kk => lv_aload_nN X.1.1 X.1.2.1 d_Lw_law_349 rfl hl kk)) ?_
  refine mx_all_cons (ok_iload (fun hl kk => lv_iload_n X.1.1 X.1.2.1 d_Lw_law_350 rfl hl kk)) ?_
  refine mx_all_cons (ok_push (fun kk => lv_iconst X.1.1 X.1.2.1 d_Lw_law_351 (by decide) kk)) ?_
  refine mx_all_cons (ok_ii (fun kk => lv_iadd X.1.1 X.1.2.1 d_Lw_law_352 kk)) ?_
  refine mx_all_cons (ok_sld X C0.2.2.2.2.2.2.1 C0.2.2.2.2.2.2.2.1 (Nat.not_le.mpr C0.2.2.2.2.2.2.2.1) d_Lw_law_353) ?_
  refine mx_all_cons (ok_aload (fun hl kk => lv_aload_n X.1.1 X.1.2.1 d_Lw_law_354 rfl hl kk) (fun hl kk => lv_aload_nN X.1.1 X.1.2.1 d_Lw_law_354 rfl hl kk)) ?_
  refine mx_all_cons (ok_iload (fun hl kk => lv_iload_n X.1.1 X.1.2.1 d_Lw_law_355 rfl hl kk)) ?_
  refine mx_all_cons (ok_push (fun kk => lv_iconst X.1.1 X.1.2.1 d_Lw_law_356 (by decide) kk)) ?_
  refine mx_all_cons (ok_ii (fun kk => lv_iadd X.1.1 X.1.2.1 d_Lw_law_357 kk)) ?_
  refine mx_all_cons (ok_sld X C0.2.2.2.2.2.2.1 C0.2.2.2.2.2.2.2.1 (Nat.not_le.mpr C0.2.2.2.2.2.2.2.1) d_Lw_law_358) ?_
  refine mx_all_cons (ok_aload (fun hl kk => lv_aload_n X.1.1 X.1.2.1 d_Lw_law_359 rfl hl kk) (fun hl kk => lv_aload_nN X.1.1 X.1.2.1 d_Lw_law_359 rfl hl kk)) ?_
  refine mx_all_cons (ok_iload (fun hl kk => lv_iload_n X.1.1 X.1.2.1 d_Lw_law_360 rfl hl kk)) ?_
  refine mx_all_cons (ok_push (fun kk => lv_iconst X.1.1 X.1.2.1 d_Lw_law_361 (by decide) kk)) ?_
  refine mx_all_cons (ok_ii (fun kk => lv_iadd X.1.1 X.1.2.1 d_Lw_law_362 kk)) ?_
  refine mx_all_cons (ok_sld X C0.2.2.2.2.2.2.1 C0.2.2.2.2.2.2.2.1 (Nat.not_le.mpr C0.2.2.2.2.2.2.2.1) d_Lw_law_363) ?_
  refine mx_all_cons (ok_aload (fun hl kk => lv_aload_n X.1.1 X.1.2.1 d_Lw_law_364 rfl hl kk) (fun hl kk => lv_aload_nN X.1.1 X.1.2.1 d_Lw_law_364 rfl hl kk)) ?_
  refine mx_all_cons (ok_iload (fun hl kk => lv_iload_n X.1.1 X.1.2.1 d_Lw_law_365 rfl hl kk)) ?_
  refine mx_all_cons (ok_push (fun kk => lv_iconst X.1.1 X.1.2.1 d_Lw_law_366 (by decide) kk)) ?_
  refine mx_all_cons (ok_ii (fun kk => lv_iadd X.1.1 X.1.2.1 d_Lw_law_367 kk)) ?_
  refine mx_all_cons (ok_sld X C0.2.2.2.2.2.2.1 C0.2.2.2.2.2.2.2.1 (Nat.not_le.mpr C0.2.2.2.2.2.2.2.1) d_Lw_law_368) ?_
  refine mx_all_cons (ok_callVF (C := "HeaderSchedule") (T := T_Hs) (N := 11) X (mx_Zok_Z zz) (mx_Zn_Z zz) hz ⟨(Nat.le_of_ble_eq_true rfl), (Nat.le_of_ble_eq_true rfl)⟩ (m_Hs_entry l zz) ⟨mx_cwB 4 hm w450 w447 w33 rfl rfl (by decide +kernel) ⟨(Nat.le_of_ble_eq_true rfl), (Nat.le_of_ble_eq_true rfl)⟩, (hm _ w448), hm _ w449⟩ rfl d_Lw_law_369) ?_
  refine mx_all_cons (ok_aload (fun hl kk => lv_aload_n X.1.1 X.1.2.1 d_Lw_law_372 rfl hl kk) (fun hl kk => lv_aload_nN X.1.1 X.1.2.1 d_Lw_law_372 rfl hl kk)) ?_
  refine mx_all_cons (ok_aload (fun hl kk => lv_aload_n X.1.1 X.1.2.1 d_Lw_law_373 rfl hl kk) (fun hl kk => lv_aload_nN X.1.1 X.1.2.1 d_Lw_law_373 rfl hl kk)) ?_
  refine mx_all_cons (ok_iload (fun hl kk => lv_iload_n X.1.1 X.1.2.1 d_Lw_law_374 rfl hl kk)) ?_
  refine mx_all_cons (ok_push (fun kk => lv_iconst X.1.1 X.1.2.1 d_Lw_law_375 (by decide) kk)) ?_
  refine mx_all_cons (ok_ii (fun kk => lv_iadd X.1.1 X.1.2.1 d_Lw_law_376 kk)) ?_
  refine mx_all_cons (ok_sld X C0.2.2.2.2.2.2.1 C0.2.2.2.2.2.2.2.1 (Nat.not_le.mpr C0.2.2.2.2.2.2.2.1) d_Lw_law_377) ?_
  refine mx_all_cons (ok_aload (fun hl kk => lv_aload_n X.1.1 X.1.2.1 d_Lw_law_378 rfl hl kk) (fun hl kk => lv_aload_nN X.1.1 X.1.2.1 d_Lw_law_378 rfl hl kk)) ?_
  refine mx_all_cons (ok_iload (fun hl kk => lv_iload_n X.1.1 X.1.2.1 d_Lw_law_379 rfl hl kk)) ?_
  refine mx_all_cons (ok_push (fun kk => lv_iconst X.1.1 X.1.2.1 d_Lw_law_380 (by decide) kk)) ?_
  refine mx_all_cons (ok_ii (fun kk => lv_iadd X.1.1 X.1.2.1 d_Lw_law_381 kk)) ?_
  refine mx_all_cons (ok_sld X C0.2.2.2.2.2.2.1 C0.2.2.2.2.2.2.2.1 (Nat.not_le.mpr C0.2.2.2.2.2.2.2.1) d_Lw_law_382) ?_
  refine mx_all_cons (ok_aload (fun hl kk => lv_aload_n X.1.1 X.1.2.1 d_Lw_law_383 rfl hl kk) (fun hl kk => lv_aload_nN X.1.1 X.1.2.1 d_Lw_law_383 rfl hl kk)) ?_
  refine mx_all_cons (ok_iload (fun hl kk => lv_iload_n X.1.1 X.1.2.1 d_Lw_law_384 rfl hl kk)) ?_
  refine mx_all_cons (ok_push (fun kk => lv_iconst X.1.1 X.1.2.1 d_Lw_law_385 (by decide) kk)) ?_
  refine mx_all_cons (ok_ii (fun kk => lv_iadd X.1.1 X.1.2.1 d_Lw_law_386 kk)) ?_
  refine mx_all_cons (ok_sld X C0.2.2.2.2.2.2.1 C0.2.2.2.2.2.2.2.1 (Nat.not_le.mpr C0.2.2.2.2.2.2.2.1) d_Lw_law_387) ?_
  refine mx_all_cons (ok_aload (fun hl kk => lv_aload_n X.1.1 X.1.2.1 d_Lw_law_388 rfl hl kk) (fun hl kk => lv_aload_nN X.1.1 X.1.2.1 d_Lw_law_388 rfl hl kk)) ?_
  refine mx_all_cons (ok_iload (fun hl kk => lv_iload_n X.1.1 X.1.2.1 d_Lw_law_389 rfl hl kk)) ?_
  refine mx_all_cons (ok_push (fun kk => lv_iconst X.1.1 X.1.2.1 d_Lw_law_390 (by decide) kk)) ?_
  refine mx_all_cons (ok_ii (fun kk => lv_iadd X.1.1 X.1.2.1 d_Lw_law_391 kk)) ?_
  refine mx_all_cons (ok_sld X C0.2.2.2.2.2.2.1 C0.2.2.2.2.2.2.2.1 (Nat.not_le.mpr C0.2.2.2.2.2.2.2.1) d_Lw_law_392) ?_
  refine mx_all_cons (ok_callVF (C := "HeaderScheduleModel") (T := T_Mo) (N := 40) X (mx_Zok_Z zz) (mx_Zn_Z zz) hz ⟨(Nat.le_of_ble_eq_true rfl), (Nat.le_of_ble_eq_true rfl)⟩ (m_Mo_entry l zz) ⟨mx_cwB 4 hm w844 w841 w40 rfl rfl (by decide +kernel) ⟨(Nat.le_of_ble_eq_true rfl), (Nat.le_of_ble_eq_true rfl)⟩, (hm _ w842), hm _ w843⟩ rfl d_Lw_law_393) ?_
  refine mx_all_cons (ok_icmp (fun kt kf => lv_icmp_eq X.1.1 X.1.2.1 d_Lw_law_396 (by decide) kt kf)) ?_
  refine mx_all_cons (ok_push (fun kk => lv_iconst X.1.1 X.1.2.1 d_Lw_law_399 (by decide) kk)) ?_
  refine mx_all_cons (ok_lawret X rfl C0.2.2.1 C0.2.2.2.2.2.2.2.2.1 (by exact C0.2.1) d_Lw_law_400) ?_
  refine mx_all_cons (ok_aload (fun hl kk => lv_aload_n X.1.1 X.1.2.1 d_Lw_law_401 rfl hl kk) (fun hl kk => lv_aload_nN X.1.1 X.1.2.1 d_Lw_law_401 rfl hl kk)) ?_
  refine mx_all_cons (ok_aload (fun hl kk => lv_aload_n X.1.1 X.1.2.1 d_Lw_law_402 rfl hl kk) (fun hl kk => lv_aload_nN X.1.1 X.1.2.1 d_Lw_law_402 rfl hl kk)) ?_
  refine mx_all_cons (ok_iload (fun hl kk => lv_iload_n X.1.1 X.1.2.1 d_Lw_law_403 rfl hl kk)) ?_
  refine mx_all_cons (ok_push (fun kk => lv_iconst X.1.1 X.1.2.1 d_Lw_law_404 (by decide) kk)) ?_
  refine mx_all_cons (ok_ii (fun kk => lv_iadd X.1.1 X.1.2.1 d_Lw_law_405 kk)) ?_
  refine mx_all_cons (ok_sld X C0.2.2.2.2.2.2.1 C0.2.2.2.2.2.2.2.1 (Nat.not_le.mpr C0.2.2.2.2.2.2.2.1) d_Lw_law_406) ?_
  refine mx_all_cons (ok_callVF (C := "HeaderSchedule") (T := T_Hs) (N := 11) X (mx_Zok_Z zz) (mx_Zn_Z zz) hz ⟨(Nat.le_of_ble_eq_true rfl), (Nat.le_of_ble_eq_true rfl)⟩ (m_Hs_start l zz) ⟨mx_cwB 1 hm w484 w481 w33 rfl rfl (by decide +kernel) ⟨(Nat.le_of_ble_eq_true rfl), (Nat.le_of_ble_eq_true rfl)⟩, (hm _ w482), hm _ w483⟩ rfl d_Lw_law_407) ?_
  refine mx_all_cons (ok_aload (fun hl kk => lv_aload_n X.1.1 X.1.2.1 d_Lw_law_410 rfl hl kk) (fun hl kk => lv_aload_nN X.1.1 X.1.2.1 d_Lw_law_410 rfl hl kk)) ?_
  refine mx_all_cons (ok_aload (fun hl kk => lv_aload_n X.1.1 X.1.2.1 d_Lw_law_411 rfl hl kk) (fun hl kk => lv_aload_nN X.1.1 X.1.2.1 d_Lw_law_411 rfl hl kk)) ?_
  refine mx_all_cons (ok_iload (fun hl kk => lv_iload_n X.1.1 X.1.2.1 d_Lw_law_412 rfl hl kk)) ?_
  refine mx_all_cons (ok_push (fun kk => lv_iconst X.1.1 X.1.2.1 d_Lw_law_413 (by decide) kk)) ?_
  refine mx_all_cons (ok_ii (fun kk => lv_iadd X.1.1 X.1.2.1 d_Lw_law_414 kk)) ?_
  refine mx_all_cons (ok_sld X C0.2.2.2.2.2.2.1 C0.2.2.2.2.2.2.2.1 (Nat.not_le.mpr C0.2.2.2.2.2.2.2.1) d_Lw_law_415) ?_
  refine mx_all_cons (ok_callVF (C := "HeaderScheduleModel") (T := T_Mo) (N := 40) X (mx_Zok_Z zz) (mx_Zn_Z zz) hz ⟨(Nat.le_of_ble_eq_true rfl), (Nat.le_of_ble_eq_true rfl)⟩ (m_Mo_start l zz) ⟨mx_cwB 1 hm w848 w845 w40 rfl rfl (by decide +kernel) ⟨(Nat.le_of_ble_eq_true rfl), (Nat.le_of_ble_eq_true rfl)⟩, (hm _ w846), hm _ w847⟩ rfl d_Lw_law_416) ?_
  refine mx_all_cons (ok_icmp (fun kt kf => lv_icmp_eq X.1.1 X.1.2.1 d_Lw_law_419 (by decide) kt kf)) ?_
  refine mx_all_cons (ok_push (fun kk => lv_iconst X.1.1 X.1.2.1 d_Lw_law_422 (by decide) kk)) ?_
  refine mx_all_cons (ok_lawret X rfl C0.2.2.1 C0.2.2.2.2.2.2.2.2.1 (by exact C0.2.1) d_Lw_law_423) ?_
  refine mx_all_cons (ok_aload (fun hl kk => lv_aload_n X.1.1 X.1.2.1 d_Lw_law_424 rfl hl kk) (fun hl kk => lv_aload_nN X.1.1 X.1.2.1 d_Lw_law_424 rfl hl kk)) ?_
  refine mx_all_cons (ok_aload (fun hl kk => lv_aload_n X.1.1 X.1.2.1 d_Lw_law_425 rfl hl kk) (fun hl kk => lv_aload_nN X.1.1 X.1.2.1 d_Lw_law_425 rfl hl kk)) ?_
  refine mx_all_cons (ok_iload (fun hl kk => lv_iload_n X.1.1 X.1.2.1 d_Lw_law_426 rfl hl kk)) ?_
  refine mx_all_cons (ok_push (fun kk => lv_iconst X.1.1 X.1.2.1 d_Lw_law_427 (by decide) kk)) ?_
  refine mx_all_cons (ok_ii (fun kk => lv_iadd X.1.1 X.1.2.1 d_Lw_law_428 kk)) ?_
  refine mx_all_cons (ok_sld X C0.2.2.2.2.2.2.1 C0.2.2.2.2.2.2.2.1 (Nat.not_le.mpr C0.2.2.2.2.2.2.2.1) d_Lw_law_429) ?_
  refine mx_all_cons (ok_aload (fun hl kk => lv_aload_n X.1.1 X.1.2.1 d_Lw_law_430 rfl hl kk) (fun hl kk => lv_aload_nN X.1.1 X.1.2.1 d_Lw_law_430 rfl hl kk)) ?_
  refine mx_all_cons (ok_iload (fun hl kk => lv_iload_n X.1.1 X.1.2.1 d_Lw_law_431 rfl hl kk)) ?_
  refine mx_all_cons (ok_push (fun kk => lv_iconst X.1.1 X.1.2.1 d_Lw_law_432 (by decide) kk)) ?_
  refine mx_all_cons (ok_ii (fun kk => lv_iadd X.1.1 X.1.2.1 d_Lw_law_433 kk)) ?_
  refine mx_all_cons (ok_sld X C0.2.2.2.2.2.2.1 C0.2.2.2.2.2.2.2.1 (Nat.not_le.mpr C0.2.2.2.2.2.2.2.1) d_Lw_law_434) ?_
  refine mx_all_cons (ok_callVF (C := "HeaderSchedule") (T := T_Hs) (N := 11) X (mx_Zok_Z zz) (mx_Zn_Z zz) hz ⟨(Nat.le_of_ble_eq_true rfl), (Nat.le_of_ble_eq_true rfl)⟩ (m_Hs_write l zz) ⟨mx_cwB 2 hm w511 w508 w33 rfl rfl (by decide +kernel) ⟨(Nat.le_of_ble_eq_true rfl), (Nat.le_of_ble_eq_true rfl)⟩, (hm _ w509), hm _ w510⟩ rfl d_Lw_law_435) ?_
  refine mx_all_cons (ok_aload (fun hl kk => lv_aload_n X.1.1 X.1.2.1 d_Lw_law_438 rfl hl kk) (fun hl kk => lv_aload_nN X.1.1 X.1.2.1 d_Lw_law_438 rfl hl kk)) ?_
  refine mx_all_cons (ok_aload (fun hl kk => lv_aload_n X.1.1 X.1.2.1 d_Lw_law_439 rfl hl kk) (fun hl kk => lv_aload_nN X.1.1 X.1.2.1 d_Lw_law_439 rfl hl kk)) ?_
  refine mx_all_cons (ok_iload (fun hl kk => lv_iload_n X.1.1 X.1.2.1 d_Lw_law_440 rfl hl kk)) ?_
  refine mx_all_cons (ok_push (fun kk => lv_iconst X.1.1 X.1.2.1 d_Lw_law_441 (by decide) kk)) ?_
  refine mx_all_cons (ok_ii (fun kk => lv_iadd X.1.1 X.1.2.1 d_Lw_law_442 kk)) ?_
  refine mx_all_cons (ok_sld X C0.2.2.2.2.2.2.1 C0.2.2.2.2.2.2.2.1 (Nat.not_le.mpr C0.2.2.2.2.2.2.2.1) d_Lw_law_443) ?_
  refine mx_all_cons (ok_aload (fun hl kk => lv_aload_n X.1.1 X.1.2.1 d_Lw_law_444 rfl hl kk) (fun hl kk => lv_aload_nN X.1.1 X.1.2.1 d_Lw_law_444 rfl hl kk)) ?_
  refine mx_all_cons (ok_iload (fun hl kk => lv_iload_n X.1.1 X.1.2.1 d_Lw_law_445 rfl hl kk)) ?_
  refine mx_all_cons (ok_push (fun kk => lv_iconst X.1.1 X.1.2.1 d_Lw_law_446 (by decide) kk)) ?_
  refine mx_all_cons (ok_ii (fun kk => lv_iadd X.1.1 X.1.2.1 d_Lw_law_447 kk)) ?_
  refine mx_all_cons (ok_sld X C0.2.2.2.2.2.2.1 C0.2.2.2.2.2.2.2.1 (Nat.not_le.mpr C0.2.2.2.2.2.2.2.1) d_Lw_law_448) ?_
  refine mx_all_cons (ok_callVF (C := "HeaderScheduleModel") (T := T_Mo) (N := 40) X (mx_Zok_Z zz) (mx_Zn_Z zz) hz ⟨(Nat.le_of_ble_eq_true rfl), (Nat.le_of_ble_eq_true rfl)⟩ (m_Mo_write l zz) ⟨mx_cwB 2 hm w856 w853 w40 rfl rfl (by decide +kernel) ⟨(Nat.le_of_ble_eq_true rfl), (Nat.le_of_ble_eq_true rfl)⟩, (hm _ w854), hm _ w855⟩ rfl d_Lw_law_449) ?_
  refine mx_all_cons (ok_icmp (fun kt kf => lv_icmp_eq X.1.1 X.1.2.1 d_Lw_law_452 (by decide) kt kf)) ?_
  refine mx_all_cons (ok_push (fun kk => lv_iconst X.1.1 X.1.2.1 d_Lw_law_455 (by decide) kk)) ?_
  refine mx_all_cons (ok_lawret X rfl C0.2.2.1 C0.2.2.2.2.2.2.2.2.1 (by exact C0.2.1) d_Lw_law_456) ?_
  refine mx_all_cons (ok_aload (fun hl kk => lv_aload_n X.1.1 X.1.2.1 d_Lw_law_457 rfl hl kk) (fun hl kk => lv_aload_nN X.1.1 X.1.2.1 d_Lw_law_457 rfl hl kk)) ?_
  refine mx_all_cons (ok_aload (fun hl kk => lv_aload_n X.1.1 X.1.2.1 d_Lw_law_458 rfl hl kk) (fun hl kk => lv_aload_nN X.1.1 X.1.2.1 d_Lw_law_458 rfl hl kk)) ?_
  refine mx_all_cons (ok_iload (fun hl kk => lv_iload_n X.1.1 X.1.2.1 d_Lw_law_459 rfl hl kk)) ?_
  refine mx_all_cons (ok_push (fun kk => lv_iconst X.1.1 X.1.2.1 d_Lw_law_460 (by decide) kk)) ?_
  refine mx_all_cons (ok_ii (fun kk => lv_iadd X.1.1 X.1.2.1 d_Lw_law_461 kk)) ?_
  refine mx_all_cons (ok_sld X C0.2.2.2.2.2.2.1 C0.2.2.2.2.2.2.2.1 (Nat.not_le.mpr C0.2.2.2.2.2.2.2.1) d_Lw_law_462) ?_
  refine mx_all_cons (ok_callVF (C := "HeaderSchedule") (T := T_Hs) (N := 11) X (mx_Zok_Z zz) (mx_Zn_Z zz) hz ⟨(Nat.le_of_ble_eq_true rfl), (Nat.le_of_ble_eq_true rfl)⟩ (m_Hs_read l zz) ⟨mx_cwB 1 hm w519 w516 w33 rfl rfl (by decide +kernel) ⟨(Nat.le_of_ble_eq_true rfl), (Nat.le_of_ble_eq_true rfl)⟩, (hm _ w517), hm _ w518⟩ rfl d_Lw_law_463) ?_
  refine mx_all_cons (ok_aload (fun hl kk => lv_aload_n X.1.1 X.1.2.1 d_Lw_law_466 rfl hl kk) (fun hl kk => lv_aload_nN X.1.1 X.1.2.1 d_Lw_law_466 rfl hl kk)) ?_
  refine mx_all_cons (ok_aload (fun hl kk => lv_aload_n X.1.1 X.1.2.1 d_Lw_law_467 rfl hl kk) (fun hl kk => lv_aload_nN X.1.1 X.1.2.1 d_Lw_law_467 rfl hl kk)) ?_
  refine mx_all_cons (ok_iload (fun hl kk => lv_iload_n X.1.1 X.1.2.1 d_Lw_law_468 rfl hl kk)) ?_
  refine mx_all_cons (ok_push (fun kk => lv_iconst X.1.1 X.1.2.1 d_Lw_law_469 (by decide) kk)) ?_
  refine mx_all_cons (ok_ii (fun kk => lv_iadd X.1.1 X.1.2.1 d_Lw_law_470 kk)) ?_
  refine mx_all_cons (ok_sld X C0.2.2.2.2.2.2.1 C0.2.2.2.2.2.2.2.1 (Nat.not_le.mpr C0.2.2.2.2.2.2.2.1) d_Lw_law_471) ?_
  refine mx_all_cons (ok_callVF (C := "HeaderScheduleModel") (T := T_Mo) (N := 40) X (mx_Zok_Z zz) (mx_Zn_Z zz) hz ⟨(Nat.le_of_ble_eq_true rfl), (Nat.le_of_ble_eq_true rfl)⟩ (m_Mo_read l zz) ⟨mx_cwB 1 hm w860 w857 w40 rfl rfl (by decide +kernel) ⟨(Nat.le_of_ble_eq_true rfl), (Nat.le_of_ble_eq_true rfl)⟩, (hm _ w858), hm _ w859⟩ rfl d_Lw_law_472) ?_
  refine mx_all_cons (ok_icmp (fun kt kf => lv_icmp_eq X.1.1 X.1.2.1 d_Lw_law_475 (by decide) kt kf)) ?_
  refine mx_all_cons (ok_push (fun kk => lv_iconst X.1.1 X.1.2.1 d_Lw_law_478 (by decide) kk)) ?_
  refine mx_all_cons (ok_lawret X rfl C0.2.2.1 C0.2.2.2.2.2.2.2.2.1 (by exact C0.2.1) d_Lw_law_479) ?_
  refine mx_all_cons (ok_aload (fun hl kk => lv_aload_n X.1.1 X.1.2.1 d_Lw_law_480 rfl hl kk) (fun hl kk => lv_aload_nN X.1.1 X.1.2.1 d_Lw_law_480 rfl hl kk)) ?_
  refine mx_all_cons (ok_aload (fun hl kk => lv_aload_n X.1.1 X.1.2.1 d_Lw_law_481 rfl hl kk) (fun hl kk => lv_aload_nN X.1.1 X.1.2.1 d_Lw_law_481 rfl hl kk)) ?_
  refine mx_all_cons (ok_iload (fun hl kk => lv_iload_n X.1.1 X.1.2.1 d_Lw_law_482 rfl hl kk)) ?_
  refine mx_all_cons (ok_push (fun kk => lv_iconst X.1.1 X.1.2.1 d_Lw_law_483 (by decide) kk)) ?_
  refine mx_all_cons (ok_ii (fun kk => lv_iadd X.1.1 X.1.2.1 d_Lw_law_484 kk)) ?_
  refine mx_all_cons (ok_sld X C0.2.2.2.2.2.2.1 C0.2.2.2.2.2.2.2.1 (Nat.not_le.mpr C0.2.2.2.2.2.2.2.1) d_Lw_law_485) ?_
  refine mx_all_cons (ok_callVF (C := "HeaderSchedule") (T := T_Hs) (N := 11) X (mx_Zok_Z zz) (mx_Zn_Z zz) hz ⟨(Nat.le_of_ble_eq_true rfl), (Nat.le_of_ble_eq_true rfl)⟩ (m_Hs_fresh l zz) ⟨mx_cwB 1 hm w523 w520 w33 rfl rfl (by decide +kernel) ⟨(Nat.le_of_ble_eq_true rfl), (Nat.le_of_ble_eq_true rfl)⟩, (hm _ w521), hm _ w522⟩ rfl d_Lw_law_486) ?_
  refine mx_all_cons (ok_aload (fun hl kk => lv_aload_n X.1.1 X.1.2.1 d_Lw_law_489 rfl hl kk) (fun hl kk => lv_aload_nN X.1.1 X.1.2.1 d_Lw_law_489 rfl hl kk)) ?_
  refine mx_all_cons (ok_aload (fun hl kk => lv_aload_n X.1.1 X.1.2.1 d_Lw_law_490 rfl hl kk) (fun hl kk => lv_aload_nN X.1.1 X.1.2.1 d_Lw_law_490 rfl hl kk)) ?_
  refine mx_all_cons (ok_iload (fun hl kk => lv_iload_n X.1.1 X.1.2.1 d_Lw_law_491 rfl hl kk)) ?_
  refine mx_all_cons (ok_push (fun kk => lv_iconst X.1.1 X.1.2.1 d_Lw_law_492 (by decide) kk)) ?_
  refine mx_all_cons (ok_ii (fun kk => lv_iadd X.1.1 X.1.2.1 d_Lw_law_493 kk)) ?_
  refine mx_all_cons (ok_sld X C0.2.2.2.2.2.2.1 C0.2.2.2.2.2.2.2.1 (Nat.not_le.mpr C0.2.2.2.2.2.2.2.1) d_Lw_law_494) ?_
  refine mx_all_cons (ok_callVF (C := "HeaderScheduleModel") (T := T_Mo) (N := 40) X (mx_Zok_Z zz) (mx_Zn_Z zz) hz ⟨(Nat.le_of_ble_eq_true rfl), (Nat.le_of_ble_eq_true rfl)⟩ (m_Mo_fresh l zz) ⟨mx_cwB 1 hm w864 w861 w40 rfl rfl (by decide +kernel) ⟨(Nat.le_of_ble_eq_true rfl), (Nat.le_of_ble_eq_true rfl)⟩, (hm _ w862), hm _ w863⟩ rfl d_Lw_law_495) ?_
  refine mx_all_cons (ok_icmp (fun kt kf => lv_icmp_eq X.1.1 X.1.2.1 d_Lw_law_498 (by decide) kt kf)) ?_
  refine mx_all_cons (ok_push (fun kk => lv_iconst X.1.1 X.1.2.1 d_Lw_law_501 (by decide) kk)) ?_
  refine mx_all_cons (ok_lawret X rfl C0.2.2.1 C0.2.2.2.2.2.2.2.2.1 (by exact C0.2.1) d_Lw_law_502) ?_
  refine mx_all_cons (ok_aload (fun hl kk => lv_aload_n X.1.1 X.1.2.1 d_Lw_law_503 rfl hl kk) (fun hl kk => lv_aload_nN X.1.1 X.1.2.1 d_Lw_law_503 rfl hl kk)) ?_
  refine mx_all_cons (ok_aload (fun hl kk => lv_aload_n X.1.1 X.1.2.1 d_Lw_law_504 rfl hl kk) (fun hl kk => lv_aload_nN X.1.1 X.1.2.1 d_Lw_law_504 rfl hl kk)) ?_
  refine mx_all_cons (ok_iload (fun hl kk => lv_iload_n X.1.1 X.1.2.1 d_Lw_law_505 rfl hl kk)) ?_
  refine mx_all_cons (ok_push (fun kk => lv_iconst X.1.1 X.1.2.1 d_Lw_law_506 (by decide) kk)) ?_
  refine mx_all_cons (ok_ii (fun kk => lv_iadd X.1.1 X.1.2.1 d_Lw_law_507 kk)) ?_
  refine mx_all_cons (ok_sld X C0.2.2.2.2.2.2.1 C0.2.2.2.2.2.2.2.1 (Nat.not_le.mpr C0.2.2.2.2.2.2.2.1) d_Lw_law_508) ?_
  refine mx_all_cons (ok_callVF (C := "HeaderSchedule") (T := T_Hs) (N := 11) X (mx_Zok_Z zz) (mx_Zn_Z zz) hz ⟨(Nat.le_of_ble_eq_true rfl), (Nat.le_of_ble_eq_true rfl)⟩ (m_Hs_pending l zz) ⟨mx_cwB 1 hm w527 w524 w33 rfl rfl (by decide +kernel) ⟨(Nat.le_of_ble_eq_true rfl), (Nat.le_of_ble_eq_true rfl)⟩, (hm _ w525), hm _ w526⟩ rfl d_Lw_law_509) ?_
  refine mx_all_cons (ok_aload (fun hl kk => lv_aload_n X.1.1 X.1.2.1 d_Lw_law_512 rfl hl kk) (fun hl kk => lv_aload_nN X.1.1 X.1.2.1 d_Lw_law_512 rfl hl kk)) ?_
  refine mx_all_cons (ok_aload (fun hl kk => lv_aload_n X.1.1 X.1.2.1 d_Lw_law_513 rfl hl kk) (fun hl kk => lv_aload_nN X.1.1 X.1.2.1 d_Lw_law_513 rfl hl kk)) ?_
  refine mx_all_cons (ok_iload (fun hl kk => lv_iload_n X.1.1 X.1.2.1 d_Lw_law_514 rfl hl kk)) ?_
  refine mx_all_cons (ok_push (fun kk => lv_iconst X.1.1 X.1.2.1 d_Lw_law_515 (by decide) kk)) ?_
  refine mx_all_cons (ok_ii (fun kk => lv_iadd X.1.1 X.1.2.1 d_Lw_law_516 kk)) ?_
  refine mx_all_cons (ok_sld X C0.2.2.2.2.2.2.1 C0.2.2.2.2.2.2.2.1 (Nat.not_le.mpr C0.2.2.2.2.2.2.2.1) d_Lw_law_517) ?_
  refine mx_all_cons (ok_callVF (C := "HeaderScheduleModel") (T := T_Mo) (N := 40) X (mx_Zok_Z zz) (mx_Zn_Z zz) hz ⟨(Nat.le_of_ble_eq_true rfl), (Nat.le_of_ble_eq_true rfl)⟩ (m_Mo_pending l zz) ⟨mx_cwB 1 hm w868 w865 w40 rfl rfl (by decide +kernel) ⟨(Nat.le_of_ble_eq_true rfl), (Nat.le_of_ble_eq_true rfl)⟩, (hm _ w866), hm _ w867⟩ rfl d_Lw_law_518) ?_
  refine mx_all_cons (ok_icmp (fun kt kf => lv_icmp_eq X.1.1 X.1.2.1 d_Lw_law_521 (by decide) kt kf)) ?_
  refine mx_all_cons (ok_push (fun kk => lv_iconst X.1.1 X.1.2.1 d_Lw_law_524 (by decide) kk)) ?_
  refine mx_all_cons (ok_lawret X rfl C0.2.2.1 C0.2.2.2.2.2.2.2.2.1 (by exact C0.2.1) d_Lw_law_525) ?_
  refine mx_all_cons (ok_aload (fun hl kk => lv_aload_n X.1.1 X.1.2.1 d_Lw_law_526 rfl hl kk) (fun hl kk => lv_aload_nN X.1.1 X.1.2.1 d_Lw_law_526 rfl hl kk)) ?_
  refine mx_all_cons (ok_aload (fun hl kk => lv_aload_n X.1.1 X.1.2.1 d_Lw_law_527 rfl hl kk) (fun hl kk => lv_aload_nN X.1.1 X.1.2.1 d_Lw_law_527 rfl hl kk)) ?_
  refine mx_all_cons (ok_iload (fun hl kk => lv_iload_n X.1.1 X.1.2.1 d_Lw_law_528 rfl hl kk)) ?_
  refine mx_all_cons (ok_push (fun kk => lv_iconst X.1.1 X.1.2.1 d_Lw_law_529 (by decide) kk)) ?_
  refine mx_all_cons (ok_ii (fun kk => lv_iadd X.1.1 X.1.2.1 d_Lw_law_530 kk)) ?_
  refine mx_all_cons (ok_sld X C0.2.2.2.2.2.2.1 C0.2.2.2.2.2.2.2.1 (Nat.not_le.mpr C0.2.2.2.2.2.2.2.1) d_Lw_law_531) ?_
  refine mx_all_cons (ok_callVF (C := "HeaderSchedule") (T := T_Hs) (N := 11) X (mx_Zok_Z zz) (mx_Zn_Z zz) hz ⟨(Nat.le_of_ble_eq_true rfl), (Nat.le_of_ble_eq_true rfl)⟩ (m_Hs_request l zz) ⟨mx_cwB 1 hm w531 w528 w33 rfl rfl (by decide +kernel) ⟨(Nat.le_of_ble_eq_true rfl), (Nat.le_of_ble_eq_true rfl)⟩, (hm _ w529), hm _ w530⟩ rfl d_Lw_law_532) ?_
  refine mx_all_cons (ok_aload (fun hl kk => lv_aload_n X.1.1 X.1.2.1 d_Lw_law_535 rfl hl kk) (fun hl kk => lv_aload_nN X.1.1 X.1.2.1 d_Lw_law_535 rfl hl kk)) ?_
  refine mx_all_cons (ok_aload (fun hl kk => lv_aload_n X.1.1 X.1.2.1 d_Lw_law_536 rfl hl kk) (fun hl kk => lv_aload_nN X.1.1 X.1.2.1 d_Lw_law_536 rfl hl kk)) ?_
  refine mx_all_cons (ok_iload (fun hl kk => lv_iload_n X.1.1 X.1.2.1 d_Lw_law_537 rfl hl kk)) ?_
  refine mx_all_cons (ok_push (fun kk => lv_iconst X.1.1 X.1.2.1 d_Lw_law_538 (by decide) kk)) ?_
  refine mx_all_cons (ok_ii (fun kk => lv_iadd X.1.1 X.1.2.1 d_Lw_law_539 kk)) ?_
  refine mx_all_cons (ok_sld X C0.2.2.2.2.2.2.1 C0.2.2.2.2.2.2.2.1 (Nat.not_le.mpr C0.2.2.2.2.2.2.2.1) d_Lw_law_540) ?_
  refine mx_all_cons (ok_callVF (C := "HeaderScheduleModel") (T := T_Mo) (N := 40) X (mx_Zok_Z zz) (mx_Zn_Z zz) hz ⟨(Nat.le_of_ble_eq_true rfl), (Nat.le_of_ble_eq_true rfl)⟩ (m_Mo_request l zz) ⟨mx_cwB 1 hm w872 w869 w40 rfl rfl (by decide +kernel) ⟨(Nat.le_of_ble_eq_true rfl), (Nat.le_of_ble_eq_true rfl)⟩, (hm _ w870), hm _ w871⟩ rfl d_Lw_law_541) ?_
  refine mx_all_cons (ok_icmp (fun kt kf => lv_icmp_eq X.1.1 X.1.2.1 d_Lw_law_544 (by decide) kt kf)) ?_
  refine mx_all_cons (ok_push (fun kk => lv_iconst X.1.1 X.1.2.1 d_Lw_law_547 (by decide) kk)) ?_
  refine mx_all_cons (ok_lawret X rfl C0.2.2.1 C0.2.2.2.2.2.2.2.2.1 (by exact C0.2.1) d_Lw_law_548) ?_
  refine mx_all_cons (ok_aload (fun hl kk => lv_aload_n X.1.1 X.1.2.1 d_Lw_law_549 rfl hl kk) (fun hl kk => lv_aload_nN X.1.1 X.1.2.1 d_Lw_law_549 rfl hl kk)) ?_
  refine mx_all_cons (ok_aload (fun hl kk => lv_aload_n X.1.1 X.1.2.1 d_Lw_law_550 rfl hl kk) (fun hl kk => lv_aload_nN X.1.1 X.1.2.1 d_Lw_law_550 rfl hl kk)) ?_
  refine mx_all_cons (ok_iload (fun hl kk => lv_iload_n X.1.1 X.1.2.1 d_Lw_law_551 rfl hl kk)) ?_
  refine mx_all_cons (ok_push (fun kk => lv_iconst X.1.1 X.1.2.1 d_Lw_law_552 (by decide) kk)) ?_
  refine mx_all_cons (ok_ii (fun kk => lv_iadd X.1.1 X.1.2.1 d_Lw_law_553 kk)) ?_
  refine mx_all_cons (ok_sld X C0.2.2.2.2.2.2.1 C0.2.2.2.2.2.2.2.1 (Nat.not_le.mpr C0.2.2.2.2.2.2.2.1) d_Lw_law_554) ?_
  refine mx_all_cons (ok_aload (fun hl kk => lv_aload_n X.1.1 X.1.2.1 d_Lw_law_555 rfl hl kk) (fun hl kk => lv_aload_nN X.1.1 X.1.2.1 d_Lw_law_555 rfl hl kk)) ?_
  refine mx_all_cons (ok_iload (fun hl kk => lv_iload_n X.1.1 X.1.2.1 d_Lw_law_556 rfl hl kk)) ?_
  refine mx_all_cons (ok_push (fun kk => lv_iconst X.1.1 X.1.2.1 d_Lw_law_557 (by decide) kk)) ?_
  refine mx_all_cons (ok_ii (fun kk => lv_iadd X.1.1 X.1.2.1 d_Lw_law_558 kk)) ?_
  refine mx_all_cons (ok_sld X C0.2.2.2.2.2.2.1 C0.2.2.2.2.2.2.2.1 (Nat.not_le.mpr C0.2.2.2.2.2.2.2.1) d_Lw_law_559) ?_
  refine mx_all_cons (ok_callVF (C := "HeaderSchedule") (T := T_Hs) (N := 11) X (mx_Zok_Z zz) (mx_Zn_Z zz) hz ⟨(Nat.le_of_ble_eq_true rfl), (Nat.le_of_ble_eq_true rfl)⟩ (m_Hs_noise l zz) ⟨mx_cwB 2 hm w535 w532 w33 rfl rfl (by decide +kernel) ⟨(Nat.le_of_ble_eq_true rfl), (Nat.le_of_ble_eq_true rfl)⟩, (hm _ w533), hm _ w534⟩ rfl d_Lw_law_560) ?_
  refine mx_all_cons (ok_aload (fun hl kk => lv_aload_n X.1.1 X.1.2.1 d_Lw_law_563 rfl hl kk) (fun hl kk => lv_aload_nN X.1.1 X.1.2.1 d_Lw_law_563 rfl hl kk)) ?_
  refine mx_all_cons (ok_aload (fun hl kk => lv_aload_n X.1.1 X.1.2.1 d_Lw_law_564 rfl hl kk) (fun hl kk => lv_aload_nN X.1.1 X.1.2.1 d_Lw_law_564 rfl hl kk)) ?_
  refine mx_all_cons (ok_iload (fun hl kk => lv_iload_n X.1.1 X.1.2.1 d_Lw_law_565 rfl hl kk)) ?_
  refine mx_all_cons (ok_push (fun kk => lv_iconst X.1.1 X.1.2.1 d_Lw_law_566 (by decide) kk)) ?_
  refine mx_all_cons (ok_ii (fun kk => lv_iadd X.1.1 X.1.2.1 d_Lw_law_567 kk)) ?_
  refine mx_all_cons (ok_sld X C0.2.2.2.2.2.2.1 C0.2.2.2.2.2.2.2.1 (Nat.not_le.mpr C0.2.2.2.2.2.2.2.1) d_Lw_law_568) ?_
  refine mx_all_cons (ok_aload (fun hl kk => lv_aload_n X.1.1 X.1.2.1 d_Lw_law_569 rfl hl kk) (fun hl kk => lv_aload_nN X.1.1 X.1.2.1 d_Lw_law_569 rfl hl kk)) ?_
  refine mx_all_cons (ok_iload (fun hl kk => lv_iload_n X.1.1 X.1.2.1 d_Lw_law_570 rfl hl kk)) ?_
  refine mx_all_cons (ok_push (fun kk => lv_iconst X.1.1 X.1.2.1 d_Lw_law_571 (by decide) kk)) ?_
  refine mx_all_cons (ok_ii (fun kk => lv_iadd X.1.1 X.1.2.1 d_Lw_law_572 kk)) ?_
  refine mx_all_cons (ok_sld X C0.2.2.2.2.2.2.1 C0.2.2.2.2.2.2.2.1 (Nat.not_le.mpr C0.2.2.2.2.2.2.2.1) d_Lw_law_573) ?_
  refine mx_all_cons (ok_callVF (C := "HeaderScheduleModel") (T := T_Mo) (N := 40) X (mx_Zok_Z zz) (mx_Zn_Z zz) hz ⟨(Nat.le_of_ble_eq_true rfl), (Nat.le_of_ble_eq_true rfl)⟩ (m_Mo_noise l zz) ⟨mx_cwB 2 hm w876 w873 w40 rfl rfl (by decide +kernel) ⟨(Nat.le_of_ble_eq_true rfl), (Nat.le_of_ble_eq_true rfl)⟩, (hm _ w874), hm _ w875⟩ rfl d_Lw_law_574) ?_
  refine mx_all_cons (ok_icmp (fun kt kf => lv_icmp_eq X.1.1 X.1.2.1 d_Lw_law_577 (by decide) kt kf)) ?_
  refine mx_all_cons (ok_push (fun kk => lv_iconst X.1.1 X.1.2.1 d_Lw_law_580 (by decide) kk)) ?_
  refine mx_all_cons (ok_lawret X rfl C0.2.2.1 C0.2.2.2.2.2.2.2.2.1 (by exact C0.2.1) d_Lw_law_581) ?_
  refine mx_all_cons (ok_aload (fun hl kk => lv_aload_n X.1.1 X.1.2.1 d_Lw_law_582 rfl hl kk) (fun hl kk => lv_aload_nN X.1.1 X.1.2.1 d_Lw_law_582 rfl hl kk)) ?_
  refine mx_all_cons (ok_callVF (C := "HeaderSchedule") (T := T_Hs) (N := 11) X (mx_Zok_Z zz) (mx_Zn_Z zz) hz ⟨(Nat.le_of_ble_eq_true rfl), (Nat.le_of_ble_eq_true rfl)⟩ (m_Hs_tick l zz) ⟨mx_cwB 0 hm w539 w536 w33 rfl rfl (by decide +kernel) ⟨(Nat.le_of_ble_eq_true rfl), (Nat.le_of_ble_eq_true rfl)⟩, (hm _ w537), hm _ w538⟩ rfl d_Lw_law_583) ?_
  refine mx_all_cons (ok_aload (fun hl kk => lv_aload_n X.1.1 X.1.2.1 d_Lw_law_586 rfl hl kk) (fun hl kk => lv_aload_nN X.1.1 X.1.2.1 d_Lw_law_586 rfl hl kk)) ?_
  refine mx_all_cons (ok_callVF (C := "HeaderScheduleModel") (T := T_Mo) (N := 40) X (mx_Zok_Z zz) (mx_Zn_Z zz) hz ⟨(Nat.le_of_ble_eq_true rfl), (Nat.le_of_ble_eq_true rfl)⟩ (m_Mo_tick l zz) ⟨mx_cwB 0 hm w880 w877 w40 rfl rfl (by decide +kernel) ⟨(Nat.le_of_ble_eq_true rfl), (Nat.le_of_ble_eq_true rfl)⟩, (hm _ w878), hm _ w879⟩ rfl d_Lw_law_587) ?_
  refine mx_all_cons (ok_icmp (fun kt kf => lv_icmp_eq X.1.1 X.1.2.1 d_Lw_law_590 (by decide) kt kf)) ?_
  refine mx_all_cons (ok_push (fun kk => lv_iconst X.1.1 X.1.2.1 d_Lw_law_593 (by decide) kk)) ?_
  refine mx_all_cons (ok_lawret X rfl C0.2.2.1 C0.2.2.2.2.2.2.2.2.1 (by exact C0.2.1) d_Lw_law_594) ?_
  refine mx_all_cons (ok_aload (fun hl kk => lv_aload_n X.1.1 X.1.2.1 d_Lw_law_595 rfl hl kk) (fun hl kk => lv_aload_nN X.1.1 X.1.2.1 d_Lw_law_595 rfl hl kk)) ?_
  refine mx_all_cons (ok_aload (fun hl kk => lv_aload_n X.1.1 X.1.2.1 d_Lw_law_596 rfl hl kk) (fun hl kk => lv_aload_nN X.1.1 X.1.2.1 d_Lw_law_596 rfl hl kk)) ?_
  refine mx_all_cons (ok_iload (fun hl kk => lv_iload_n X.1.1 X.1.2.1 d_Lw_law_597 rfl hl kk)) ?_
  refine mx_all_cons (ok_push (fun kk => lv_iconst X.1.1 X.1.2.1 d_Lw_law_598 (by decide) kk)) ?_
  refine mx_all_cons (ok_ii (fun kk => lv_iadd X.1.1 X.1.2.1 d_Lw_law_599 kk)) ?_
  refine mx_all_cons (ok_sld X C0.2.2.2.2.2.2.1 C0.2.2.2.2.2.2.2.1 (Nat.not_le.mpr C0.2.2.2.2.2.2.2.1) d_Lw_law_600) ?_
  refine mx_all_cons (ok_callVF (C := "HeaderSchedule") (T := T_Hs) (N := 11) X (mx_Zok_Z zz) (mx_Zn_Z zz) hz ⟨(Nat.le_of_ble_eq_true rfl), (Nat.le_of_ble_eq_true rfl)⟩ (m_Hs_bus l zz) ⟨mx_cwB 1 hm w650 w647 w33 rfl rfl (by decide +kernel) ⟨(Nat.le_of_ble_eq_true rfl), (Nat.le_of_ble_eq_true rfl)⟩, (hm _ w648), hm _ w649⟩ rfl d_Lw_law_601) ?_
  refine mx_all_cons (ok_aload (fun hl kk => lv_aload_n X.1.1 X.1.2.1 d_Lw_law_604 rfl hl kk) (fun hl kk => lv_aload_nN X.1.1 X.1.2.1 d_Lw_law_604 rfl hl kk)) ?_
  refine mx_all_cons (ok_aload (fun hl kk => lv_aload_n X.1.1 X.1.2.1 d_Lw_law_605 rfl hl kk) (fun hl kk => lv_aload_nN X.1.1 X.1.2.1 d_Lw_law_605 rfl hl kk)) ?_
  refine mx_all_cons (ok_iload (fun hl kk => lv_iload_n X.1.1 X.1.2.1 d_Lw_law_606 rfl hl kk)) ?_
  refine mx_all_cons (ok_push (fun kk => lv_iconst X.1.1 X.1.2.1 d_Lw_law_607 (by decide) kk)) ?_
  refine mx_all_cons (ok_ii (fun kk => lv_iadd X.1.1 X.1.2.1 d_Lw_law_608 kk)) ?_
  refine mx_all_cons (ok_sld X C0.2.2.2.2.2.2.1 C0.2.2.2.2.2.2.2.1 (Nat.not_le.mpr C0.2.2.2.2.2.2.2.1) d_Lw_law_609) ?_
  refine mx_all_cons (ok_callVF (C := "HeaderScheduleModel") (T := T_Mo) (N := 40) X (mx_Zok_Z zz) (mx_Zn_Z zz) hz ⟨(Nat.le_of_ble_eq_true rfl), (Nat.le_of_ble_eq_true rfl)⟩ (m_Mo_bus l zz) ⟨mx_cwB 1 hm w929 w926 w40 rfl rfl (by decide +kernel) ⟨(Nat.le_of_ble_eq_true rfl), (Nat.le_of_ble_eq_true rfl)⟩, (hm _ w927), hm _ w928⟩ rfl d_Lw_law_610) ?_
  refine mx_all_cons (ok_icmp (fun kt kf => lv_icmp_eq X.1.1 X.1.2.1 d_Lw_law_613 (by decide) kt kf)) ?_
  refine mx_all_cons (ok_push (fun kk => lv_iconst X.1.1 X.1.2.1 d_Lw_law_616 (by decide) kk)) ?_
  refine mx_all_cons (ok_lawret X rfl C0.2.2.1 C0.2.2.2.2.2.2.2.2.1 (by exact C0.2.1) d_Lw_law_617) ?_
  refine mx_all_cons (ok_aload (fun hl kk => lv_aload_n X.1.1 X.1.2.1 d_Lw_law_618 rfl hl kk) (fun hl kk => lv_aload_nN X.1.1 X.1.2.1 d_Lw_law_618 rfl hl kk)) ?_
  refine mx_all_cons (ok_aload (fun hl kk => lv_aload_n X.1.1 X.1.2.1 d_Lw_law_619 rfl hl kk) (fun hl kk => lv_aload_nN X.1.1 X.1.2.1 d_Lw_law_619 rfl hl kk)) ?_
  refine mx_all_cons (ok_iload (fun hl kk => lv_iload_n X.1.1 X.1.2.1 d_Lw_law_620 rfl hl kk)) ?_
  refine mx_all_cons (ok_push (fun kk => lv_iconst X.1.1 X.1.2.1 d_Lw_law_621 (by decide) kk)) ?_
  refine mx_all_cons (ok_ii (fun kk => lv_iadd X.1.1 X.1.2.1 d_Lw_law_622 kk)) ?_
  refine mx_all_cons (ok_sld X C0.2.2.2.2.2.2.1 C0.2.2.2.2.2.2.2.1 (Nat.not_le.mpr C0.2.2.2.2.2.2.2.1) d_Lw_law_623) ?_
  refine mx_all_cons (ok_callVF (C := "HeaderSchedule") (T := T_Hs) (N := 11) X (mx_Zok_Z zz) (mx_Zn_Z zz) hz ⟨(Nat.le_of_ble_eq_true rfl), (Nat.le_of_ble_eq_true rfl)⟩ (m_Hs_count l zz) ⟨mx_cwB 1 hm w654 w651 w33 rfl rfl (by decide +kernel) ⟨(Nat.le_of_ble_eq_true rfl), (Nat.le_of_ble_eq_true rfl)⟩, (hm _ w652), hm _ w653⟩ rfl d_Lw_law_624) ?_
  refine mx_all_cons (ok_aload (fun hl kk => lv_aload_n X.1.1 X.1.2.1 d_Lw_law_627 rfl hl kk) (fun hl kk => lv_aload_nN X.1.1 X.1.2.1 d_Lw_law_627 rfl hl kk)) ?_
  refine mx_all_cons (ok_aload (fun hl kk => lv_aload_n X.1.1 X.1.2.1 d_Lw_law_628 rfl hl kk) (fun hl kk => lv_aload_nN X.1.1 X.1.2.1 d_Lw_law_628 rfl hl kk)) ?_
  refine mx_all_cons (ok_iload (fun hl kk => lv_iload_n X.1.1 X.1.2.1 d_Lw_law_629 rfl hl kk)) ?_
  refine mx_all_cons (ok_push (fun kk => lv_iconst X.1.1 X.1.2.1 d_Lw_law_630 (by decide) kk)) ?_
  refine mx_all_cons (ok_ii (fun kk => lv_iadd X.1.1 X.1.2.1 d_Lw_law_631 kk)) ?_
  refine mx_all_cons (ok_sld X C0.2.2.2.2.2.2.1 C0.2.2.2.2.2.2.2.1 (Nat.not_le.mpr C0.2.2.2.2.2.2.2.1) d_Lw_law_632) ?_
  refine mx_all_cons (ok_callVF (C := "HeaderScheduleModel") (T := T_Mo) (N := 40) X (mx_Zok_Z zz) (mx_Zn_Z zz) hz ⟨(Nat.le_of_ble_eq_true rfl), (Nat.le_of_ble_eq_true rfl)⟩ (m_Mo_count l zz) ⟨mx_cwB 1 hm w933 w930 w40 rfl rfl (by decide +kernel) ⟨(Nat.le_of_ble_eq_true rfl), (Nat.le_of_ble_eq_true rfl)⟩, (hm _ w931), hm _ w932⟩ rfl d_Lw_law_633) ?_
  refine mx_all_cons (ok_icmp (fun kt kf => lv_icmp_eq X.1.1 X.1.2.1 d_Lw_law_636 (by decide) kt kf)) ?_
  refine mx_all_cons (ok_push (fun kk => lv_iconst X.1.1 X.1.2.1 d_Lw_law_639 (by decide) kk)) ?_
  refine mx_all_cons (ok_lawret X rfl C0.2.2.1 C0.2.2.2.2.2.2.2.2.1 (by exact C0.2.1) d_Lw_law_640) ?_
  refine mx_all_cons (ok_aload (fun hl kk => lv_aload_n X.1.1 X.1.2.1 d_Lw_law_641 rfl hl kk) (fun hl kk => lv_aload_nN X.1.1 X.1.2.1 d_Lw_law_641 rfl hl kk)) ?_
  refine mx_all_cons (ok_callVF (C := "HeaderSchedule") (T := T_Hs) (N := 11) X (mx_Zok_Z zz) (mx_Zn_Z zz) hz ⟨(Nat.le_of_ble_eq_true rfl), (Nat.le_of_ble_eq_true rfl)⟩ (m_Hs_position l zz) ⟨mx_cwB 0 hm w658 w655 w33 rfl rfl (by decide +kernel) ⟨(Nat.le_of_ble_eq_true rfl), (Nat.le_of_ble_eq_true rfl)⟩, (hm _ w656), hm _ w657⟩ rfl d_Lw_law_642) ?_
  refine mx_all_cons (ok_aload (fun hl kk => lv_aload_n X.1.1 X.1.2.1 d_Lw_law_645 rfl hl kk) (fun hl kk => lv_aload_nN X.1.1 X.1.2.1 d_Lw_law_645 rfl hl kk)) ?_
  refine mx_all_cons (ok_callVF (C := "HeaderScheduleModel") (T := T_Mo) (N := 40) X (mx_Zok_Z zz) (mx_Zn_Z zz) hz ⟨(Nat.le_of_ble_eq_true rfl), (Nat.le_of_ble_eq_true rfl)⟩ (m_Mo_position l zz) ⟨mx_cwB 0 hm w937 w934 w40 rfl rfl (by decide +kernel) ⟨(Nat.le_of_ble_eq_true rfl), (Nat.le_of_ble_eq_true rfl)⟩, (hm _ w935), hm _ w936⟩ rfl d_Lw_law_646) ?_
  refine mx_all_cons (ok_icmp (fun kt kf => lv_icmp_eq X.1.1 X.1.2.1 d_Lw_law_649 (by decide) kt kf)) ?_
  refine mx_all_cons (ok_push (fun kk => lv_iconst X.1.1 X.1.2.1 d_Lw_law_652 (by decide) kk)) ?_
  refine mx_all_cons (ok_lawret X rfl C0.2.2.1 C0.2.2.2.2.2.2.2.2.1 (by exact C0.2.1) d_Lw_law_653) ?_
  refine mx_all_cons (ok_aload (fun hl kk => lv_aload_n X.1.1 X.1.2.1 d_Lw_law_654 rfl hl kk) (fun hl kk => lv_aload_nN X.1.1 X.1.2.1 d_Lw_law_654 rfl hl kk)) ?_
  refine mx_all_cons (ok_callVF (C := "HeaderSchedule") (T := T_Hs) (N := 11) X (mx_Zok_Z zz) (mx_Zn_Z zz) hz ⟨(Nat.le_of_ble_eq_true rfl), (Nat.le_of_ble_eq_true rfl)⟩ (m_Hs_sleep l zz) ⟨mx_cwB 0 hm w666 w663 w33 rfl rfl (by decide +kernel) ⟨(Nat.le_of_ble_eq_true rfl), (Nat.le_of_ble_eq_true rfl)⟩, (hm _ w664), hm _ w665⟩ rfl d_Lw_law_655) ?_
  refine mx_all_cons (ok_aload (fun hl kk => lv_aload_n X.1.1 X.1.2.1 d_Lw_law_658 rfl hl kk) (fun hl kk => lv_aload_nN X.1.1 X.1.2.1 d_Lw_law_658 rfl hl kk)) ?_
  refine mx_all_cons (ok_callVF (C := "HeaderScheduleModel") (T := T_Mo) (N := 40) X (mx_Zok_Z zz) (mx_Zn_Z zz) hz ⟨(Nat.le_of_ble_eq_true rfl), (Nat.le_of_ble_eq_true rfl)⟩ (m_Mo_sleep l zz) ⟨mx_cwB 0 hm w941 w938 w40 rfl rfl (by decide +kernel) ⟨(Nat.le_of_ble_eq_true rfl), (Nat.le_of_ble_eq_true rfl)⟩, (hm _ w939), hm _ w940⟩ rfl d_Lw_law_659) ?_
  refine mx_all_cons (ok_icmp (fun kt kf => lv_icmp_eq X.1.1 X.1.2.1 d_Lw_law_662 (by decide) kt kf)) ?_
  refine mx_all_cons (ok_push (fun kk => lv_iconst X.1.1 X.1.2.1 d_Lw_law_665 (by decide) kk)) ?_
  refine mx_all_cons (ok_lawret X rfl C0.2.2.1 C0.2.2.2.2.2.2.2.2.1 (by exact C0.2.1) d_Lw_law_666) ?_
  refine mx_all_cons (ok_aload (fun hl kk => lv_aload_n X.1.1 X.1.2.1 d_Lw_law_667 rfl hl kk) (fun hl kk => lv_aload_nN X.1.1 X.1.2.1 d_Lw_law_667 rfl hl kk)) ?_
  refine mx_all_cons (ok_callVF (C := "HeaderSchedule") (T := T_Hs) (N := 11) X (mx_Zok_Z zz) (mx_Zn_Z zz) hz ⟨(Nat.le_of_ble_eq_true rfl), (Nat.le_of_ble_eq_true rfl)⟩ (m_Hs_wake l zz) ⟨mx_cwB 0 hm w670 w667 w33 rfl rfl (by decide +kernel) ⟨(Nat.le_of_ble_eq_true rfl), (Nat.le_of_ble_eq_true rfl)⟩, (hm _ w668), hm _ w669⟩ rfl d_Lw_law_668) ?_
  refine mx_all_cons (ok_aload (fun hl kk => lv_aload_n X.1.1 X.1.2.1 d_Lw_law_671 rfl hl kk) (fun hl kk => lv_aload_nN X.1.1 X.1.2.1 d_Lw_law_671 rfl hl kk)) ?_
  refine mx_all_cons (ok_callVF (C := "HeaderScheduleModel") (T := T_Mo) (N := 40) X (mx_Zok_Z zz) (mx_Zn_Z zz) hz ⟨(Nat.le_of_ble_eq_true rfl), (Nat.le_of_ble_eq_true rfl)⟩ (m_Mo_wake l zz) ⟨mx_cwB 0 hm w945 w942 w40 rfl rfl (by decide +kernel) ⟨(Nat.le_of_ble_eq_true rfl), (Nat.le_of_ble_eq_true rfl)⟩, (hm _ w943), hm _ w944⟩ rfl d_Lw_law_672) ?_
  refine mx_all_cons (ok_icmp (fun kt kf => lv_icmp_eq X.1.1 X.1.2.1 d_Lw_law_675 (by decide) kt kf)) ?_
  refine mx_all_cons (ok_push (fun kk => lv_iconst X.1.1 X.1.2.1 d_Lw_law_678 (by decide) kk)) ?_
  refine mx_all_cons (ok_lawret X rfl C0.2.2.1 C0.2.2.2.2.2.2.2.2.1 (by exact C0.2.1) d_Lw_law_679) ?_
  refine mx_all_cons (ok_iinc X (by decide) (by decide) d_Lw_law_680) ?_
  refine mx_all_cons (ok_goto X d_Lw_law_683 (by decide)) ?_
  refine mx_all_cons (ok_push (fun kk => lv_iconst X.1.1 X.1.2.1 d_Lw_law_686 (by decide) kk)) ?_
  refine mx_all_cons (ok_lawret X rfl C0.2.2.1 C0.2.2.2.2.2.2.2.2.1 (by exact C0.2.1) d_Lw_law_687) ?_
  exact mx_all_nil
theorem st_law_0 (zz : Nat × Nat) (b L : Nat) (xs : Nat → Int32) (r : mx_T) (ls : mx_L) (st : List Value) (h : mx_H) (c n : Nat) : mx_G r (t_law zz b L xs) 0 ls st h c n = (o_new 600000 7302250 0 11 [.null, .null, .null, .null, .null, .null, .null, .null, .int 0, .int 0, .int 0]) r (mx_G r (t_law zz b L xs)) 0 ls st h c n := mx_G_eq (tm_law zz b L xs) r 0 ls st h c n
theorem st_law_3 (zz : Nat × Nat) (b L : Nat) (xs : Nat → Int32) (r : mx_T) (ls : mx_L) (st : List Value) (h : mx_H) (c n : Nat) : mx_G r (t_law zz b L xs) 3 ls st h c n = (o_dup) r (mx_G r (t_law zz b L xs)) 3 ls st h c n := mx_G_eq (tm_law zz b L xs) r 3 ls st h c n
theorem st_law_4 (zz : Nat × Nat) (b L : Nat) (xs : Nat → Int32) (r : mx_T) (ls : mx_L) (st : List Value) (h : mx_H) (c n : Nat) : mx_G r (t_law zz b L xs) 4 ls st h c n = (o_callF 600000 7302250 1 16 114 mx_rr (S_Hs_init zz)) r (mx_G r (t_law zz b L xs)) 4 ls st h c n := mx_G_eq (tm_law zz b L xs) r 4 ls st h c n
theorem st_law_7 (zz : Nat × Nat) (b L : Nat) (xs : Nat → Int32) (r : mx_T) (ls : mx_L) (st : List Value) (h : mx_H) (c n : Nat) : mx_G r (t_law zz b L xs) 7 ls st h c n = (o_astore 1 1) r (mx_G r (t_law zz b L xs)) 7 ls st h c n := mx_G_eq (tm_law zz b L xs) r 7 ls st h c n
theorem st_law_8 (zz : Nat × Nat) (b L : Nat) (xs : Nat → Int32) (r : mx_T) (ls : mx_L) (st : List Value) (h : mx_H) (c n : Nat) : mx_G r (t_law zz b L xs) 8 ls st h c n = (o_new 600000 7302250 10 40 [.int 0, .null, .null, .null, .null, .null, .null, .int 0, .null, .null, .null, .null, .null, .null, .int 0, .null, .int 0, .null, .null, .null, .null, .null, .null, .null, .int 0, .int 0, .int 0, .int 0, .int 0, .int 0, .int 0, .int 0, .int 0, .int 0, .int 0, .null, .int 0, .int 0, .int 0, .null]) r (mx_G r (t_law zz b L xs)) 8 ls st h c n := mx_G_eq (tm_law zz b L xs) r 8 ls st h c n
theorem st_law_11 (zz : Nat × Nat) (b L : Nat) (xs : Nat → Int32) (r : mx_T) (ls : mx_L) (st : List Value) (h : mx_H) (c n : Nat) : mx_G r (t_law zz b L xs) 11 ls st h c n = (o_dup) r (mx_G r (t_law zz b L xs)) 11 ls st h c n := mx_G_eq (tm_law zz b L xs) r 11 ls st h c n
theorem st_law_12 (zz : Nat × Nat) (b L : Nat) (xs : Nat → Int32) (r : mx_T) (ls : mx_L) (st : List Value) (h : mx_H) (c n : Nat) : mx_G r (t_law zz b L xs) 12 ls st h c n = (o_callF 600000 7302250 1 22 250 mx_rr (S_Mo_init zz)) r (mx_G r (t_law zz b L xs)) 12 ls st h c n := mx_G_eq (tm_law zz b L xs) r 12 ls st h c n
theorem st_law_15 (zz : Nat × Nat) (b L : Nat) (xs : Nat → Int32) (r : mx_T) (ls : mx_L) (st : List Value) (h : mx_H) (c n : Nat) : mx_G r (t_law zz b L xs) 15 ls st h c n = (o_astore 1 2) r (mx_G r (t_law zz b L xs)) 15 ls st h c n := mx_G_eq (tm_law zz b L xs) r 15 ls st h c n
theorem st_law_16 (zz : Nat × Nat) (b L : Nat) (xs : Nat → Int32) (r : mx_T) (ls : mx_L) (st : List Value) (h : mx_H) (c n : Nat) : mx_G r (t_law zz b L xs) 16 ls st h c n = (o_push 1 (.int 0)) r (mx_G r (t_law zz b L xs)) 16 ls st h c n := mx_G_eq (tm_law zz b L xs) r 16 ls st h c n
theorem st_law_17 (zz : Nat × Nat) (b L : Nat) (xs : Nat → Int32) (r : mx_T) (ls : mx_L) (st : List Value) (h : mx_H) (c n : Nat) : mx_G r (t_law zz b L xs) 17 ls st h c n = (o_istore 1 3) r (mx_G r (t_law zz b L xs)) 17 ls st h c n := mx_G_eq (tm_law zz b L xs) r 17 ls st h c n
theorem st_law_18 (zz : Nat × Nat) (b L : Nat) (xs : Nat → Int32) (r : mx_T) (ls : mx_L) (st : List Value) (h : mx_H) (c n : Nat) : mx_G r (t_law zz b L xs) 18 ls st h c n = (o_iload 1 3) r (mx_G r (t_law zz b L xs)) 18 ls st h c n := mx_G_eq (tm_law zz b L xs) r 18 ls st h c n
theorem st_law_19 (zz : Nat × Nat) (b L : Nat) (xs : Nat → Int32) (r : mx_T) (ls : mx_L) (st : List Value) (h : mx_H) (c n : Nat) : mx_G r (t_law zz b L xs) 19 ls st h c n = (o_aload 1 0) r (mx_G r (t_law zz b L xs)) 19 ls st h c n := mx_G_eq (tm_law zz b L xs) r 19 ls st h c n
theorem st_law_20 (zz : Nat × Nat) (b L : Nat) (xs : Nat → Int32) (r : mx_T) (ls : mx_L) (st : List Value) (h : mx_H) (c n : Nat) : mx_G r (t_law zz b L xs) 20 ls st h c n = (o_slen b L) r (mx_G r (t_law zz b L xs)) 20 ls st h c n := mx_G_eq (tm_law zz b L xs) r 20 ls st h c n
theorem st_law_21 (zz : Nat × Nat) (b L : Nat) (xs : Nat → Int32) (r : mx_T) (ls : mx_L) (st : List Value) (h : mx_H) (c n : Nat) : mx_G r (t_law zz b L xs) 21 ls st h c n = (o_push 2 (.int 6)) r (mx_G r (t_law zz b L xs)) 21 ls st h c n := mx_G_eq (tm_law zz b L xs) r 21 ls st h c n
theorem st_law_23 (zz : Nat × Nat) (b L : Nat) (xs : Nat → Int32) (r : mx_T) (ls : mx_L) (st : List Value) (h : mx_H) (c n : Nat) : mx_G r (t_law zz b L xs) 23 ls st h c n = (o_ii (fun x y => x - y)) r (mx_G r (t_law zz b L xs)) 23 ls st h c n := mx_G_eq (tm_law zz b L xs) r 23 ls st h c n
theorem st_law_24 (zz : Nat × Nat) (b L : Nat) (xs : Nat → Int32) (r : mx_T) (ls : mx_L) (st : List Value) (h : mx_H) (c n : Nat) : mx_G r (t_law zz b L xs) 24 ls st h c n = (o_icmp 686 (fun x y => y < x)) r (mx_G r (t_law zz b L xs)) 24 ls st h c n := mx_G_eq (tm_law zz b L xs) r 24 ls st h c n
theorem st_law_27 (zz : Nat × Nat) (b L : Nat) (xs : Nat → Int32) (r : mx_T) (ls : mx_L) (st : List Value) (h : mx_H) (c n : Nat) : mx_G r (t_law zz b L xs) 27 ls st h c n = (o_aload 1 0) r (mx_G r (t_law zz b L xs)) 27 ls st h c n := mx_G_eq (tm_law zz b L xs) r 27 ls st h c n
theorem st_law_28 (zz : Nat × Nat) (b L : Nat) (xs : Nat → Int32) (r : mx_T) (ls : mx_L) (st : List Value) (h : mx_H) (c n : Nat) : mx_G r (t_law zz b L xs) 28 ls st h c n = (o_iload 1 3) r (mx_G r (t_law zz b L xs)) 28 ls st h c n := mx_G_eq (tm_law zz b L xs) r 28 ls st h c n
theorem st_law_29 (zz : Nat × Nat) (b L : Nat) (xs : Nat → Int32) (r : mx_T) (ls : mx_L) (st : List Value) (h : mx_H) (c n : Nat) : mx_G r (t_law zz b L xs) 29 ls st h c n = (o_sld b L xs) r (mx_G r (t_law zz b L xs)) 29 ls st h c n := mx_G_eq (tm_law zz b L xs) r 29 ls st h c n
theorem st_law_30 (zz : Nat × Nat) (b L : Nat) (xs : Nat → Int32) (r : mx_T) (ls : mx_L) (st : List Value) (h : mx_H) (c n : Nat) : mx_G r (t_law zz b L xs) 30 ls st h c n = (o_push 2 (.int 31)) r (mx_G r (t_law zz b L xs)) 30 ls st h c n := mx_G_eq (tm_law zz b L xs) r 30 ls st h c n
theorem st_law_32 (zz : Nat × Nat) (b L : Nat) (xs : Nat → Int32) (r : mx_T) (ls : mx_L) (st : List Value) (h : mx_H) (c n : Nat) : mx_G r (t_law zz b L xs) 32 ls st h c n = (o_ii (fun x y => x &&& y)) r (mx_G r (t_law zz b L xs)) 32 ls st h c n := mx_G_eq (tm_law zz b L xs) r 32 ls st h c n
theorem st_law_33 (zz : Nat × Nat) (b L : Nat) (xs : Nat → Int32) (r : mx_T) (ls : mx_L) (st : List Value) (h : mx_H) (c n : Nat) : mx_G r (t_law zz b L xs) 33 ls st h c n = (o_sw [(0, 120), (1, 189), (2, 242), (3, 285), (4, 348), (5, 401), (6, 424), (7, 457), (8, 480), (9, 503), (10, 526), (11, 549), (12, 582), (13, 595), (14, 618), (15, 641), (16, 654), (17, 667)] 680) r (mx_G r (t_law zz b L xs)) 33 ls st h c n := mx_G_eq (tm_law zz b L xs) r 33 ls st h c n
theorem st_law_120 (zz : Nat × Nat) (b L : Nat) (xs : Nat → Int32) (r : mx_T) (ls : mx_L) (st : List Value) (h : mx_H) (c n : Nat) : mx_G r (t_law zz b L xs) 120 ls st h c n = (o_aload 1 1) r (mx_G r (t_law zz b L xs)) 120 ls st h c n := mx_G_eq (tm_law zz b L xs) r 120 ls st h c n
theorem st_law_121 (zz : Nat × Nat) (b L : Nat) (xs : Nat → Int32) (r : mx_T) (ls : mx_L) (st : List Value) (h : mx_H) (c n : Nat) : mx_G r (t_law zz b L xs) 121 ls st h c n = (o_aload 1 0) r (mx_G r (t_law zz b L xs)) 121 ls st h c n := mx_G_eq (tm_law zz b L xs) r 121 ls st h c n
theorem st_law_122 (zz : Nat × Nat) (b L : Nat) (xs : Nat → Int32) (r : mx_T) (ls : mx_L) (st : List Value) (h : mx_H) (c n : Nat) : mx_G r (t_law zz b L xs) 122 ls st h c n = (o_iload 1 3) r (mx_G r (t_law zz b L xs)) 122 ls st h c n := mx_G_eq (tm_law zz b L xs) r 122 ls st h c n
theorem st_law_123 (zz : Nat × Nat) (b L : Nat) (xs : Nat → Int32) (r : mx_T) (ls : mx_L) (st : List Value) (h : mx_H) (c n : Nat) : mx_G r (t_law zz b L xs) 123 ls st h c n = (o_push 1 (.int 1)) r (mx_G r (t_law zz b L xs)) 123 ls st h c n := mx_G_eq (tm_law zz b L xs) r 123 ls st h c n
theorem st_law_124 (zz : Nat × Nat) (b L : Nat) (xs : Nat → Int32) (r : mx_T) (ls : mx_L) (st : List Value) (h : mx_H) (c n : Nat) : mx_G r (t_law zz b L xs) 124 ls st h c n = (o_ii (fun x y => x + y)) r (mx_G r (t_law zz b L xs)) 124 ls st h c n := mx_G_eq (tm_law zz b L xs) r 124 ls st h c n
theorem st_law_125 (zz : Nat × Nat) (b L : Nat) (xs : Nat → Int32) (r : mx_T) (ls : mx_L) (st : List Value) (h : mx_H) (c n : Nat) : mx_G r (t_law zz b L xs) 125 ls st h c n = (o_sld b L xs) r (mx_G r (t_law zz b L xs)) 125 ls st h c n := mx_G_eq (tm_law zz b L xs) r 125 ls st h c n
theorem st_law_126 (zz : Nat × Nat) (b L : Nat) (xs : Nat → Int32) (r : mx_T) (ls : mx_L) (st : List Value) (h : mx_H) (c n : Nat) : mx_G r (t_law zz b L xs) 126 ls st h c n = (o_aload 1 0) r (mx_G r (t_law zz b L xs)) 126 ls st h c n := mx_G_eq (tm_law zz b L xs) r 126 ls st h c n
theorem st_law_127 (zz : Nat × Nat) (b L : Nat) (xs : Nat → Int32) (r : mx_T) (ls : mx_L) (st : List Value) (h : mx_H) (c n : Nat) : mx_G r (t_law zz b L xs) 127 ls st h c n = (o_iload 1 3) r (mx_G r (t_law zz b L xs)) 127 ls st h c n := mx_G_eq (tm_law zz b L xs) r 127 ls st h c n
theorem st_law_128 (zz : Nat × Nat) (b L : Nat) (xs : Nat → Int32) (r : mx_T) (ls : mx_L) (st : List Value) (h : mx_H) (c n : Nat) : mx_G r (t_law zz b L xs) 128 ls st h c n = (o_push 1 (.int 2)) r (mx_G r (t_law zz b L xs)) 128 ls st h c n := mx_G_eq (tm_law zz b L xs) r 128 ls st h c n
theorem st_law_129 (zz : Nat × Nat) (b L : Nat) (xs : Nat → Int32) (r : mx_T) (ls : mx_L) (st : List Value) (h : mx_H) (c n : Nat) : mx_G r (t_law zz b L xs) 129 ls st h c n = (o_ii (fun x y => x + y)) r (mx_G r (t_law zz b L xs)) 129 ls st h c n := mx_G_eq (tm_law zz b L xs) r 129 ls st h c n
theorem st_law_130 (zz : Nat × Nat) (b L : Nat) (xs : Nat → Int32) (r : mx_T) (ls : mx_L) (st : List Value) (h : mx_H) (c n : Nat) : mx_G r (t_law zz b L xs) 130 ls st h c n = (o_sld b L xs) r (mx_G r (t_law zz b L xs)) 130 ls st h c n := mx_G_eq (tm_law zz b L xs) r 130 ls st h c n
theorem st_law_131 (zz : Nat × Nat) (b L : Nat) (xs : Nat → Int32) (r : mx_T) (ls : mx_L) (st : List Value) (h : mx_H) (c n : Nat) : mx_G r (t_law zz b L xs) 131 ls st h c n = (o_aload 1 0) r (mx_G r (t_law zz b L xs)) 131 ls st h c n := mx_G_eq (tm_law zz b L xs) r 131 ls st h c n
theorem st_law_132 (zz : Nat × Nat) (b L : Nat) (xs : Nat → Int32) (r : mx_T) (ls : mx_L) (st : List Value) (h : mx_H) (c n : Nat) : mx_G r (t_law zz b L xs) 132 ls st h c n = (o_iload 1 3) r (mx_G r (t_law zz b L xs)) 132 ls st h c n := mx_G_eq (tm_law zz b L xs) r 132 ls st h c n
theorem st_law_133 (zz : Nat × Nat) (b L : Nat) (xs : Nat → Int32) (r : mx_T) (ls : mx_L) (st : List Value) (h : mx_H) (c n : Nat) : mx_G r (t_law zz b L xs) 133 ls st h c n = (o_push 1 (.int 3)) r (mx_G r (t_law zz b L xs)) 133 ls st h c n := mx_G_eq (tm_law zz b L xs) r 133 ls st h c n
theorem st_law_134 (zz : Nat × Nat) (b L : Nat) (xs : Nat → Int32) (r : mx_T) (ls : mx_L) (st : List Value) (h : mx_H) (c n : Nat) : mx_G r (t_law zz b L xs) 134 ls st h c n = (o_ii (fun x y => x + y)) r (mx_G r (t_law zz b L xs)) 134 ls st h c n := mx_G_eq (tm_law zz b L xs) r 134 ls st h c n
theorem st_law_135 (zz : Nat × Nat) (b L : Nat) (xs : Nat → Int32) (r : mx_T) (ls : mx_L) (st : List Value) (h : mx_H) (c n : Nat) : mx_G r (t_law zz b L xs) 135 ls st h c n = (o_sld b L xs) r (mx_G r (t_law zz b L xs)) 135 ls st h c n := mx_G_eq (tm_law zz b L xs) r 135 ls st h c n
theorem st_law_136 (zz : Nat × Nat) (b L : Nat) (xs : Nat → Int32) (r : mx_T) (ls : mx_L) (st : List Value) (h : mx_H) (c n : Nat) : mx_G r (t_law zz b L xs) 136 ls st h c n = (o_aload 1 0) r (mx_G r (t_law zz b L xs)) 136 ls st h c n := mx_G_eq (tm_law zz b L xs) r 136 ls st h c n
theorem st_law_137 (zz : Nat × Nat) (b L : Nat) (xs : Nat → Int32) (r : mx_T) (ls : mx_L) (st : List Value) (h : mx_H) (c n : Nat) : mx_G r (t_law zz b L xs) 137 ls st h c n = (o_iload 1 3) r (mx_G r (t_law zz b L xs)) 137 ls st h c n := mx_G_eq (tm_law zz b L xs) r 137 ls st h c n
theorem st_law_138 (zz : Nat × Nat) (b L : Nat) (xs : Nat → Int32) (r : mx_T) (ls : mx_L) (st : List Value) (h : mx_H) (c n : Nat) : mx_G r (t_law zz b L xs) 138 ls st h c n = (o_push 1 (.int 4)) r (mx_G r (t_law zz b L xs)) 138 ls st h c n := mx_G_eq (tm_law zz b L xs) r 138 ls st h c n
theorem st_law_139 (zz : Nat × Nat) (b L : Nat) (xs : Nat → Int32) (r : mx_T) (ls : mx_L) (st : List Value) (h : mx_H) (c n : Nat) : mx_G r (t_law zz b L xs) 139 ls st h c n = (o_ii (fun x y => x + y)) r (mx_G r (t_law zz b L xs)) 139 ls st h c n := mx_G_eq (tm_law zz b L xs) r 139 ls st h c n
theorem st_law_140 (zz : Nat × Nat) (b L : Nat) (xs : Nat → Int32) (r : mx_T) (ls : mx_L) (st : List Value) (h : mx_H) (c n : Nat) : mx_G r (t_law zz b L xs) 140 ls st h c n = (o_sld b L xs) r (mx_G r (t_law zz b L xs)) 140 ls st h c n := mx_G_eq (tm_law zz b L xs) r 140 ls st h c n
theorem st_law_141 (zz : Nat × Nat) (b L : Nat) (xs : Nat → Int32) (r : mx_T) (ls : mx_L) (st : List Value) (h : mx_H) (c n : Nat) : mx_G r (t_law zz b L xs) 141 ls st h c n = (o_if 148 (fun x => x = 0)) r (mx_G r (t_law zz b L xs)) 141 ls st h c n := mx_G_eq (tm_law zz b L xs) r 141 ls st h c n
theorem st_law_144 (zz : Nat × Nat) (b L : Nat) (xs : Nat → Int32) (r : mx_T) (ls : mx_L) (st : List Value) (h : mx_H) (c n : Nat) : mx_G r (t_law zz b L xs) 144 ls st h c n = (o_push 1 (.int 1)) r (mx_G r (t_law zz b L xs)) 144 ls st h c n := mx_G_eq (tm_law zz b L xs) r 144 ls st h c n
theorem st_law_145 (zz : Nat × Nat) (b L : Nat) (xs : Nat → Int32) (r : mx_T) (ls : mx_L) (st : List Value) (h : mx_H) (c n : Nat) : mx_G r (t_law zz b L xs) 145 ls st h c n = (o_goto 149) r (mx_G r (t_law zz b L xs)) 145 ls st h c n := mx_G_eq (tm_law zz b L xs) r 145 ls st h c n
theorem st_law_148 (zz : Nat × Nat) (b L : Nat) (xs : Nat → Int32) (r : mx_T) (ls : mx_L) (st : List Value) (h : mx_H) (c n : Nat) : mx_G r (t_law zz b L xs) 148 ls st h c n = (o_push 1 (.int 0)) r (mx_G r (t_law zz b L xs)) 148 ls st h c n := mx_G_eq (tm_law zz b L xs) r 148 ls st h c n
theorem st_law_149 (zz : Nat × Nat) (b L : Nat) (xs : Nat → Int32) (r : mx_T) (ls : mx_L) (st : List Value) (h : mx_H) (c n : Nat) : mx_G r (t_law zz b L xs) 149 ls st h c n = (o_callF 600000 7302250 5 3 136 (mx_rv 0) (S_Hs_frame zz)) r (mx_G r (t_law zz b L xs)) 149 ls st h c n := mx_G_eq (tm_law zz b L xs) r 149 ls st h c n
theorem st_law_152 (zz : Nat × Nat) (b L : Nat) (xs : Nat → Int32) (r : mx_T) (ls : mx_L) (st : List Value) (h : mx_H) (c n : Nat) : mx_G r (t_law zz b L xs) 152 ls st h c n = (o_aload 1 2) r (mx_G r (t_law zz b L xs)) 152 ls st h c n := mx_G_eq (tm_law zz b L xs) r 152 ls st h c n
theorem st_law_153 (zz : Nat × Nat) (b L : Nat) (xs : Nat → Int32) (r : mx_T) (ls : mx_L) (st : List Value) (h : mx_H) (c n : Nat) : mx_G r (t_law zz b L xs) 153 ls st h c n = (o_aload 1 0) r (mx_G r (t_law zz b L xs)) 153 ls st h c n := mx_G_eq (tm_law zz b L xs) r 153 ls st h c n
theorem st_law_154 (zz : Nat × Nat) (b L : Nat) (xs : Nat → Int32) (r : mx_T) (ls : mx_L) (st : List Value) (h : mx_H) (c n : Nat) : mx_G r (t_law zz b L xs) 154 ls st h c n = (o_iload 1 3) r (mx_G r (t_law zz b L xs)) 154 ls st h c n := mx_G_eq (tm_law zz b L xs) r 154 ls st h c n
theorem st_law_155 (zz : Nat × Nat) (b L : Nat) (xs : Nat → Int32) (r : mx_T) (ls : mx_L) (st : List Value) (h : mx_H) (c n : Nat) : mx_G r (t_law zz b L xs) 155 ls st h c n = (o_push 1 (.int 1)) r (mx_G r (t_law zz b L xs)) 155 ls st h c n := mx_G_eq (tm_law zz b L xs) r 155 ls st h c n
theorem st_law_156 (zz : Nat × Nat) (b L : Nat) (xs : Nat → Int32) (r : mx_T) (ls : mx_L) (st : List Value) (h : mx_H) (c n : Nat) : mx_G r (t_law zz b L xs) 156 ls st h c n = (o_ii (fun x y => x + y)) r (mx_G r (t_law zz b L xs)) 156 ls st h c n := mx_G_eq (tm_law zz b L xs) r 156 ls st h c n
theorem st_law_157 (zz : Nat × Nat) (b L : Nat) (xs : Nat → Int32) (r : mx_T) (ls : mx_L) (st : List Value) (h : mx_H) (c n : Nat) : mx_G r (t_law zz b L xs) 157 ls st h c n = (o_sld b L xs) r (mx_G r (t_law zz b L xs)) 157 ls st h c n := mx_G_eq (tm_law zz b L xs) r 157 ls st h c n
theorem st_law_158 (zz : Nat × Nat) (b L : Nat) (xs : Nat → Int32) (r : mx_T) (ls : mx_L) (st : List Value) (h : mx_H) (c n : Nat) : mx_G r (t_law zz b L xs) 158 ls st h c n = (o_aload 1 0) r (mx_G r (t_law zz b L xs)) 158 ls st h c n := mx_G_eq (tm_law zz b L xs) r 158 ls st h c n
theorem st_law_159 (zz : Nat × Nat) (b L : Nat) (xs : Nat → Int32) (r : mx_T) (ls : mx_L) (st : List Value) (h : mx_H) (c n : Nat) : mx_G r (t_law zz b L xs) 159 ls st h c n = (o_iload 1 3) r (mx_G r (t_law zz b L xs)) 159 ls st h c n := mx_G_eq (tm_law zz b L xs) r 159 ls st h c n
theorem st_law_160 (zz : Nat × Nat) (b L : Nat) (xs : Nat → Int32) (r : mx_T) (ls : mx_L) (st : List Value) (h : mx_H) (c n : Nat) : mx_G r (t_law zz b L xs) 160 ls st h c n = (o_push 1 (.int 2)) r (mx_G r (t_law zz b L xs)) 160 ls st h c n := mx_G_eq (tm_law zz b L xs) r 160 ls st h c n
theorem st_law_161 (zz : Nat × Nat) (b L : Nat) (xs : Nat → Int32) (r : mx_T) (ls : mx_L) (st : List Value) (h : mx_H) (c n : Nat) : mx_G r (t_law zz b L xs) 161 ls st h c n = (o_ii (fun x y => x + y)) r (mx_G r (t_law zz b L xs)) 161 ls st h c n := mx_G_eq (tm_law zz b L xs) r 161 ls st h c n
theorem st_law_162 (zz : Nat × Nat) (b L : Nat) (xs : Nat → Int32) (r : mx_T) (ls : mx_L) (st : List Value) (h : mx_H) (c n : Nat) : mx_G r (t_law zz b L xs) 162 ls st h c n = (o_sld b L xs) r (mx_G r (t_law zz b L xs)) 162 ls st h c n := mx_G_eq (tm_law zz b L xs) r 162 ls st h c n
theorem st_law_163 (zz : Nat × Nat) (b L : Nat) (xs : Nat → Int32) (r : mx_T) (ls : mx_L) (st : List Value) (h : mx_H) (c n : Nat) : mx_G r (t_law zz b L xs) 163 ls st h c n = (o_aload 1 0) r (mx_G r (t_law zz b L xs)) 163 ls st h c n := mx_G_eq (tm_law zz b L xs) r 163 ls st h c n
theorem st_law_164 (zz : Nat × Nat) (b L : Nat) (xs : Nat → Int32) (r : mx_T) (ls : mx_L) (st : List Value) (h : mx_H) (c n : Nat) : mx_G r (t_law zz b L xs) 164 ls st h c n = (o_iload 1 3) r (mx_G r (t_law zz b L xs)) 164 ls st h c n := mx_G_eq (tm_law zz b L xs) r 164 ls st h c n
theorem st_law_165 (zz : Nat × Nat) (b L : Nat) (xs : Nat → Int32) (r : mx_T) (ls : mx_L) (st : List Value) (h : mx_H) (c n : Nat) : mx_G r (t_law zz b L xs) 165 ls st h c n = (o_push 1 (.int 3)) r (mx_G r (t_law zz b L xs)) 165 ls st h c n := mx_G_eq (tm_law zz b L xs) r 165 ls st h c n
theorem st_law_166 (zz : Nat × Nat) (b L : Nat) (xs : Nat → Int32) (r : mx_T) (ls : mx_L) (st : List Value) (h : mx_H) (c n : Nat) : mx_G r (t_law zz b L xs) 166 ls st h c n = (o_ii (fun x y => x + y)) r (mx_G r (t_law zz b L xs)) 166 ls st h c n := mx_G_eq (tm_law zz b L xs) r 166 ls st h c n
theorem st_law_167 (zz : Nat × Nat) (b L : Nat) (xs : Nat → Int32) (r : mx_T) (ls : mx_L) (st : List Value) (h : mx_H) (c n : Nat) : mx_G r (t_law zz b L xs) 167 ls st h c n = (o_sld b L xs) r (mx_G r (t_law zz b L xs)) 167 ls st h c n := mx_G_eq (tm_law zz b L xs) r 167 ls st h c n
theorem st_law_168 (zz : Nat × Nat) (b L : Nat) (xs : Nat → Int32) (r : mx_T) (ls : mx_L) (st : List Value) (h : mx_H) (c n : Nat) : mx_G r (t_law zz b L xs) 168 ls st h c n = (o_aload 1 0) r (mx_G r (t_law zz b L xs)) 168 ls st h c n := mx_G_eq (tm_law zz b L xs) r 168 ls st h c n
theorem st_law_169 (zz : Nat × Nat) (b L : Nat) (xs : Nat → Int32) (r : mx_T) (ls : mx_L) (st : List Value) (h : mx_H) (c n : Nat) : mx_G r (t_law zz b L xs) 169 ls st h c n = (o_iload 1 3) r (mx_G r (t_law zz b L xs)) 169 ls st h c n := mx_G_eq (tm_law zz b L xs) r 169 ls st h c n
theorem st_law_170 (zz : Nat × Nat) (b L : Nat) (xs : Nat → Int32) (r : mx_T) (ls : mx_L) (st : List Value) (h : mx_H) (c n : Nat) : mx_G r (t_law zz b L xs) 170 ls st h c n = (o_push 1 (.int 4)) r (mx_G r (t_law zz b L xs)) 170 ls st h c n := mx_G_eq (tm_law zz b L xs) r 170 ls st h c n
theorem st_law_171 (zz : Nat × Nat) (b L : Nat) (xs : Nat → Int32) (r : mx_T) (ls : mx_L) (st : List Value) (h : mx_H) (c n : Nat) : mx_G r (t_law zz b L xs) 171 ls st h c n = (o_ii (fun x y => x + y)) r (mx_G r (t_law zz b L xs)) 171 ls st h c n := mx_G_eq (tm_law zz b L xs) r 171 ls st h c n
theorem st_law_172 (zz : Nat × Nat) (b L : Nat) (xs : Nat → Int32) (r : mx_T) (ls : mx_L) (st : List Value) (h : mx_H) (c n : Nat) : mx_G r (t_law zz b L xs) 172 ls st h c n = (o_sld b L xs) r (mx_G r (t_law zz b L xs)) 172 ls st h c n := mx_G_eq (tm_law zz b L xs) r 172 ls st h c n
theorem st_law_173 (zz : Nat × Nat) (b L : Nat) (xs : Nat → Int32) (r : mx_T) (ls : mx_L) (st : List Value) (h : mx_H) (c n : Nat) : mx_G r (t_law zz b L xs) 173 ls st h c n = (o_if 180 (fun x => x = 0)) r (mx_G r (t_law zz b L xs)) 173 ls st h c n := mx_G_eq (tm_law zz b L xs) r 173 ls st h c n
theorem st_law_176 (zz : Nat × Nat) (b L : Nat) (xs : Nat → Int32) (r : mx_T) (ls : mx_L) (st : List Value) (h : mx_H) (c n : Nat) : mx_G r (t_law zz b L xs) 176 ls st h c n = (o_push 1 (.int 1)) r (mx_G r (t_law zz b L xs)) 176 ls st h c n := mx_G_eq (tm_law zz b L xs) r 176 ls st h c n
theorem st_law_177 (zz : Nat × Nat) (b L : Nat) (xs : Nat → Int32) (r : mx_T) (ls : mx_L) (st : List Value) (h : mx_H) (c n : Nat) : mx_G r (t_law zz b L xs) 177 ls st h c n = (o_goto 181) r (mx_G r (t_law zz b L xs)) 177 ls st h c n := mx_G_eq (tm_law zz b L xs) r 177 ls st h c n
theorem st_law_180 (zz : Nat × Nat) (b L : Nat) (xs : Nat → Int32) (r : mx_T) (ls : mx_L) (st : List Value) (h : mx_H) (c n : Nat) : mx_G r (t_law zz b L xs) 180 ls st h c n = (o_push 1 (.int 0)) r (mx_G r (t_law zz b L xs)) 180 ls st h c n := mx_G_eq (tm_law zz b L xs) r 180 ls st h c n
theorem st_law_181 (zz : Nat × Nat) (b L : Nat) (xs : Nat → Int32) (r : mx_T) (ls : mx_L) (st : List Value) (h : mx_H) (c n : Nat) : mx_G r (t_law zz b L xs) 181 ls st h c n = (o_callF 600000 7302250 5 0 0 (mx_rv 10) (S_Mo_frame zz)) r (mx_G r (t_law zz b L xs)) 181 ls st h c n := mx_G_eq (tm_law zz b L xs) r 181 ls st h c n
theorem st_law_184 (zz : Nat × Nat) (b L : Nat) (xs : Nat → Int32) (r : mx_T) (ls : mx_L) (st : List Value) (h : mx_H) (c n : Nat) : mx_G r (t_law zz b L xs) 184 ls st h c n = (o_icmp 680 (fun x y => x = y)) r (mx_G r (t_law zz b L xs)) 184 ls st h c n := mx_G_eq (tm_law zz b L xs) r 184 ls st h c n
theorem st_law_187 (zz : Nat × Nat) (b L : Nat) (xs : Nat → Int32) (r : mx_T) (ls : mx_L) (st : List Value) (h : mx_H) (c n : Nat) : mx_G r (t_law zz b L xs) 187 ls st h c n = (o_push 1 (.int 0)) r (mx_G r (t_law zz b L xs)) 187 ls st h c n := mx_G_eq (tm_law zz b L xs) r 187 ls st h c n
theorem st_law_188 (zz : Nat × Nat) (b L : Nat) (xs : Nat → Int32) (r : mx_T) (ls : mx_L) (st : List Value) (h : mx_H) (c n : Nat) : mx_G r (t_law zz b L xs) 188 ls st h c n = (o_iret) r (mx_G r (t_law zz b L xs)) 188 ls st h c n := mx_G_eq (tm_law zz b L xs) r 188 ls st h c n
theorem st_law_189 (zz : Nat × Nat) (b L : Nat) (xs : Nat → Int32) (r : mx_T) (ls : mx_L) (st : List Value) (h : mx_H) (c n : Nat) : mx_G r (t_law zz b L xs) 189 ls st h c n = (o_aload 1 1) r (mx_G r (t_law zz b L xs)) 189 ls st h c n := mx_G_eq (tm_law zz b L xs) r 189 ls st h c n
theorem st_law_190 (zz : Nat × Nat) (b L : Nat) (xs : Nat → Int32) (r : mx_T) (ls : mx_L) (st : List Value) (h : mx_H) (c n : Nat) : mx_G r (t_law zz b L xs) 190 ls st h c n = (o_aload 1 0) r (mx_G r (t_law zz b L xs)) 190 ls st h c n := mx_G_eq (tm_law zz b L xs) r 190 ls st h c n
theorem st_law_191 (zz : Nat × Nat) (b L : Nat) (xs : Nat → Int32) (r : mx_T) (ls : mx_L) (st : List Value) (h : mx_H) (c n : Nat) : mx_G r (t_law zz b L xs) 191 ls st h c n = (o_iload 1 3) r (mx_G r (t_law zz b L xs)) 191 ls st h c n := mx_G_eq (tm_law zz b L xs) r 191 ls st h c n
theorem st_law_192 (zz : Nat × Nat) (b L : Nat) (xs : Nat → Int32) (r : mx_T) (ls : mx_L) (st : List Value) (h : mx_H) (c n : Nat) : mx_G r (t_law zz b L xs) 192 ls st h c n = (o_push 1 (.int 1)) r (mx_G r (t_law zz b L xs)) 192 ls st h c n := mx_G_eq (tm_law zz b L xs) r 192 ls st h c n
theorem st_law_193 (zz : Nat × Nat) (b L : Nat) (xs : Nat → Int32) (r : mx_T) (ls : mx_L) (st : List Value) (h : mx_H) (c n : Nat) : mx_G r (t_law zz b L xs) 193 ls st h c n = (o_ii (fun x y => x + y)) r (mx_G r (t_law zz b L xs)) 193 ls st h c n := mx_G_eq (tm_law zz b L xs) r 193 ls st h c n
theorem st_law_194 (zz : Nat × Nat) (b L : Nat) (xs : Nat → Int32) (r : mx_T) (ls : mx_L) (st : List Value) (h : mx_H) (c n : Nat) : mx_G r (t_law zz b L xs) 194 ls st h c n = (o_sld b L xs) r (mx_G r (t_law zz b L xs)) 194 ls st h c n := mx_G_eq (tm_law zz b L xs) r 194 ls st h c n
theorem st_law_195 (zz : Nat × Nat) (b L : Nat) (xs : Nat → Int32) (r : mx_T) (ls : mx_L) (st : List Value) (h : mx_H) (c n : Nat) : mx_G r (t_law zz b L xs) 195 ls st h c n = (o_aload 1 0) r (mx_G r (t_law zz b L xs)) 195 ls st h c n := mx_G_eq (tm_law zz b L xs) r 195 ls st h c n
theorem st_law_196 (zz : Nat × Nat) (b L : Nat) (xs : Nat → Int32) (r : mx_T) (ls : mx_L) (st : List Value) (h : mx_H) (c n : Nat) : mx_G r (t_law zz b L xs) 196 ls st h c n = (o_iload 1 3) r (mx_G r (t_law zz b L xs)) 196 ls st h c n := mx_G_eq (tm_law zz b L xs) r 196 ls st h c n
theorem st_law_197 (zz : Nat × Nat) (b L : Nat) (xs : Nat → Int32) (r : mx_T) (ls : mx_L) (st : List Value) (h : mx_H) (c n : Nat) : mx_G r (t_law zz b L xs) 197 ls st h c n = (o_push 1 (.int 2)) r (mx_G r (t_law zz b L xs)) 197 ls st h c n := mx_G_eq (tm_law zz b L xs) r 197 ls st h c n
theorem st_law_198 (zz : Nat × Nat) (b L : Nat) (xs : Nat → Int32) (r : mx_T) (ls : mx_L) (st : List Value) (h : mx_H) (c n : Nat) : mx_G r (t_law zz b L xs) 198 ls st h c n = (o_ii (fun x y => x + y)) r (mx_G r (t_law zz b L xs)) 198 ls st h c n := mx_G_eq (tm_law zz b L xs) r 198 ls st h c n
theorem st_law_199 (zz : Nat × Nat) (b L : Nat) (xs : Nat → Int32) (r : mx_T) (ls : mx_L) (st : List Value) (h : mx_H) (c n : Nat) : mx_G r (t_law zz b L xs) 199 ls st h c n = (o_sld b L xs) r (mx_G r (t_law zz b L xs)) 199 ls st h c n := mx_G_eq (tm_law zz b L xs) r 199 ls st h c n
theorem st_law_200 (zz : Nat × Nat) (b L : Nat) (xs : Nat → Int32) (r : mx_T) (ls : mx_L) (st : List Value) (h : mx_H) (c n : Nat) : mx_G r (t_law zz b L xs) 200 ls st h c n = (o_aload 1 0) r (mx_G r (t_law zz b L xs)) 200 ls st h c n := mx_G_eq (tm_law zz b L xs) r 200 ls st h c n
theorem st_law_201 (zz : Nat × Nat) (b L : Nat) (xs : Nat → Int32) (r : mx_T) (ls : mx_L) (st : List Value) (h : mx_H) (c n : Nat) : mx_G r (t_law zz b L xs) 201 ls st h c n = (o_iload 1 3) r (mx_G r (t_law zz b L xs)) 201 ls st h c n := mx_G_eq (tm_law zz b L xs) r 201 ls st h c n
theorem st_law_202 (zz : Nat × Nat) (b L : Nat) (xs : Nat → Int32) (r : mx_T) (ls : mx_L) (st : List Value) (h : mx_H) (c n : Nat) : mx_G r (t_law zz b L xs) 202 ls st h c n = (o_push 1 (.int 3)) r (mx_G r (t_law zz b L xs)) 202 ls st h c n := mx_G_eq (tm_law zz b L xs) r 202 ls st h c n
set_option maxRecDepth 40000 in
theorem st_law_203 (zz : Nat × Nat) (b L : Nat) (xs : Nat → Int32) (r : mx_T) (ls : mx_L) (st : List Value) (h : mx_H) (c n : Nat) : mx_G r (t_law zz b L xs) 203 ls st h c n = (o_ii (fun x y => x + y)) r (mx_G r (t_law zz b L xs)) 203 ls st h c n := mx_G_eq (tm_law zz b L xs) r 203 ls st h c n
set_option maxRecDepth 40000 in
theorem st_law_204 (zz : Nat × Nat) (b L : Nat) (xs : Nat → Int32) (r : mx_T) (ls : mx_L) (st : List Value) (h : mx_H) (c n : Nat) : mx_G r (t_law zz b L xs) 204 ls st h c n = (o_sld b L xs) r (mx_G r (t_law zz b L xs)) 204 ls st h c n := mx_G_eq (tm_law zz b L xs) r 204 ls st h c n
set_option maxRecDepth 40000 in
theorem st_law_205 (zz : Nat × Nat) (b L : Nat) (xs : Nat → Int32) (r : mx_T) (ls : mx_L) (st : List Value) (h : mx_H) (c n : Nat) : mx_G r (t_law zz b L xs) 205 ls st h c n = (o_aload 1 0) r (mx_G r (t_law zz b L xs)) 205 ls st h c n := mx_G_eq (tm_law zz b L xs) r 205 ls st h c n
set_option maxRecDepth 40000 in
theorem st_law_206 (zz : Nat × Nat) (b L : Nat) (xs : Nat → Int32) (r : mx_T) (ls : mx_L) (st : List Value) (h : mx_H) (c n : Nat) : mx_G r (t_law zz b L xs) 206 ls st h c n = (o_iload 1 3) r (mx_G r (t_law zz b L xs)) 206 ls st h c n := mx_G_eq (tm_law zz b L xs) r 206 ls st h c n
set_option maxRecDepth 40000 in
theorem st_law_207 (zz : Nat × Nat) (b L : Nat) (xs : Nat → Int32) (r : mx_T) (ls : mx_L) (st : List Value) (h : mx_H) (c n : Nat) : mx_G r (t_law zz b L xs) 207 ls st h c n = (o_push 1 (.int 4)) r (mx_G r (t_law zz b L xs)) 207 ls st h c n := mx_G_eq (tm_law zz b L xs) r 207 ls st h c n
set_option maxRecDepth 40000 in
theorem st_law_208 (zz : Nat × Nat) (b L : Nat) (xs : Nat → Int32) (r : mx_T) (ls : mx_L) (st : List Value) (h : mx_H) (c n : Nat) : mx_G r (t_law zz b L xs) 208 ls st h c n = (o_ii (fun x y => x + y)) r (mx_G r (t_law zz b L xs)) 208 ls st h c n := mx_G_eq (tm_law zz b L xs) r 208 ls st h c n
set_option maxRecDepth 40000 in
theorem st_law_209 (zz : Nat × Nat) (b L : Nat) (xs : Nat → Int32) (r : mx_T) (ls : mx_L) (st : List Value) (h : mx_H) (c n : Nat) : mx_G r (t_law zz b L xs) 209 ls st h c n = (o_sld b L xs) r (mx_G r (t_law zz b L xs)) 209 ls st h c n := mx_G_eq (tm_law zz b L xs) r 209 ls st h c n
set_option maxRecDepth 40000 in
theorem st_law_210 (zz : Nat × Nat) (b L : Nat) (xs : Nat → Int32) (r : mx_T) (ls : mx_L) (st : List Value) (h : mx_H) (c n : Nat) : mx_G r (t_law zz b L xs) 210 ls st h c n = (o_callF 600000 7302250 5 3 133 (mx_rv 0) (S_Hs_signal zz)) r (mx_G r (t_law zz b L xs)) 210 ls st h c n := mx_G_eq (tm_law zz b L xs) r 210 ls st h c n
set_option maxRecDepth 40000 in
theorem st_law_213 (zz : Nat × Nat) (b L : Nat) (xs : Nat → Int32) (r : mx_T) (ls : mx_L) (st : List Value) (h : mx_H) (c n : Nat) : mx_G r (t_law zz b L xs) 213 ls st h c n = (o_aload 1 2) r (mx_G r (t_law zz b L xs)) 213 ls st h c n := mx_G_eq (tm_law zz b L xs) r 213 ls st h c n
set_option maxRecDepth 40000 in
theorem st_law_214 (zz : Nat × Nat) (b L : Nat) (xs : Nat → Int32) (r : mx_T) (ls : mx_L) (st : List Value) (h : mx_H) (c n : Nat) : mx_G r (t_law zz b L xs) 214 ls st h c n = (o_aload 1 0) r (mx_G r (t_law zz b L xs)) 214 ls st h c n := mx_G_eq (tm_law zz b L xs) r 214 ls st h c n
set_option maxRecDepth 40000 in
theorem st_law_215 (zz : Nat × Nat) (b L : Nat) (xs : Nat → Int32) (r : mx_T) (ls : mx_L) (st : List Value) (h : mx_H) (c n : Nat) : mx_G r (t_law zz b L xs) 215 ls st h c n = (o_iload 1 3) r (mx_G r (t_law zz b L xs)) 215 ls st h c n := mx_G_eq (tm_law zz b L xs) r 215 ls st h c n
set_option maxRecDepth 40000 in
theorem st_law_216 (zz : Nat × Nat) (b L : Nat) (xs : Nat → Int32) (r : mx_T) (ls : mx_L) (st : List Value) (h : mx_H) (c n : Nat) : mx_G r (t_law zz b L xs) 216 ls st h c n = (o_push 1 (.int 1)) r (mx_G r (t_law zz b L xs)) 216 ls st h c n := mx_G_eq (tm_law zz b L xs) r 216 ls st h c n
set_option maxRecDepth 40000 in
theorem st_law_217 (zz : Nat × Nat) (b L : Nat) (xs : Nat → Int32) (r : mx_T) (ls : mx_L) (st : List Value) (h : mx_H) (c n : Nat) : mx_G r (t_law zz b L xs) 217 ls st h c n = (o_ii (fun x y => x + y)) r (mx_G r (t_law zz b L xs)) 217 ls st h c n := mx_G_eq (tm_law zz b L xs) r 217 ls st h c n
set_option maxRecDepth 40000 in
theorem st_law_218 (zz : Nat × Nat) (b L : Nat) (xs : Nat → Int32) (r : mx_T) (ls : mx_L) (st : List Value) (h : mx_H) (c n : Nat) : mx_G r (t_law zz b L xs) 218 ls st h c n = (o_sld b L xs) r (mx_G r (t_law zz b L xs)) 218 ls st h c n := mx_G_eq (tm_law zz b L xs) r 218 ls st h c n
set_option maxRecDepth 40000 in
theorem st_law_219 (zz : Nat × Nat) (b L : Nat) (xs : Nat → Int32) (r : mx_T) (ls : mx_L) (st : List Value) (h : mx_H) (c n : Nat) : mx_G r (t_law zz b L xs) 219 ls st h c n = (o_aload 1 0) r (mx_G r (t_law zz b L xs)) 219 ls st h c n := mx_G_eq (tm_law zz b L xs) r 219 ls st h c n
set_option maxRecDepth 40000 in
theorem st_law_220 (zz : Nat × Nat) (b L : Nat) (xs : Nat → Int32) (r : mx_T) (ls : mx_L) (st : List Value) (h : mx_H) (c n : Nat) : mx_G r (t_law zz b L xs) 220 ls st h c n = (o_iload 1 3) r (mx_G r (t_law zz b L xs)) 220 ls st h c n := mx_G_eq (tm_law zz b L xs) r 220 ls st h c n
set_option maxRecDepth 40000 in
theorem st_law_221 (zz : Nat × Nat) (b L : Nat) (xs : Nat → Int32) (r : mx_T) (ls : mx_L) (st : List Value) (h : mx_H) (c n : Nat) : mx_G r (t_law zz b L xs) 221 ls st h c n = (o_push 1 (.int 2)) r (mx_G r (t_law zz b L xs)) 221 ls st h c n := mx_G_eq (tm_law zz b L xs) r 221 ls st h c n
set_option maxRecDepth 40000 in
theorem st_law_222 (zz : Nat × Nat) (b L : Nat) (xs : Nat → Int32) (r : mx_T) (ls : mx_L) (st : List Value) (h : mx_H) (c n : Nat) : mx_G r (t_law zz b L xs) 222 ls st h c n = (o_ii (fun x y => x + y)) r (mx_G r (t_law zz b L xs)) 222 ls st h c n := mx_G_eq (tm_law zz b L xs) r 222 ls st h c n
set_option maxRecDepth 40000 in
theorem st_law_223 (zz : Nat × Nat) (b L : Nat) (xs : Nat → Int32) (r : mx_T) (ls : mx_L) (st : List Value) (h : mx_H) (c n : Nat) : mx_G r (t_law zz b L xs) 223 ls st h c n = (o_sld b L xs) r (mx_G r (t_law zz b L xs)) 223 ls st h c n := mx_G_eq (tm_law zz b L xs) r 223 ls st h c n
set_option maxRecDepth 40000 in
theorem st_law_224 (zz : Nat × Nat) (b L : Nat) (xs : Nat → Int32) (r : mx_T) (ls : mx_L) (st : List Value) (h : mx_H) (c n : Nat) : mx_G r (t_law zz b L xs) 224 ls st h c n = (o_aload 1 0) r (mx_G r (t_law zz b L xs)) 224 ls st h c n := mx_G_eq (tm_law zz b L xs) r 224 ls st h c n
set_option maxRecDepth 40000 in
theorem st_law_225 (zz : Nat × Nat) (b L : Nat) (xs : Nat → Int32) (r : mx_T) (ls : mx_L) (st : List Value) (h : mx_H) (c n : Nat) : mx_G r (t_law zz b L xs) 225 ls st h c n = (o_iload 1 3) r (mx_G r (t_law zz b L xs)) 225 ls st h c n := mx_G_eq (tm_law zz b L xs) r 225 ls st h c n
set_option maxRecDepth 40000 in
theorem st_law_226 (zz : Nat × Nat) (b L : Nat) (xs : Nat → Int32) (r : mx_T) (ls : mx_L) (st : List Value) (h : mx_H) (c n : Nat) : mx_G r (t_law zz b L xs) 226 ls st h c n = (o_push 1 (.int 3)) r (mx_G r (t_law zz b L xs)) 226 ls st h c n := mx_G_eq (tm_law zz b L xs) r 226 ls st h c n
set_option maxRecDepth 40000 in
theorem st_law_227 (zz : Nat × Nat) (b L : Nat) (xs : Nat → Int32) (r : mx_T) (ls : mx_L) (st : List Value) (h : mx_H) (c n : Nat) : mx_G r (t_law zz b L xs) 227 ls st h c n = (o_ii (fun x y => x + y)) r (mx_G r (t_law zz b L xs)) 227 ls st h c n := mx_G_eq (tm_law zz b L xs) r 227 ls st h c n
set_option maxRecDepth 40000 in
theorem st_law_228 (zz : Nat × Nat) (b L : Nat) (xs : Nat → Int32) (r : mx_T) (ls : mx_L) (st : List Value) (h : mx_H) (c n : Nat) : mx_G r (t_law zz b L xs) 228 ls st h c n = (o_sld b L xs) r (mx_G r (t_law zz b L xs)) 228 ls st h c n := mx_G_eq (tm_law zz b L xs) r 228 ls st h c n
set_option maxRecDepth 40000 in
theorem st_law_229 (zz : Nat × Nat) (b L : Nat) (xs : Nat → Int32) (r : mx_T) (ls : mx_L) (st : List Value) (h : mx_H) (c n : Nat) : mx_G r (t_law zz b L xs) 229 ls st h c n = (o_aload 1 0) r (mx_G r (t_law zz b L xs)) 229 ls st h c n := mx_G_eq (tm_law zz b L xs) r 229 ls st h c n
set_option maxRecDepth 40000 in
theorem st_law_230 (zz : Nat × Nat) (b L : Nat) (xs : Nat → Int32) (r : mx_T) (ls : mx_L) (st : List Value) (h : mx_H) (c n : Nat) : mx_G r (t_law zz b L xs) 230 ls st h c n = (o_iload 1 3) r (mx_G r (t_law zz b L xs)) 230 ls st h c n := mx_G_eq (tm_law zz b L xs) r 230 ls st h c n
set_option maxRecDepth 40000 in
theorem st_law_231 (zz : Nat × Nat) (b L : Nat) (xs : Nat → Int32) (r : mx_T) (ls : mx_L) (st : List Value) (h : mx_H) (c n : Nat) : mx_G r (t_law zz b L xs) 231 ls st h c n = (o_push 1 (.int 4)) r (mx_G r (t_law zz b L xs)) 231 ls st h c n := mx_G_eq (tm_law zz b L xs) r 231 ls st h c n
set_option maxRecDepth 40000 in
theorem st_law_232 (zz : Nat × Nat) (b L : Nat) (xs : Nat → Int32) (r : mx_T) (ls : mx_L) (st : List Value) (h : mx_H) (c n : Nat) : mx_G r (t_law zz b L xs) 232 ls st h c n = (o_ii (fun x y => x + y)) r (mx_G r (t_law zz b L xs)) 232 ls st h c n := mx_G_eq (tm_law zz b L xs) r 232 ls st h c n
set_option maxRecDepth 40000 in
theorem st_law_233 (zz : Nat × Nat) (b L : Nat) (xs : Nat → Int32) (r : mx_T) (ls : mx_L) (st : List Value) (h : mx_H) (c n : Nat) : mx_G r (t_law zz b L xs) 233 ls st h c n = (o_sld b L xs) r (mx_G r (t_law zz b L xs)) 233 ls st h c n := mx_G_eq (tm_law zz b L xs) r 233 ls st h c n
set_option maxRecDepth 40000 in
theorem st_law_234 (zz : Nat × Nat) (b L : Nat) (xs : Nat → Int32) (r : mx_T) (ls : mx_L) (st : List Value) (h : mx_H) (c n : Nat) : mx_G r (t_law zz b L xs) 234 ls st h c n = (o_callF 600000 7302250 5 0 0 (mx_rv 10) (S_Mo_signal zz)) r (mx_G r (t_law zz b L xs)) 234 ls st h c n := mx_G_eq (tm_law zz b L xs) r 234 ls st h c n
set_option maxRecDepth 40000 in
theorem st_law_237 (zz : Nat × Nat) (b L : Nat) (xs : Nat → Int32) (r : mx_T) (ls : mx_L) (st : List Value) (h : mx_H) (c n : Nat) : mx_G r (t_law zz b L xs) 237 ls st h c n = (o_icmp 680 (fun x y => x = y)) r (mx_G r (t_law zz b L xs)) 237 ls st h c n := mx_G_eq (tm_law zz b L xs) r 237 ls st h c n
set_option maxRecDepth 40000 in
theorem st_law_240 (zz : Nat × Nat) (b L : Nat) (xs : Nat → Int32) (r : mx_T) (ls : mx_L) (st : List Value) (h : mx_H) (c n : Nat) : mx_G r (t_law zz b L xs) 240 ls st h c n = (o_push 1 (.int 0)) r (mx_G r (t_law zz b L xs)) 240 ls st h c n := mx_G_eq (tm_law zz b L xs) r 240 ls st h c n
set_option maxRecDepth 40000 in
theorem st_law_241 (zz : Nat × Nat) (b L : Nat) (xs : Nat → Int32) (r : mx_T) (ls : mx_L) (st : List Value) (h : mx_H) (c n : Nat) : mx_G r (t_law zz b L xs) 241 ls st h c n = (o_iret) r (mx_G r (t_law zz b L xs)) 241 ls st h c n := mx_G_eq (tm_law zz b L xs) r 241 ls st h c n
set_option maxRecDepth 40000 in
theorem st_law_242 (zz : Nat × Nat) (b L : Nat) (xs : Nat → Int32) (r : mx_T) (ls : mx_L) (st : List Value) (h : mx_H) (c n : Nat) : mx_G r (t_law zz b L xs) 242 ls st h c n = (o_aload 1 1) r (mx_G r (t_law zz b L xs)) 242 ls st h c n := mx_G_eq (tm_law zz b L xs) r 242 ls st h c n
set_option maxRecDepth 40000 in
theorem st_law_243 (zz : Nat × Nat) (b L : Nat) (xs : Nat → Int32) (r : mx_T) (ls : mx_L) (st : List Value) (h : mx_H) (c n : Nat) : mx_G r (t_law zz b L xs) 243 ls st h c n = (o_aload 1 0) r (mx_G r (t_law zz b L xs)) 243 ls st h c n := mx_G_eq (tm_law zz b L xs) r 243 ls st h c n
set_option maxRecDepth 40000 in
theorem st_law_244 (zz : Nat × Nat) (b L : Nat) (xs : Nat → Int32) (r : mx_T) (ls : mx_L) (st : List Value) (h : mx_H) (c n : Nat) : mx_G r (t_law zz b L xs) 244 ls st h c n = (o_iload 1 3) r (mx_G r (t_law zz b L xs)) 244 ls st h c n := mx_G_eq (tm_law zz b L xs) r 244 ls st h c n
set_option maxRecDepth 40000 in
theorem st_law_245 (zz : Nat × Nat) (b L : Nat) (xs : Nat → Int32) (r : mx_T) (ls : mx_L) (st : List Value) (h : mx_H) (c n : Nat) : mx_G r (t_law zz b L xs) 245 ls st h c n = (o_push 1 (.int 1)) r (mx_G r (t_law zz b L xs)) 245 ls st h c n := mx_G_eq (tm_law zz b L xs) r 245 ls st h c n
set_option maxRecDepth 40000 in
theorem st_law_246 (zz : Nat × Nat) (b L : Nat) (xs : Nat → Int32) (r : mx_T) (ls : mx_L) (st : List Value) (h : mx_H) (c n : Nat) : mx_G r (t_law zz b L xs) 246 ls st h c n = (o_ii (fun x y => x + y)) r (mx_G r (t_law zz b L xs)) 246 ls st h c n := mx_G_eq (tm_law zz b L xs) r 246 ls st h c n
set_option maxRecDepth 40000 in
theorem st_law_247 (zz : Nat × Nat) (b L : Nat) (xs : Nat → Int32) (r : mx_T) (ls : mx_L) (st : List Value) (h : mx_H) (c n : Nat) : mx_G r (t_law zz b L xs) 247 ls st h c n = (o_sld b L xs) r (mx_G r (t_law zz b L xs)) 247 ls st h c n := mx_G_eq (tm_law zz b L xs) r 247 ls st h c n
set_option maxRecDepth 40000 in
theorem st_law_248 (zz : Nat × Nat) (b L : Nat) (xs : Nat → Int32) (r : mx_T) (ls : mx_L) (st : List Value) (h : mx_H) (c n : Nat) : mx_G r (t_law zz b L xs) 248 ls st h c n = (o_aload 1 0) r (mx_G r (t_law zz b L xs)) 248 ls st h c n := mx_G_eq (tm_law zz b L xs) r 248 ls st h c n
set_option maxRecDepth 40000 in
theorem st_law_249 (zz : Nat × Nat) (b L : Nat) (xs : Nat → Int32) (r : mx_T) (ls : mx_L) (st : List Value) (h : mx_H) (c n : Nat) : mx_G r (t_law zz b L xs) 249 ls st h c n = (o_iload 1 3) r (mx_G r (t_law zz b L xs)) 249 ls st h c n := mx_G_eq (tm_law zz b L xs) r 249 ls st h c n
set_option maxRecDepth 40000 in
theorem st_law_250 (zz : Nat × Nat) (b L : Nat) (xs : Nat → Int32) (r : mx_T) (ls : mx_L) (st : List Value) (h : mx_H) (c n : Nat) : mx_G r (t_law zz b L xs) 250 ls st h c n = (o_push 1 (.int 2)) r (mx_G r (t_law zz b L xs)) 250 ls st h c n := mx_G_eq (tm_law zz b L xs) r 250 ls st h c n
set_option maxRecDepth 40000 in
theorem st_law_251 (zz : Nat × Nat) (b L : Nat) (xs : Nat → Int32) (r : mx_T) (ls : mx_L) (st : List Value) (h : mx_H) (c n : Nat) : mx_G r (t_law zz b L xs) 251 ls st h c n = (o_ii (fun x y => x + y)) r (mx_G r (t_law zz b L xs)) 251 ls st h c n := mx_G_eq (tm_law zz b L xs) r 251 ls st h c n
set_option maxRecDepth 40000 in
theorem st_law_252 (zz : Nat × Nat) (b L : Nat) (xs : Nat → Int32) (r : mx_T) (ls : mx_L) (st : List Value) (h : mx_H) (c n : Nat) : mx_G r (t_law zz b L xs) 252 ls st h c n = (o_sld b L xs) r (mx_G r (t_law zz b L xs)) 252 ls st h c n := mx_G_eq (tm_law zz b L xs) r 252 ls st h c n
set_option maxRecDepth 40000 in
theorem st_law_253 (zz : Nat × Nat) (b L : Nat) (xs : Nat → Int32) (r : mx_T) (ls : mx_L) (st : List Value) (h : mx_H) (c n : Nat) : mx_G r (t_law zz b L xs) 253 ls st h c n = (o_aload 1 0) r (mx_G r (t_law zz b L xs)) 253 ls st h c n := mx_G_eq (tm_law zz b L xs) r 253 ls st h c n
set_option maxRecDepth 40000 in
theorem st_law_254 (zz : Nat × Nat) (b L : Nat) (xs : Nat → Int32) (r : mx_T) (ls : mx_L) (st : List Value) (h : mx_H) (c n : Nat) : mx_G r (t_law zz b L xs) 254 ls st h c n = (o_iload 1 3) r (mx_G r (t_law zz b L xs)) 254 ls st h c n := mx_G_eq (tm_law zz b L xs) r 254 ls st h c n
set_option maxRecDepth 40000 in
theorem st_law_255 (zz : Nat × Nat) (b L : Nat) (xs : Nat → Int32) (r : mx_T) (ls : mx_L) (st : List Value) (h : mx_H) (c n : Nat) : mx_G r (t_law zz b L xs) 255 ls st h c n = (o_push 1 (.int 3)) r (mx_G r (t_law zz b L xs)) 255 ls st h c n := mx_G_eq (tm_law zz b L xs) r 255 ls st h c n
set_option maxRecDepth 40000 in
theorem st_law_256 (zz : Nat × Nat) (b L : Nat) (xs : Nat → Int32) (r : mx_T) (ls : mx_L) (st : List Value) (h : mx_H) (c n : Nat) : mx_G r (t_law zz b L xs) 256 ls st h c n = (o_ii (fun x y => x + y)) r (mx_G r (t_law zz b L xs)) 256 ls st h c n := mx_G_eq (tm_law zz b L xs) r 256 ls st h c n
set_option maxRecDepth 40000 in
theorem st_law_257 (zz : Nat × Nat) (b L : Nat) (xs : Nat → Int32) (r : mx_T) (ls : mx_L) (st : List Value) (h : mx_H) (c n : Nat) : mx_G r (t_law zz b L xs) 257 ls st h c n = (o_sld b L xs) r (mx_G r (t_law zz b L xs)) 257 ls st h c n := mx_G_eq (tm_law zz b L xs) r 257 ls st h c n
set_option maxRecDepth 40000 in
theorem st_law_258 (zz : Nat × Nat) (b L : Nat) (xs : Nat → Int32) (r : mx_T) (ls : mx_L) (st : List Value) (h : mx_H) (c n : Nat) : mx_G r (t_law zz b L xs) 258 ls st h c n = (o_callF 600000 7302250 4 5 134 (mx_rv 0) (S_Hs_sporadic zz)) r (mx_G r (t_law zz b L xs)) 258 ls st h c n := mx_G_eq (tm_law zz b L xs) r 258 ls st h c n
set_option maxRecDepth 40000 in
theorem st_law_261 (zz : Nat × Nat) (b L : Nat) (xs : Nat → Int32) (r : mx_T) (ls : mx_L) (st : List Value) (h : mx_H) (c n : Nat) : mx_G r (t_law zz b L xs) 261 ls st h c n = (o_aload 1 2) r (mx_G r (t_law zz b L xs)) 261 ls st h c n := mx_G_eq (tm_law zz b L xs) r 261 ls st h c n
set_option maxRecDepth 40000 in
theorem st_law_262 (zz : Nat × Nat) (b L : Nat) (xs : Nat → Int32) (r : mx_T) (ls : mx_L) (st : List Value) (h : mx_H) (c n : Nat) : mx_G r (t_law zz b L xs) 262 ls st h c n = (o_aload 1 0) r (mx_G r (t_law zz b L xs)) 262 ls st h c n := mx_G_eq (tm_law zz b L xs) r 262 ls st h c n
set_option maxRecDepth 40000 in
theorem st_law_263 (zz : Nat × Nat) (b L : Nat) (xs : Nat → Int32) (r : mx_T) (ls : mx_L) (st : List Value) (h : mx_H) (c n : Nat) : mx_G r (t_law zz b L xs) 263 ls st h c n = (o_iload 1 3) r (mx_G r (t_law zz b L xs)) 263 ls st h c n := mx_G_eq (tm_law zz b L xs) r 263 ls st h c n
set_option maxRecDepth 40000 in
theorem st_law_264 (zz : Nat × Nat) (b L : Nat) (xs : Nat → Int32) (r : mx_T) (ls : mx_L) (st : List Value) (h : mx_H) (c n : Nat) : mx_G r (t_law zz b L xs) 264 ls st h c n = (o_push 1 (.int 1)) r (mx_G r (t_law zz b L xs)) 264 ls st h c n := mx_G_eq (tm_law zz b L xs) r 264 ls st h c n
set_option maxRecDepth 40000 in
theorem st_law_265 (zz : Nat × Nat) (b L : Nat) (xs : Nat → Int32) (r : mx_T) (ls : mx_L) (st : List Value) (h : mx_H) (c n : Nat) : mx_G r (t_law zz b L xs) 265 ls st h c n = (o_ii (fun x y => x + y)) r (mx_G r (t_law zz b L xs)) 265 ls st h c n := mx_G_eq (tm_law zz b L xs) r 265 ls st h c n
set_option maxRecDepth 40000 in
theorem st_law_266 (zz : Nat × Nat) (b L : Nat) (xs : Nat → Int32) (r : mx_T) (ls : mx_L) (st : List Value) (h : mx_H) (c n : Nat) : mx_G r (t_law zz b L xs) 266 ls st h c n = (o_sld b L xs) r (mx_G r (t_law zz b L xs)) 266 ls st h c n := mx_G_eq (tm_law zz b L xs) r 266 ls st h c n
set_option maxRecDepth 40000 in
theorem st_law_267 (zz : Nat × Nat) (b L : Nat) (xs : Nat → Int32) (r : mx_T) (ls : mx_L) (st : List Value) (h : mx_H) (c n : Nat) : mx_G r (t_law zz b L xs) 267 ls st h c n = (o_aload 1 0) r (mx_G r (t_law zz b L xs)) 267 ls st h c n := mx_G_eq (tm_law zz b L xs) r 267 ls st h c n
set_option maxRecDepth 40000 in
theorem st_law_268 (zz : Nat × Nat) (b L : Nat) (xs : Nat → Int32) (r : mx_T) (ls : mx_L) (st : List Value) (h : mx_H) (c n : Nat) : mx_G r (t_law zz b L xs) 268 ls st h c n = (o_iload 1 3) r (mx_G r (t_law zz b L xs)) 268 ls st h c n := mx_G_eq (tm_law zz b L xs) r 268 ls st h c n
set_option maxRecDepth 40000 in
theorem st_law_269 (zz : Nat × Nat) (b L : Nat) (xs : Nat → Int32) (r : mx_T) (ls : mx_L) (st : List Value) (h : mx_H) (c n : Nat) : mx_G r (t_law zz b L xs) 269 ls st h c n = (o_push 1 (.int 2)) r (mx_G r (t_law zz b L xs)) 269 ls st h c n := mx_G_eq (tm_law zz b L xs) r 269 ls st h c n
set_option maxRecDepth 40000 in
theorem st_law_270 (zz : Nat × Nat) (b L : Nat) (xs : Nat → Int32) (r : mx_T) (ls : mx_L) (st : List Value) (h : mx_H) (c n : Nat) : mx_G r (t_law zz b L xs) 270 ls st h c n = (o_ii (fun x y => x + y)) r (mx_G r (t_law zz b L xs)) 270 ls st h c n := mx_G_eq (tm_law zz b L xs) r 270 ls st h c n
set_option maxRecDepth 40000 in
theorem st_law_271 (zz : Nat × Nat) (b L : Nat) (xs : Nat → Int32) (r : mx_T) (ls : mx_L) (st : List Value) (h : mx_H) (c n : Nat) : mx_G r (t_law zz b L xs) 271 ls st h c n = (o_sld b L xs) r (mx_G r (t_law zz b L xs)) 271 ls st h c n := mx_G_eq (tm_law zz b L xs) r 271 ls st h c n
set_option maxRecDepth 40000 in
theorem st_law_272 (zz : Nat × Nat) (b L : Nat) (xs : Nat → Int32) (r : mx_T) (ls : mx_L) (st : List Value) (h : mx_H) (c n : Nat) : mx_G r (t_law zz b L xs) 272 ls st h c n = (o_aload 1 0) r (mx_G r (t_law zz b L xs)) 272 ls st h c n := mx_G_eq (tm_law zz b L xs) r 272 ls st h c n
set_option maxRecDepth 40000 in
theorem st_law_273 (zz : Nat × Nat) (b L : Nat) (xs : Nat → Int32) (r : mx_T) (ls : mx_L) (st : List Value) (h : mx_H) (c n : Nat) : mx_G r (t_law zz b L xs) 273 ls st h c n = (o_iload 1 3) r (mx_G r (t_law zz b L xs)) 273 ls st h c n := mx_G_eq (tm_law zz b L xs) r 273 ls st h c n
set_option maxRecDepth 40000 in
theorem st_law_274 (zz : Nat × Nat) (b L : Nat) (xs : Nat → Int32) (r : mx_T) (ls : mx_L) (st : List Value) (h : mx_H) (c n : Nat) : mx_G r (t_law zz b L xs) 274 ls st h c n = (o_push 1 (.int 3)) r (mx_G r (t_law zz b L xs)) 274 ls st h c n := mx_G_eq (tm_law zz b L xs) r 274 ls st h c n
set_option maxRecDepth 40000 in
theorem st_law_275 (zz : Nat × Nat) (b L : Nat) (xs : Nat → Int32) (r : mx_T) (ls : mx_L) (st : List Value) (h : mx_H) (c n : Nat) : mx_G r (t_law zz b L xs) 275 ls st h c n = (o_ii (fun x y => x + y)) r (mx_G r (t_law zz b L xs)) 275 ls st h c n := mx_G_eq (tm_law zz b L xs) r 275 ls st h c n
set_option maxRecDepth 40000 in
theorem st_law_276 (zz : Nat × Nat) (b L : Nat) (xs : Nat → Int32) (r : mx_T) (ls : mx_L) (st : List Value) (h : mx_H) (c n : Nat) : mx_G r (t_law zz b L xs) 276 ls st h c n = (o_sld b L xs) r (mx_G r (t_law zz b L xs)) 276 ls st h c n := mx_G_eq (tm_law zz b L xs) r 276 ls st h c n
set_option maxRecDepth 40000 in
theorem st_law_277 (zz : Nat × Nat) (b L : Nat) (xs : Nat → Int32) (r : mx_T) (ls : mx_L) (st : List Value) (h : mx_H) (c n : Nat) : mx_G r (t_law zz b L xs) 277 ls st h c n = (o_callF 600000 7302250 4 0 0 (mx_rv 10) (S_Mo_sporadic zz)) r (mx_G r (t_law zz b L xs)) 277 ls st h c n := mx_G_eq (tm_law zz b L xs) r 277 ls st h c n
set_option maxRecDepth 40000 in
theorem st_law_280 (zz : Nat × Nat) (b L : Nat) (xs : Nat → Int32) (r : mx_T) (ls : mx_L) (st : List Value) (h : mx_H) (c n : Nat) : mx_G r (t_law zz b L xs) 280 ls st h c n = (o_icmp 680 (fun x y => x = y)) r (mx_G r (t_law zz b L xs)) 280 ls st h c n := mx_G_eq (tm_law zz b L xs) r 280 ls st h c n
set_option maxRecDepth 40000 in
theorem st_law_283 (zz : Nat × Nat) (b L : Nat) (xs : Nat → Int32) (r : mx_T) (ls : mx_L) (st : List Value) (h : mx_H) (c n : Nat) : mx_G r (t_law zz b L xs) 283 ls st h c n = (o_push 1 (.int 0)) r (mx_G r (t_law zz b L xs)) 283 ls st h c n := mx_G_eq (tm_law zz b L xs) r 283 ls st h c n
set_option maxRecDepth 40000 in
theorem st_law_284 (zz : Nat × Nat) (b L : Nat) (xs : Nat → Int32) (r : mx_T) (ls : mx_L) (st : List Value) (h : mx_H) (c n : Nat) : mx_G r (t_law zz b L xs) 284 ls st h c n = (o_iret) r (mx_G r (t_law zz b L xs)) 284 ls st h c n := mx_G_eq (tm_law zz b L xs) r 284 ls st h c n
set_option maxRecDepth 40000 in
theorem st_law_285 (zz : Nat × Nat) (b L : Nat) (xs : Nat → Int32) (r : mx_T) (ls : mx_L) (st : List Value) (h : mx_H) (c n : Nat) : mx_G r (t_law zz b L xs) 285 ls st h c n = (o_aload 1 1) r (mx_G r (t_law zz b L xs)) 285 ls st h c n := mx_G_eq (tm_law zz b L xs) r 285 ls st h c n
set_option maxRecDepth 40000 in
theorem st_law_286 (zz : Nat × Nat) (b L : Nat) (xs : Nat → Int32) (r : mx_T) (ls : mx_L) (st : List Value) (h : mx_H) (c n : Nat) : mx_G r (t_law zz b L xs) 286 ls st h c n = (o_aload 1 0) r (mx_G r (t_law zz b L xs)) 286 ls st h c n := mx_G_eq (tm_law zz b L xs) r 286 ls st h c n
set_option maxRecDepth 40000 in
theorem st_law_287 (zz : Nat × Nat) (b L : Nat) (xs : Nat → Int32) (r : mx_T) (ls : mx_L) (st : List Value) (h : mx_H) (c n : Nat) : mx_G r (t_law zz b L xs) 287 ls st h c n = (o_iload 1 3) r (mx_G r (t_law zz b L xs)) 287 ls st h c n := mx_G_eq (tm_law zz b L xs) r 287 ls st h c n
set_option maxRecDepth 40000 in
theorem st_law_288 (zz : Nat × Nat) (b L : Nat) (xs : Nat → Int32) (r : mx_T) (ls : mx_L) (st : List Value) (h : mx_H) (c n : Nat) : mx_G r (t_law zz b L xs) 288 ls st h c n = (o_push 1 (.int 1)) r (mx_G r (t_law zz b L xs)) 288 ls st h c n := mx_G_eq (tm_law zz b L xs) r 288 ls st h c n
set_option maxRecDepth 40000 in
theorem st_law_289 (zz : Nat × Nat) (b L : Nat) (xs : Nat → Int32) (r : mx_T) (ls : mx_L) (st : List Value) (h : mx_H) (c n : Nat) : mx_G r (t_law zz b L xs) 289 ls st h c n = (o_ii (fun x y => x + y)) r (mx_G r (t_law zz b L xs)) 289 ls st h c n := mx_G_eq (tm_law zz b L xs) r 289 ls st h c n
set_option maxRecDepth 40000 in
theorem st_law_290 (zz : Nat × Nat) (b L : Nat) (xs : Nat → Int32) (r : mx_T) (ls : mx_L) (st : List Value) (h : mx_H) (c n : Nat) : mx_G r (t_law zz b L xs) 290 ls st h c n = (o_sld b L xs) r (mx_G r (t_law zz b L xs)) 290 ls st h c n := mx_G_eq (tm_law zz b L xs) r 290 ls st h c n
set_option maxRecDepth 40000 in
theorem st_law_291 (zz : Nat × Nat) (b L : Nat) (xs : Nat → Int32) (r : mx_T) (ls : mx_L) (st : List Value) (h : mx_H) (c n : Nat) : mx_G r (t_law zz b L xs) 291 ls st h c n = (o_aload 1 0) r (mx_G r (t_law zz b L xs)) 291 ls st h c n := mx_G_eq (tm_law zz b L xs) r 291 ls st h c n
set_option maxRecDepth 40000 in
theorem st_law_292 (zz : Nat × Nat) (b L : Nat) (xs : Nat → Int32) (r : mx_T) (ls : mx_L) (st : List Value) (h : mx_H) (c n : Nat) : mx_G r (t_law zz b L xs) 292 ls st h c n = (o_iload 1 3) r (mx_G r (t_law zz b L xs)) 292 ls st h c n := mx_G_eq (tm_law zz b L xs) r 292 ls st h c n
set_option maxRecDepth 40000 in
theorem st_law_293 (zz : Nat × Nat) (b L : Nat) (xs : Nat → Int32) (r : mx_T) (ls : mx_L) (st : List Value) (h : mx_H) (c n : Nat) : mx_G r (t_law zz b L xs) 293 ls st h c n = (o_push 1 (.int 2)) r (mx_G r (t_law zz b L xs)) 293 ls st h c n := mx_G_eq (tm_law zz b L xs) r 293 ls st h c n
set_option maxRecDepth 40000 in
theorem st_law_294 (zz : Nat × Nat) (b L : Nat) (xs : Nat → Int32) (r : mx_T) (ls : mx_L) (st : List Value) (h : mx_H) (c n : Nat) : mx_G r (t_law zz b L xs) 294 ls st h c n = (o_ii (fun x y => x + y)) r (mx_G r (t_law zz b L xs)) 294 ls st h c n := mx_G_eq (tm_law zz b L xs) r 294 ls st h c n
set_option maxRecDepth 40000 in
theorem st_law_295 (zz : Nat × Nat) (b L : Nat) (xs : Nat → Int32) (r : mx_T) (ls : mx_L) (st : List Value) (h : mx_H) (c n : Nat) : mx_G r (t_law zz b L xs) 295 ls st h c n = (o_sld b L xs) r (mx_G r (t_law zz b L xs)) 295 ls st h c n := mx_G_eq (tm_law zz b L xs) r 295 ls st h c n
set_option maxRecDepth 40000 in
theorem st_law_296 (zz : Nat × Nat) (b L : Nat) (xs : Nat → Int32) (r : mx_T) (ls : mx_L) (st : List Value) (h : mx_H) (c n : Nat) : mx_G r (t_law zz b L xs) 296 ls st h c n = (o_aload 1 0) r (mx_G r (t_law zz b L xs)) 296 ls st h c n := mx_G_eq (tm_law zz b L xs) r 296 ls st h c n
set_option maxRecDepth 40000 in
theorem st_law_297 (zz : Nat × Nat) (b L : Nat) (xs : Nat → Int32) (r : mx_T) (ls : mx_L) (st : List Value) (h : mx_H) (c n : Nat) : mx_G r (t_law zz b L xs) 297 ls st h c n = (o_iload 1 3) r (mx_G r (t_law zz b L xs)) 297 ls st h c n := mx_G_eq (tm_law zz b L xs) r 297 ls st h c n
set_option maxRecDepth 40000 in
theorem st_law_298 (zz : Nat × Nat) (b L : Nat) (xs : Nat → Int32) (r : mx_T) (ls : mx_L) (st : List Value) (h : mx_H) (c n : Nat) : mx_G r (t_law zz b L xs) 298 ls st h c n = (o_push 1 (.int 3)) r (mx_G r (t_law zz b L xs)) 298 ls st h c n := mx_G_eq (tm_law zz b L xs) r 298 ls st h c n
set_option maxRecDepth 40000 in
theorem st_law_299 (zz : Nat × Nat) (b L : Nat) (xs : Nat → Int32) (r : mx_T) (ls : mx_L) (st : List Value) (h : mx_H) (c n : Nat) : mx_G r (t_law zz b L xs) 299 ls st h c n = (o_ii (fun x y => x + y)) r (mx_G r (t_law zz b L xs)) 299 ls st h c n := mx_G_eq (tm_law zz b L xs) r 299 ls st h c n
set_option maxRecDepth 40000 in
theorem st_law_300 (zz : Nat × Nat) (b L : Nat) (xs : Nat → Int32) (r : mx_T) (ls : mx_L) (st : List Value) (h : mx_H) (c n : Nat) : mx_G r (t_law zz b L xs) 300 ls st h c n = (o_sld b L xs) r (mx_G r (t_law zz b L xs)) 300 ls st h c n := mx_G_eq (tm_law zz b L xs) r 300 ls st h c n
set_option maxRecDepth 40000 in
theorem st_law_301 (zz : Nat × Nat) (b L : Nat) (xs : Nat → Int32) (r : mx_T) (ls : mx_L) (st : List Value) (h : mx_H) (c n : Nat) : mx_G r (t_law zz b L xs) 301 ls st h c n = (o_aload 1 0) r (mx_G r (t_law zz b L xs)) 301 ls st h c n := mx_G_eq (tm_law zz b L xs) r 301 ls st h c n
set_option maxRecDepth 40000 in
theorem st_law_302 (zz : Nat × Nat) (b L : Nat) (xs : Nat → Int32) (r : mx_T) (ls : mx_L) (st : List Value) (h : mx_H) (c n : Nat) : mx_G r (t_law zz b L xs) 302 ls st h c n = (o_iload 1 3) r (mx_G r (t_law zz b L xs)) 302 ls st h c n := mx_G_eq (tm_law zz b L xs) r 302 ls st h c n
set_option maxRecDepth 40000 in
theorem st_law_303 (zz : Nat × Nat) (b L : Nat) (xs : Nat → Int32) (r : mx_T) (ls : mx_L) (st : List Value) (h : mx_H) (c n : Nat) : mx_G r (t_law zz b L xs) 303 ls st h c n = (o_push 1 (.int 4)) r (mx_G r (t_law zz b L xs)) 303 ls st h c n := mx_G_eq (tm_law zz b L xs) r 303 ls st h c n
set_option maxRecDepth 40000 in
theorem st_law_304 (zz : Nat × Nat) (b L : Nat) (xs : Nat → Int32) (r : mx_T) (ls : mx_L) (st : List Value) (h : mx_H) (c n : Nat) : mx_G r (t_law zz b L xs) 304 ls st h c n = (o_ii (fun x y => x + y)) r (mx_G r (t_law zz b L xs)) 304 ls st h c n := mx_G_eq (tm_law zz b L xs) r 304 ls st h c n
set_option maxRecDepth 40000 in
theorem st_law_305 (zz : Nat × Nat) (b L : Nat) (xs : Nat → Int32) (r : mx_T) (ls : mx_L) (st : List Value) (h : mx_H) (c n : Nat) : mx_G r (t_law zz b L xs) 305 ls st h c n = (o_sld b L xs) r (mx_G r (t_law zz b L xs)) 305 ls st h c n := mx_G_eq (tm_law zz b L xs) r 305 ls st h c n
set_option maxRecDepth 40000 in
theorem st_law_306 (zz : Nat × Nat) (b L : Nat) (xs : Nat → Int32) (r : mx_T) (ls : mx_L) (st : List Value) (h : mx_H) (c n : Nat) : mx_G r (t_law zz b L xs) 306 ls st h c n = (o_aload 1 0) r (mx_G r (t_law zz b L xs)) 306 ls st h c n := mx_G_eq (tm_law zz b L xs) r 306 ls st h c n
set_option maxRecDepth 40000 in
theorem st_law_307 (zz : Nat × Nat) (b L : Nat) (xs : Nat → Int32) (r : mx_T) (ls : mx_L) (st : List Value) (h : mx_H) (c n : Nat) : mx_G r (t_law zz b L xs) 307 ls st h c n = (o_iload 1 3) r (mx_G r (t_law zz b L xs)) 307 ls st h c n := mx_G_eq (tm_law zz b L xs) r 307 ls st h c n
set_option maxRecDepth 40000 in
theorem st_law_308 (zz : Nat × Nat) (b L : Nat) (xs : Nat → Int32) (r : mx_T) (ls : mx_L) (st : List Value) (h : mx_H) (c n : Nat) : mx_G r (t_law zz b L xs) 308 ls st h c n = (o_push 1 (.int 5)) r (mx_G r (t_law zz b L xs)) 308 ls st h c n := mx_G_eq (tm_law zz b L xs) r 308 ls st h c n
set_option maxRecDepth 40000 in
theorem st_law_309 (zz : Nat × Nat) (b L : Nat) (xs : Nat → Int32) (r : mx_T) (ls : mx_L) (st : List Value) (h : mx_H) (c n : Nat) : mx_G r (t_law zz b L xs) 309 ls st h c n = (o_ii (fun x y => x + y)) r (mx_G r (t_law zz b L xs)) 309 ls st h c n := mx_G_eq (tm_law zz b L xs) r 309 ls st h c n
set_option maxRecDepth 40000 in
theorem st_law_310 (zz : Nat × Nat) (b L : Nat) (xs : Nat → Int32) (r : mx_T) (ls : mx_L) (st : List Value) (h : mx_H) (c n : Nat) : mx_G r (t_law zz b L xs) 310 ls st h c n = (o_sld b L xs) r (mx_G r (t_law zz b L xs)) 310 ls st h c n := mx_G_eq (tm_law zz b L xs) r 310 ls st h c n
set_option maxRecDepth 40000 in
theorem st_law_311 (zz : Nat × Nat) (b L : Nat) (xs : Nat → Int32) (r : mx_T) (ls : mx_L) (st : List Value) (h : mx_H) (c n : Nat) : mx_G r (t_law zz b L xs) 311 ls st h c n = (o_callF 600000 7302250 6 5 136 (mx_rv 0) (S_Hs_event zz)) r (mx_G r (t_law zz b L xs)) 311 ls st h c n := mx_G_eq (tm_law zz b L xs) r 311 ls st h c n
set_option maxRecDepth 40000 in
theorem st_law_314 (zz : Nat × Nat) (b L : Nat) (xs : Nat → Int32) (r : mx_T) (ls : mx_L) (st : List Value) (h : mx_H) (c n : Nat) : mx_G r (t_law zz b L xs) 314 ls st h c n = (o_aload 1 2) r (mx_G r (t_law zz b L xs)) 314 ls st h c n := mx_G_eq (tm_law zz b L xs) r 314 ls st h c n
set_option maxRecDepth 40000 in
theorem st_law_315 (zz : Nat × Nat) (b L : Nat) (xs : Nat → Int32) (r : mx_T) (ls : mx_L) (st : List Value) (h : mx_H) (c n : Nat) : mx_G r (t_law zz b L xs) 315 ls st h c n = (o_aload 1 0) r (mx_G r (t_law zz b L xs)) 315 ls st h c n := mx_G_eq (tm_law zz b L xs) r 315 ls st h c n
set_option maxRecDepth 40000 in
theorem st_law_316 (zz : Nat × Nat) (b L : Nat) (xs : Nat → Int32) (r : mx_T) (ls : mx_L) (st : List Value) (h : mx_H) (c n : Nat) : mx_G r (t_law zz b L xs) 316 ls st h c n = (o_iload 1 3) r (mx_G r (t_law zz b L xs)) 316 ls st h c n := mx_G_eq (tm_law zz b L xs) r 316 ls st h c n
set_option maxRecDepth 40000 in
theorem st_law_317 (zz : Nat × Nat) (b L : Nat) (xs : Nat → Int32) (r : mx_T) (ls : mx_L) (st : List Value) (h : mx_H) (c n : Nat) : mx_G r (t_law zz b L xs) 317 ls st h c n = (o_push 1 (.int 1)) r (mx_G r (t_law zz b L xs)) 317 ls st h c n := mx_G_eq (tm_law zz b L xs) r 317 ls st h c n
set_option maxRecDepth 40000 in
theorem st_law_318 (zz : Nat × Nat) (b L : Nat) (xs : Nat → Int32) (r : mx_T) (ls : mx_L) (st : List Value) (h : mx_H) (c n : Nat) : mx_G r (t_law zz b L xs) 318 ls st h c n = (o_ii (fun x y => x + y)) r (mx_G r (t_law zz b L xs)) 318 ls st h c n := mx_G_eq (tm_law zz b L xs) r 318 ls st h c n
set_option maxRecDepth 40000 in
theorem st_law_319 (zz : Nat × Nat) (b L : Nat) (xs : Nat → Int32) (r : mx_T) (ls : mx_L) (st : List Value) (h : mx_H) (c n : Nat) : mx_G r (t_law zz b L xs) 319 ls st h c n = (o_sld b L xs) r (mx_G r (t_law zz b L xs)) 319 ls st h c n := mx_G_eq (tm_law zz b L xs) r 319 ls st h c n
set_option maxRecDepth 40000 in
theorem st_law_320 (zz : Nat × Nat) (b L : Nat) (xs : Nat → Int32) (r : mx_T) (ls : mx_L) (st : List Value) (h : mx_H) (c n : Nat) : mx_G r (t_law zz b L xs) 320 ls st h c n = (o_aload 1 0) r (mx_G r (t_law zz b L xs)) 320 ls st h c n := mx_G_eq (tm_law zz b L xs) r 320 ls st h c n
set_option maxRecDepth 40000 in
theorem st_law_321 (zz : Nat × Nat) (b L : Nat) (xs : Nat → Int32) (r : mx_T) (ls : mx_L) (st : List Value) (h : mx_H) (c n : Nat) : mx_G r (t_law zz b L xs) 321 ls st h c n = (o_iload 1 3) r (mx_G r (t_law zz b L xs)) 321 ls st h c n := mx_G_eq (tm_law zz b L xs) r 321 ls st h c n
set_option maxRecDepth 40000 in
theorem st_law_322 (zz : Nat × Nat) (b L : Nat) (xs : Nat → Int32) (r : mx_T) (ls : mx_L) (st : List Value) (h : mx_H) (c n : Nat) : mx_G r (t_law zz b L xs) 322 ls st h c n = (o_push 1 (.int 2)) r (mx_G r (t_law zz b L xs)) 322 ls st h c n := mx_G_eq (tm_law zz b L xs) r 322 ls st h c n
set_option maxRecDepth 40000 in
theorem st_law_323 (zz : Nat × Nat) (b L : Nat) (xs : Nat → Int32) (r : mx_T) (ls : mx_L) (st : List Value) (h : mx_H) (c n : Nat) : mx_G r (t_law zz b L xs) 323 ls st h c n = (o_ii (fun x y => x + y)) r (mx_G r (t_law zz b L xs)) 323 ls st h c n := mx_G_eq (tm_law zz b L xs) r 323 ls st h c n
set_option maxRecDepth 40000 in
theorem st_law_324 (zz : Nat × Nat) (b L : Nat) (xs : Nat → Int32) (r : mx_T) (ls : mx_L) (st : List Value) (h : mx_H) (c n : Nat) : mx_G r (t_law zz b L xs) 324 ls st h c n = (o_sld b L xs) r (mx_G r (t_law zz b L xs)) 324 ls st h c n := mx_G_eq (tm_law zz b L xs) r 324 ls st h c n
set_option maxRecDepth 40000 in
theorem st_law_325 (zz : Nat × Nat) (b L : Nat) (xs : Nat → Int32) (r : mx_T) (ls : mx_L) (st : List Value) (h : mx_H) (c n : Nat) : mx_G r (t_law zz b L xs) 325 ls st h c n = (o_aload 1 0) r (mx_G r (t_law zz b L xs)) 325 ls st h c n := mx_G_eq (tm_law zz b L xs) r 325 ls st h c n
set_option maxRecDepth 40000 in
theorem st_law_326 (zz : Nat × Nat) (b L : Nat) (xs : Nat → Int32) (r : mx_T) (ls : mx_L) (st : List Value) (h : mx_H) (c n : Nat) : mx_G r (t_law zz b L xs) 326 ls st h c n = (o_iload 1 3) r (mx_G r (t_law zz b L xs)) 326 ls st h c n := mx_G_eq (tm_law zz b L xs) r 326 ls st h c n
set_option maxRecDepth 40000 in
theorem st_law_327 (zz : Nat × Nat) (b L : Nat) (xs : Nat → Int32) (r : mx_T) (ls : mx_L) (st : List Value) (h : mx_H) (c n : Nat) : mx_G r (t_law zz b L xs) 327 ls st h c n = (o_push 1 (.int 3)) r (mx_G r (t_law zz b L xs)) 327 ls st h c n := mx_G_eq (tm_law zz b L xs) r 327 ls st h c n
set_option maxRecDepth 40000 in
theorem st_law_328 (zz : Nat × Nat) (b L : Nat) (xs : Nat → Int32) (r : mx_T) (ls : mx_L) (st : List Value) (h : mx_H) (c n : Nat) : mx_G r (t_law zz b L xs) 328 ls st h c n = (o_ii (fun x y => x + y)) r (mx_G r (t_law zz b L xs)) 328 ls st h c n := mx_G_eq (tm_law zz b L xs) r 328 ls st h c n
set_option maxRecDepth 40000 in
theorem st_law_329 (zz : Nat × Nat) (b L : Nat) (xs : Nat → Int32) (r : mx_T) (ls : mx_L) (st : List Value) (h : mx_H) (c n : Nat) : mx_G r (t_law zz b L xs) 329 ls st h c n = (o_sld b L xs) r (mx_G r (t_law zz b L xs)) 329 ls st h c n := mx_G_eq (tm_law zz b L xs) r 329 ls st h c n
set_option maxRecDepth 40000 in
theorem st_law_330 (zz : Nat × Nat) (b L : Nat) (xs : Nat → Int32) (r : mx_T) (ls : mx_L) (st : List Value) (h : mx_H) (c n : Nat) : mx_G r (t_law zz b L xs) 330 ls st h c n = (o_aload 1 0) r (mx_G r (t_law zz b L xs)) 330 ls st h c n := mx_G_eq (tm_law zz b L xs) r 330 ls st h c n
set_option maxRecDepth 40000 in
theorem st_law_331 (zz : Nat × Nat) (b L : Nat) (xs : Nat → Int32) (r : mx_T) (ls : mx_L) (st : List Value) (h : mx_H) (c n : Nat) : mx_G r (t_law zz b L xs) 331 ls st h c n = (o_iload 1 3) r (mx_G r (t_law zz b L xs)) 331 ls st h c n := mx_G_eq (tm_law zz b L xs) r 331 ls st h c n
set_option maxRecDepth 40000 in
theorem st_law_332 (zz : Nat × Nat) (b L : Nat) (xs : Nat → Int32) (r : mx_T) (ls : mx_L) (st : List Value) (h : mx_H) (c n : Nat) : mx_G r (t_law zz b L xs) 332 ls st h c n = (o_push 1 (.int 4)) r (mx_G r (t_law zz b L xs)) 332 ls st h c n := mx_G_eq (tm_law zz b L xs) r 332 ls st h c n
set_option maxRecDepth 40000 in
theorem st_law_333 (zz : Nat × Nat) (b L : Nat) (xs : Nat → Int32) (r : mx_T) (ls : mx_L) (st : List Value) (h : mx_H) (c n : Nat) : mx_G r (t_law zz b L xs) 333 ls st h c n = (o_ii (fun x y => x + y)) r (mx_G r (t_law zz b L xs)) 333 ls st h c n := mx_G_eq (tm_law zz b L xs) r 333 ls st h c n
set_option maxRecDepth 40000 in
theorem st_law_334 (zz : Nat × Nat) (b L : Nat) (xs : Nat → Int32) (r : mx_T) (ls : mx_L) (st : List Value) (h : mx_H) (c n : Nat) : mx_G r (t_law zz b L xs) 334 ls st h c n = (o_sld b L xs) r (mx_G r (t_law zz b L xs)) 334 ls st h c n := mx_G_eq (tm_law zz b L xs) r 334 ls st h c n
set_option maxRecDepth 40000 in
theorem st_law_335 (zz : Nat × Nat) (b L : Nat) (xs : Nat → Int32) (r : mx_T) (ls : mx_L) (st : List Value) (h : mx_H) (c n : Nat) : mx_G r (t_law zz b L xs) 335 ls st h c n = (o_aload 1 0) r (mx_G r (t_law zz b L xs)) 335 ls st h c n := mx_G_eq (tm_law zz b L xs) r 335 ls st h c n
set_option maxRecDepth 40000 in
theorem st_law_336 (zz : Nat × Nat) (b L : Nat) (xs : Nat → Int32) (r : mx_T) (ls : mx_L) (st : List Value) (h : mx_H) (c n : Nat) : mx_G r (t_law zz b L xs) 336 ls st h c n = (o_iload 1 3) r (mx_G r (t_law zz b L xs)) 336 ls st h c n := mx_G_eq (tm_law zz b L xs) r 336 ls st h c n
set_option maxRecDepth 40000 in
theorem st_law_337 (zz : Nat × Nat) (b L : Nat) (xs : Nat → Int32) (r : mx_T) (ls : mx_L) (st : List Value) (h : mx_H) (c n : Nat) : mx_G r (t_law zz b L xs) 337 ls st h c n = (o_push 1 (.int 5)) r (mx_G r (t_law zz b L xs)) 337 ls st h c n := mx_G_eq (tm_law zz b L xs) r 337 ls st h c n
set_option maxRecDepth 40000 in
theorem st_law_338 (zz : Nat × Nat) (b L : Nat) (xs : Nat → Int32) (r : mx_T) (ls : mx_L) (st : List Value) (h : mx_H) (c n : Nat) : mx_G r (t_law zz b L xs) 338 ls st h c n = (o_ii (fun x y => x + y)) r (mx_G r (t_law zz b L xs)) 338 ls st h c n := mx_G_eq (tm_law zz b L xs) r 338 ls st h c n
set_option maxRecDepth 40000 in
theorem st_law_339 (zz : Nat × Nat) (b L : Nat) (xs : Nat → Int32) (r : mx_T) (ls : mx_L) (st : List Value) (h : mx_H) (c n : Nat) : mx_G r (t_law zz b L xs) 339 ls st h c n = (o_sld b L xs) r (mx_G r (t_law zz b L xs)) 339 ls st h c n := mx_G_eq (tm_law zz b L xs) r 339 ls st h c n
set_option maxRecDepth 40000 in
theorem st_law_340 (zz : Nat × Nat) (b L : Nat) (xs : Nat → Int32) (r : mx_T) (ls : mx_L) (st : List Value) (h : mx_H) (c n : Nat) : mx_G r (t_law zz b L xs) 340 ls st h c n = (o_callF 600000 7302250 6 0 0 (mx_rv 10) (S_Mo_event zz)) r (mx_G r (t_law zz b L xs)) 340 ls st h c n := mx_G_eq (tm_law zz b L xs) r 340 ls st h c n
set_option maxRecDepth 40000 in
theorem st_law_343 (zz : Nat × Nat) (b L : Nat) (xs : Nat → Int32) (r : mx_T) (ls : mx_L) (st : List Value) (h : mx_H) (c n : Nat) : mx_G r (t_law zz b L xs) 343 ls st h c n = (o_icmp 680 (fun x y => x = y)) r (mx_G r (t_law zz b L xs)) 343 ls st h c n := mx_G_eq (tm_law zz b L xs) r 343 ls st h c n
set_option maxRecDepth 40000 in
theorem st_law_346 (zz : Nat × Nat) (b L : Nat) (xs : Nat → Int32) (r : mx_T) (ls : mx_L) (st : List Value) (h : mx_H) (c n : Nat) : mx_G r (t_law zz b L xs) 346 ls st h c n = (o_push 1 (.int 0)) r (mx_G r (t_law zz b L xs)) 346 ls st h c n := mx_G_eq (tm_law zz b L xs) r 346 ls st h c n
set_option maxRecDepth 40000 in
theorem st_law_347 (zz : Nat × Nat) (b L : Nat) (xs : Nat → Int32) (r : mx_T) (ls : mx_L) (st : List Value) (h : mx_H) (c n : Nat) : mx_G r (t_law zz b L xs) 347 ls st h c n = (o_iret) r (mx_G r (t_law zz b L xs)) 347 ls st h c n := mx_G_eq (tm_law zz b L xs) r 347 ls st h c n
set_option maxRecDepth 40000 in
theorem st_law_348 (zz : Nat × Nat) (b L : Nat) (xs : Nat → Int32) (r : mx_T) (ls : mx_L) (st : List Value) (h : mx_H) (c n : Nat) : mx_G r (t_law zz b L xs) 348 ls st h c n = (o_aload 1 1) r (mx_G r (t_law zz b L xs)) 348 ls st h c n := mx_G_eq (tm_law zz b L xs) r 348 ls st h c n
set_option maxRecDepth 40000 in
theorem st_law_349 (zz : Nat × Nat) (b L : Nat) (xs : Nat → Int32) (r : mx_T) (ls : mx_L) (st : List Value) (h : mx_H) (c n : Nat) : mx_G r (t_law zz b L xs) 349 ls st h c n = (o_aload 1 0) r (mx_G r (t_law zz b L xs)) 349 ls st h c n := mx_G_eq (tm_law zz b L xs) r 349 ls st h c n
set_option maxRecDepth 40000 in
theorem st_law_350 (zz : Nat × Nat) (b L : Nat) (xs : Nat → Int32) (r : mx_T) (ls : mx_L) (st : List Value) (h : mx_H) (c n : Nat) : mx_G r (t_law zz b L xs) 350 ls st h c n = (o_iload 1 3) r (mx_G r (t_law zz b L xs)) 350 ls st h c n := mx_G_eq (tm_law zz b L xs) r 350 ls st h c n
set_option maxRecDepth 40000 in
theorem st_law_351 (zz : Nat × Nat) (b L : Nat) (xs : Nat → Int32) (r : mx_T) (ls : mx_L) (st : List Value) (h : mx_H) (c n : Nat) : mx_G r (t_law zz b L xs) 351 ls st h c n = (o_push 1 (.int 1)) r (mx_G r (t_law zz b L xs)) 351 ls st h c n := mx_G_eq (tm_law zz b L xs) r 351 ls st h c n
set_option maxRecDepth 40000 in
theorem st_law_352 (zz : Nat × Nat) (b L : Nat) (xs : Nat → Int32) (r : mx_T) (ls : mx_L) (st : List Value) (h : mx_H) (c n : Nat) : mx_G r (t_law zz b L xs) 352 ls st h c n = (o_ii (fun x y => x + y)) r (mx_G r (t_law zz b L xs)) 352 ls st h c n := mx_G_eq (tm_law zz b L xs) r 352 ls st h c n
set_option maxRecDepth 40000 in
theorem st_law_353 (zz : Nat × Nat) (b L : Nat) (xs : Nat → Int32) (r : mx_T) (ls : mx_L) (st : List Value) (h : mx_H) (c n : Nat) : mx_G r (t_law zz b L xs) 353 ls st h c n = (o_sld b L xs) r (mx_G r (t_law zz b L xs)) 353 ls st h c n := mx_G_eq (tm_law zz b L xs) r 353 ls st h c n
set_option maxRecDepth 40000 in
theorem st_law_354 (zz : Nat × Nat) (b L : Nat) (xs : Nat → Int32) (r : mx_T) (ls : mx_L) (st : List Value) (h : mx_H) (c n : Nat) : mx_G r (t_law zz b L xs) 354 ls st h c n = (o_aload 1 0) r (mx_G r (t_law zz b L xs)) 354 ls st h c n := mx_G_eq (tm_law zz b L xs) r 354 ls st h c n
set_option maxRecDepth 40000 in
theorem st_law_355 (zz : Nat × Nat) (b L : Nat) (xs : Nat → Int32) (r : mx_T) (ls : mx_L) (st : List Value) (h : mx_H) (c n : Nat) : mx_G r (t_law zz b L xs) 355 ls st h c n = (o_iload 1 3) r (mx_G r (t_law zz b L xs)) 355 ls st h c n := mx_G_eq (tm_law zz b L xs) r 355 ls st h c n
set_option maxRecDepth 40000 in
theorem st_law_356 (zz : Nat × Nat) (b L : Nat) (xs : Nat → Int32) (r : mx_T) (ls : mx_L) (st : List Value) (h : mx_H) (c n : Nat) : mx_G r (t_law zz b L xs) 356 ls st h c n = (o_push 1 (.int 2)) r (mx_G r (t_law zz b L xs)) 356 ls st h c n := mx_G_eq (tm_law zz b L xs) r 356 ls st h c n
set_option maxRecDepth 40000 in
theorem st_law_357 (zz : Nat × Nat) (b L : Nat) (xs : Nat → Int32) (r : mx_T) (ls : mx_L) (st : List Value) (h : mx_H) (c n : Nat) : mx_G r (t_law zz b L xs) 357 ls st h c n = (o_ii (fun x y => x + y)) r (mx_G r (t_law zz b L xs)) 357 ls st h c n := mx_G_eq (tm_law zz b L xs) r 357 ls st h c n
set_option maxRecDepth 40000 in
theorem st_law_358 (zz : Nat × Nat) (b L : Nat) (xs : Nat → Int32) (r : mx_T) (ls : mx_L) (st : List Value) (h : mx_H) (c n : Nat) : mx_G r (t_law zz b L xs) 358 ls st h c n = (o_sld b L xs) r (mx_G r (t_law zz b L xs)) 358 ls st h c n := mx_G_eq (tm_law zz b L xs) r 358 ls st h c n
set_option maxRecDepth 40000 in
theorem st_law_359 (zz : Nat × Nat) (b L : Nat) (xs : Nat → Int32) (r : mx_T) (ls : mx_L) (st : List Value) (h : mx_H) (c n : Nat) : mx_G r (t_law zz b L xs) 359 ls st h c n = (o_aload 1 0) r (mx_G r (t_law zz b L xs)) 359 ls st h c n := mx_G_eq (tm_law zz b L xs) r 359 ls st h c n
set_option maxRecDepth 40000 in
theorem st_law_360 (zz : Nat × Nat) (b L : Nat) (xs : Nat → Int32) (r : mx_T) (ls : mx_L) (st : List Value) (h : mx_H) (c n : Nat) : mx_G r (t_law zz b L xs) 360 ls st h c n = (o_iload 1 3) r (mx_G r (t_law zz b L xs)) 360 ls st h c n := mx_G_eq (tm_law zz b L xs) r 360 ls st h c n
set_option maxRecDepth 40000 in
theorem st_law_361 (zz : Nat × Nat) (b L : Nat) (xs : Nat → Int32) (r : mx_T) (ls : mx_L) (st : List Value) (h : mx_H) (c n : Nat) : mx_G r (t_law zz b L xs) 361 ls st h c n = (o_push 1 (.int 3)) r (mx_G r (t_law zz b L xs)) 361 ls st h c n := mx_G_eq (tm_law zz b L xs) r 361 ls st h c n
set_option maxRecDepth 40000 in
theorem st_law_362 (zz : Nat × Nat) (b L : Nat) (xs : Nat → Int32) (r : mx_T) (ls : mx_L) (st : List Value) (h : mx_H) (c n : Nat) : mx_G r (t_law zz b L xs) 362 ls st h c n = (o_ii (fun x y => x + y)) r (mx_G r (t_law zz b L xs)) 362 ls st h c n := mx_G_eq (tm_law zz b L xs) r 362 ls st h c n
set_option maxRecDepth 40000 in
theorem st_law_363 (zz : Nat × Nat) (b L : Nat) (xs : Nat → Int32) (r : mx_T) (ls : mx_L) (st : List Value) (h : mx_H) (c n : Nat) : mx_G r (t_law zz b L xs) 363 ls st h c n = (o_sld b L xs) r (mx_G r (t_law zz b L xs)) 363 ls st h c n := mx_G_eq (tm_law zz b L xs) r 363 ls st h c n
set_option maxRecDepth 40000 in
theorem st_law_364 (zz : Nat × Nat) (b L : Nat) (xs : Nat → Int32) (r : mx_T) (ls : mx_L) (st : List Value) (h : mx_H) (c n : Nat) : mx_G r (t_law zz b L xs) 364 ls st h c n = (o_aload 1 0) r (mx_G r (t_law zz b L xs)) 364 ls st h c n := mx_G_eq (tm_law zz b L xs) r 364 ls st h c n
set_option maxRecDepth 40000 in
theorem st_law_365 (zz : Nat × Nat) (b L : Nat) (xs : Nat → Int32) (r : mx_T) (ls : mx_L) (st : List Value) (h : mx_H) (c n : Nat) : mx_G r (t_law zz b L xs) 365 ls st h c n = (o_iload 1 3) r (mx_G r (t_law zz b L xs)) 365 ls st h c n := mx_G_eq (tm_law zz b L xs) r 365 ls st h c n
set_option maxRecDepth 40000 in
theorem st_law_366 (zz : Nat × Nat) (b L : Nat) (xs : Nat → Int32) (r : mx_T) (ls : mx_L) (st : List Value) (h : mx_H) (c n : Nat) : mx_G r (t_law zz b L xs) 366 ls st h c n = (o_push 1 (.int 4)) r (mx_G r (t_law zz b L xs)) 366 ls st h c n := mx_G_eq (tm_law zz b L xs) r 366 ls st h c n
set_option maxRecDepth 40000 in
theorem st_law_367 (zz : Nat × Nat) (b L : Nat) (xs : Nat → Int32) (r : mx_T) (ls : mx_L) (st : List Value) (h : mx_H) (c n : Nat) : mx_G r (t_law zz b L xs) 367 ls st h c n = (o_ii (fun x y => x + y)) r (mx_G r (t_law zz b L xs)) 367 ls st h c n := mx_G_eq (tm_law zz b L xs) r 367 ls st h c n
set_option maxRecDepth 40000 in
theorem st_law_368 (zz : Nat × Nat) (b L : Nat) (xs : Nat → Int32) (r : mx_T) (ls : mx_L) (st : List Value) (h : mx_H) (c n : Nat) : mx_G r (t_law zz b L xs) 368 ls st h c n = (o_sld b L xs) r (mx_G r (t_law zz b L xs)) 368 ls st h c n := mx_G_eq (tm_law zz b L xs) r 368 ls st h c n
set_option maxRecDepth 40000 in
theorem st_law_369 (zz : Nat × Nat) (b L : Nat) (xs : Nat → Int32) (r : mx_T) (ls : mx_L) (st : List Value) (h : mx_H) (c n : Nat) : mx_G r (t_law zz b L xs) 369 ls st h c n = (o_callF 600000 7302250 5 3 131 (mx_rv 0) (S_Hs_entry zz)) r (mx_G r (t_law zz b L xs)) 369 ls st h c n := mx_G_eq (tm_law zz b L xs) r 369 ls st h c n
set_option maxRecDepth 40000 in
theorem st_law_372 (zz : Nat × Nat) (b L : Nat) (xs : Nat → Int32) (r : mx_T) (ls : mx_L) (st : List Value) (h : mx_H) (c n : Nat) : mx_G r (t_law zz b L xs) 372 ls st h c n = (o_aload 1 2) r (mx_G r (t_law zz b L xs)) 372 ls st h c n := mx_G_eq (tm_law zz b L xs) r 372 ls st h c n
set_option maxRecDepth 40000 in
theorem st_law_373 (zz : Nat × Nat) (b L : Nat) (xs : Nat → Int32) (r : mx_T) (ls : mx_L) (st : List Value) (h : mx_H) (c n : Nat) : mx_G r (t_law zz b L xs) 373 ls st h c n = (o_aload 1 0) r (mx_G r (t_law zz b L xs)) 373 ls st h c n := mx_G_eq (tm_law zz b L xs) r 373 ls st h c n
set_option maxRecDepth 40000 in
theorem st_law_374 (zz : Nat × Nat) (b L : Nat) (xs : Nat → Int32) (r : mx_T) (ls : mx_L) (st : List Value) (h : mx_H) (c n : Nat) : mx_G r (t_law zz b L xs) 374 ls st h c n = (o_iload 1 3) r (mx_G r (t_law zz b L xs)) 374 ls st h c n := mx_G_eq (tm_law zz b L xs) r 374 ls st h c n
set_option maxRecDepth 40000 in
theorem st_law_375 (zz : Nat × Nat) (b L : Nat) (xs : Nat → Int32) (r : mx_T) (ls : mx_L) (st : List Value) (h : mx_H) (c n : Nat) : mx_G r (t_law zz b L xs) 375 ls st h c n = (o_push 1 (.int 1)) r (mx_G r (t_law zz b L xs)) 375 ls st h c n := mx_G_eq (tm_law zz b L xs) r 375 ls st h c n
set_option maxRecDepth 40000 in
theorem st_law_376 (zz : Nat × Nat) (b L : Nat) (xs : Nat → Int32) (r : mx_T) (ls : mx_L) (st : List Value) (h : mx_H) (c n : Nat) : mx_G r (t_law zz b L xs) 376 ls st h c n = (o_ii (fun x y => x + y)) r (mx_G r (t_law zz b L xs)) 376 ls st h c n := mx_G_eq (tm_law zz b L xs) r 376 ls st h c n
set_option maxRecDepth 40000 in
theorem st_law_377 (zz : Nat × Nat) (b L : Nat) (xs : Nat → Int32) (r : mx_T) (ls : mx_L) (st : List Value) (h : mx_H) (c n : Nat) : mx_G r (t_law zz b L xs) 377 ls st h c n = (o_sld b L xs) r (mx_G r (t_law zz b L xs)) 377 ls st h c n := mx_G_eq (tm_law zz b L xs) r 377 ls st h c n
set_option maxRecDepth 40000 in
theorem st_law_378 (zz : Nat × Nat) (b L : Nat) (xs : Nat → Int32) (r : mx_T) (ls : mx_L) (st : List Value) (h : mx_H) (c n : Nat) : mx_G r (t_law zz b L xs) 378 ls st h c n = (o_aload 1 0) r (mx_G r (t_law zz b L xs)) 378 ls st h c n := mx_G_eq (tm_law zz b L xs) r 378 ls st h c n
set_option maxRecDepth 40000 in
theorem st_law_379 (zz : Nat × Nat) (b L : Nat) (xs : Nat → Int32) (r : mx_T) (ls : mx_L) (st : List Value) (h : mx_H) (c n : Nat) : mx_G r (t_law zz b L xs) 379 ls st h c n = (o_iload 1 3) r (mx_G r (t_law zz b L xs)) 379 ls st h c n := mx_G_eq (tm_law zz b L xs) r 379 ls st h c n
set_option maxRecDepth 40000 in
theorem st_law_380 (zz : Nat × Nat) (b L : Nat) (xs : Nat → Int32) (r : mx_T) (ls : mx_L) (st : List Value) (h : mx_H) (c n : Nat) : mx_G r (t_law zz b L xs) 380 ls st h c n = (o_push 1 (.int 2)) r (mx_G r (t_law zz b L xs)) 380 ls st h c n := mx_G_eq (tm_law zz b L xs) r 380 ls st h c n
set_option maxRecDepth 40000 in
theorem st_law_381 (zz : Nat × Nat) (b L : Nat) (xs : Nat → Int32) (r : mx_T) (ls : mx_L) (st : List Value) (h : mx_H) (c n : Nat) : mx_G r (t_law zz b L xs) 381 ls st h c n = (o_ii (fun x y => x + y)) r (mx_G r (t_law zz b L xs)) 381 ls st h c n := mx_G_eq (tm_law zz b L xs) r 381 ls st h c n
set_option maxRecDepth 40000 in
theorem st_law_382 (zz : Nat × Nat) (b L : Nat) (xs : Nat → Int32) (r : mx_T) (ls : mx_L) (st : List Value) (h : mx_H) (c n : Nat) : mx_G r (t_law zz b L xs) 382 ls st h c n = (o_sld b L xs) r (mx_G r (t_law zz b L xs)) 382 ls st h c n := mx_G_eq (tm_law zz b L xs) r 382 ls st h c n
set_option maxRecDepth 40000 in
theorem st_law_383 (zz : Nat × Nat) (b L : Nat) (xs : Nat → Int32) (r : mx_T) (ls : mx_L) (st : List Value) (h : mx_H) (c n : Nat) : mx_G r (t_law zz b L xs) 383 ls st h c n = (o_aload 1 0) r (mx_G r (t_law zz b L xs)) 383 ls st h c n := mx_G_eq (tm_law zz b L xs) r 383 ls st h c n
set_option maxRecDepth 40000 in
theorem st_law_384 (zz : Nat × Nat) (b L : Nat) (xs : Nat → Int32) (r : mx_T) (ls : mx_L) (st : List Value) (h : mx_H) (c n : Nat) : mx_G r (t_law zz b L xs) 384 ls st h c n = (o_iload 1 3) r (mx_G r (t_law zz b L xs)) 384 ls st h c n := mx_G_eq (tm_law zz b L xs) r 384 ls st h c n
set_option maxRecDepth 40000 in
theorem st_law_385 (zz : Nat × Nat) (b L : Nat) (xs : Nat → Int32) (r : mx_T) (ls : mx_L) (st : List Value) (h : mx_H) (c n : Nat) : mx_G r (t_law zz b L xs) 385 ls st h c n = (o_push 1 (.int 3)) r (mx_G r (t_law zz b L xs)) 385 ls st h c n := mx_G_eq (tm_law zz b L xs) r 385 ls st h c n
set_option maxRecDepth 40000 in
theorem st_law_386 (zz : Nat × Nat) (b L : Nat) (xs : Nat → Int32) (r : mx_T) (ls : mx_L) (st : List Value) (h : mx_H) (c n : Nat) : mx_G r (t_law zz b L xs) 386 ls st h c n = (o_ii (fun x y => x + y)) r (mx_G r (t_law zz b L xs)) 386 ls st h c n := mx_G_eq (tm_law zz b L xs) r 386 ls st h c n
set_option maxRecDepth 40000 in
theorem st_law_387 (zz : Nat × Nat) (b L : Nat) (xs : Nat → Int32) (r : mx_T) (ls : mx_L) (st : List Value) (h : mx_H) (c n : Nat) : mx_G r (t_law zz b L xs) 387 ls st h c n = (o_sld b L xs) r (mx_G r (t_law zz b L xs)) 387 ls st h c n := mx_G_eq (tm_law zz b L xs) r 387 ls st h c n
set_option maxRecDepth 40000 in
theorem st_law_388 (zz : Nat × Nat) (b L : Nat) (xs : Nat → Int32) (r : mx_T) (ls : mx_L) (st : List Value) (h : mx_H) (c n : Nat) : mx_G r (t_law zz b L xs) 388 ls st h c n = (o_aload 1 0) r (mx_G r (t_law zz b L xs)) 388 ls st h c n := mx_G_eq (tm_law zz b L xs) r 388 ls st h c n
set_option maxRecDepth 40000 in
theorem st_law_389 (zz : Nat × Nat) (b L : Nat) (xs : Nat → Int32) (r : mx_T) (ls : mx_L) (st : List Value) (h : mx_H) (c n : Nat) : mx_G r (t_law zz b L xs) 389 ls st h c n = (o_iload 1 3) r (mx_G r (t_law zz b L xs)) 389 ls st h c n := mx_G_eq (tm_law zz b L xs) r 389 ls st h c n
set_option maxRecDepth 40000 in
theorem st_law_390 (zz : Nat × Nat) (b L : Nat) (xs : Nat → Int32) (r : mx_T) (ls : mx_L) (st : List Value) (h : mx_H) (c n : Nat) : mx_G r (t_law zz b L xs) 390 ls st h c n = (o_push 1 (.int 4)) r (mx_G r (t_law zz b L xs)) 390 ls st h c n := mx_G_eq (tm_law zz b L xs) r 390 ls st h c n
set_option maxRecDepth 40000 in
theorem st_law_391 (zz : Nat × Nat) (b L : Nat) (xs : Nat → Int32) (r : mx_T) (ls : mx_L) (st : List Value) (h : mx_H) (c n : Nat) : mx_G r (t_law zz b L xs) 391 ls st h c n = (o_ii (fun x y => x + y)) r (mx_G r (t_law zz b L xs)) 391 ls st h c n := mx_G_eq (tm_law zz b L xs) r 391 ls st h c n
set_option maxRecDepth 40000 in
theorem st_law_392 (zz : Nat × Nat) (b L : Nat) (xs : Nat → Int32) (r : mx_T) (ls : mx_L) (st : List Value) (h : mx_H) (c n : Nat) : mx_G r (t_law zz b L xs) 392 ls st h c n = (o_sld b L xs) r (mx_G r (t_law zz b L xs)) 392 ls st h c n := mx_G_eq (tm_law zz b L xs) r 392 ls st h c n
set_option maxRecDepth 40000 in
theorem st_law_393 (zz : Nat × Nat) (b L : Nat) (xs : Nat → Int32) (r : mx_T) (ls : mx_L) (st : List Value) (h : mx_H) (c n : Nat) : mx_G r (t_law zz b L xs) 393 ls st h c n = (o_callF 600000 7302250 5 0 0 (mx_rv 10) (S_Mo_entry zz)) r (mx_G r (t_law zz b L xs)) 393 ls st h c n := mx_G_eq (tm_law zz b L xs) r 393 ls st h c n
set_option maxRecDepth 40000 in
theorem st_law_396 (zz : Nat × Nat) (b L : Nat) (xs : Nat → Int32) (r : mx_T) (ls : mx_L) (st : List Value) (h : mx_H) (c n : Nat) : mx_G r (t_law zz b L xs) 396 ls st h c n = (o_icmp 680 (fun x y => x = y)) r (mx_G r (t_law zz b L xs)) 396 ls st h c n := mx_G_eq (tm_law zz b L xs) r 396 ls st h c n
set_option maxRecDepth 40000 in
theorem st_law_399 (zz : Nat × Nat) (b L : Nat) (xs : Nat → Int32) (r : mx_T) (ls : mx_L) (st : List Value) (h : mx_H) (c n : Nat) : mx_G r (t_law zz b L xs) 399 ls st h c n = (o_push 1 (.int 0)) r (mx_G r (t_law zz b L xs)) 399 ls st h c n := mx_G_eq (tm_law zz b L xs) r 399 ls st h c n
set_option maxRecDepth 40000 in
theorem st_law_400 (zz : Nat × Nat) (b L : Nat) (xs : Nat → Int32) (r : mx_T) (ls : mx_L) (st : List Value) (h : mx_H) (c n : Nat) : mx_G r (t_law zz b L xs) 400 ls st h c n = (o_iret) r (mx_G r (t_law zz b L xs)) 400 ls st h c n := mx_G_eq (tm_law zz b L xs) r 400 ls st h c n
set_option maxRecDepth 40000 in
theorem st_law_401 (zz : Nat × Nat) (b L : Nat) (xs : Nat → Int32) (r : mx_T) (ls : mx_L) (st : List Value) (h : mx_H) (c n : Nat) : mx_G r (t_law zz b L xs) 401 ls st h c n = (o_aload 1 1) r (mx_G r (t_law zz b L xs)) 401 ls st h c n := mx_G_eq (tm_law zz b L xs) r 401 ls st h c n
set_option maxRecDepth 40000 in
theorem st_law_402 (zz : Nat × Nat) (b L : Nat) (xs : Nat → Int32) (r : mx_T) (ls : mx_L) (st : List Value) (h : mx_H) (c n : Nat) : mx_G r (t_law zz b L xs) 402 ls st h c n = (o_aload 1 0) r (mx_G r (t_law zz b L xs)) 402 ls st h c n := mx_G_eq (tm_law zz b L xs) r 402 ls st h c n
set_option maxRecDepth 40000 in
theorem st_law_403 (zz : Nat × Nat) (b L : Nat) (xs : Nat → Int32) (r : mx_T) (ls : mx_L) (st : List Value) (h : mx_H) (c n : Nat) : mx_G r (t_law zz b L xs) 403 ls st h c n = (o_iload 1 3) r (mx_G r (t_law zz b L xs)) 403 ls st h c n := mx_G_eq (tm_law zz b L xs) r 403 ls st h c n
set_option maxRecDepth 40000 in
theorem st_law_404 (zz : Nat × Nat) (b L : Nat) (xs : Nat → Int32) (r : mx_T) (ls : mx_L) (st : List Value) (h : mx_H) (c n : Nat) : mx_G r (t_law zz b L xs) 404 ls st h c n = (o_push 1 (.int 1)) r (mx_G r (t_law zz b L xs)) 404 ls st h c n := mx_G_eq (tm_law zz b L xs) r 404 ls st h c n
set_option maxRecDepth 40000 in
theorem st_law_405 (zz : Nat × Nat) (b L : Nat) (xs : Nat → Int32) (r : mx_T) (ls : mx_L) (st : List Value) (h : mx_H) (c n : Nat) : mx_G r (t_law zz b L xs) 405 ls st h c n = (o_ii (fun x y => x + y)) r (mx_G r (t_law zz b L xs)) 405 ls st h c n := mx_G_eq (tm_law zz b L xs) r 405 ls st h c n
set_option maxRecDepth 40000 in
theorem st_law_406 (zz : Nat × Nat) (b L : Nat) (xs : Nat → Int32) (r : mx_T) (ls : mx_L) (st : List Value) (h : mx_H) (c n : Nat) : mx_G r (t_law zz b L xs) 406 ls st h c n = (o_sld b L xs) r (mx_G r (t_law zz b L xs)) 406 ls st h c n := mx_G_eq (tm_law zz b L xs) r 406 ls st h c n
set_option maxRecDepth 40000 in
theorem st_law_407 (zz : Nat × Nat) (b L : Nat) (xs : Nat → Int32) (r : mx_T) (ls : mx_L) (st : List Value) (h : mx_H) (c n : Nat) : mx_G r (t_law zz b L xs) 407 ls st h c n = (o_callF 600000 7302250 2 0 0 (mx_rv 0) (S_Hs_start zz)) r (mx_G r (t_law zz b L xs)) 407 ls st h c n := mx_G_eq (tm_law zz b L xs) r 407 ls st h c n
set_option maxRecDepth 40000 in
theorem st_law_410 (zz : Nat × Nat) (b L : Nat) (xs : Nat → Int32) (r : mx_T) (ls : mx_L) (st : List Value) (h : mx_H) (c n : Nat) : mx_G r (t_law zz b L xs) 410 ls st h c n = (o_aload 1 2) r (mx_G r (t_law zz b L xs)) 410 ls st h c n := mx_G_eq (tm_law zz b L xs) r 410 ls st h c n
set_option maxRecDepth 40000 in
theorem st_law_411 (zz : Nat × Nat) (b L : Nat) (xs : Nat → Int32) (r : mx_T) (ls : mx_L) (st : List Value) (h : mx_H) (c n : Nat) : mx_G r (t_law zz b L xs) 411 ls st h c n = (o_aload 1 0) r (mx_G r (t_law zz b L xs)) 411 ls st h c n := mx_G_eq (tm_law zz b L xs) r 411 ls st h c n
set_option maxRecDepth 40000 in
theorem st_law_412 (zz : Nat × Nat) (b L : Nat) (xs : Nat → Int32) (r : mx_T) (ls : mx_L) (st : List Value) (h : mx_H) (c n : Nat) : mx_G r (t_law zz b L xs) 412 ls st h c n = (o_iload 1 3) r (mx_G r (t_law zz b L xs)) 412 ls st h c n := mx_G_eq (tm_law zz b L xs) r 412 ls st h c n
set_option maxRecDepth 40000 in
theorem st_law_413 (zz : Nat × Nat) (b L : Nat) (xs : Nat → Int32) (r : mx_T) (ls : mx_L) (st : List Value) (h : mx_H) (c n : Nat) : mx_G r (t_law zz b L xs) 413 ls st h c n = (o_push 1 (.int 1)) r (mx_G r (t_law zz b L xs)) 413 ls st h c n := mx_G_eq (tm_law zz b L xs) r 413 ls st h c n
set_option maxRecDepth 40000 in
theorem st_law_414 (zz : Nat × Nat) (b L : Nat) (xs : Nat → Int32) (r : mx_T) (ls : mx_L) (st : List Value) (h : mx_H) (c n : Nat) : mx_G r (t_law zz b L xs) 414 ls st h c n = (o_ii (fun x y => x + y)) r (mx_G r (t_law zz b L xs)) 414 ls st h c n := mx_G_eq (tm_law zz b L xs) r 414 ls st h c n
set_option maxRecDepth 40000 in
theorem st_law_415 (zz : Nat × Nat) (b L : Nat) (xs : Nat → Int32) (r : mx_T) (ls : mx_L) (st : List Value) (h : mx_H) (c n : Nat) : mx_G r (t_law zz b L xs) 415 ls st h c n = (o_sld b L xs) r (mx_G r (t_law zz b L xs)) 415 ls st h c n := mx_G_eq (tm_law zz b L xs) r 415 ls st h c n
set_option maxRecDepth 40000 in
theorem st_law_416 (zz : Nat × Nat) (b L : Nat) (xs : Nat → Int32) (r : mx_T) (ls : mx_L) (st : List Value) (h : mx_H) (c n : Nat) : mx_G r (t_law zz b L xs) 416 ls st h c n = (o_callF 600000 7302250 2 0 0 (mx_rv 10) (S_Mo_start zz)) r (mx_G r (t_law zz b L xs)) 416 ls st h c n := mx_G_eq (tm_law zz b L xs) r 416 ls st h c n
set_option maxRecDepth 40000 in
theorem st_law_419 (zz : Nat × Nat) (b L : Nat) (xs : Nat → Int32) (r : mx_T) (ls : mx_L) (st : List Value) (h : mx_H) (c n : Nat) : mx_G r (t_law zz b L xs) 419 ls st h c n = (o_icmp 680 (fun x y => x = y)) r (mx_G r (t_law zz b L xs)) 419 ls st h c n := mx_G_eq (tm_law zz b L xs) r 419 ls st h c n
set_option maxRecDepth 40000 in
theorem st_law_422 (zz : Nat × Nat) (b L : Nat) (xs : Nat → Int32) (r : mx_T) (ls : mx_L) (st : List Value) (h : mx_H) (c n : Nat) : mx_G r (t_law zz b L xs) 422 ls st h c n = (o_push 1 (.int 0)) r (mx_G r (t_law zz b L xs)) 422 ls st h c n := mx_G_eq (tm_law zz b L xs) r 422 ls st h c n
set_option maxRecDepth 40000 in
theorem st_law_423 (zz : Nat × Nat) (b L : Nat) (xs : Nat → Int32) (r : mx_T) (ls : mx_L) (st : List Value) (h : mx_H) (c n : Nat) : mx_G r (t_law zz b L xs) 423 ls st h c n = (o_iret) r (mx_G r (t_law zz b L xs)) 423 ls st h c n := mx_G_eq (tm_law zz b L xs) r 423 ls st h c n
set_option maxRecDepth 40000 in
theorem st_law_424 (zz : Nat × Nat) (b L : Nat) (xs : Nat → Int32) (r : mx_T) (ls : mx_L) (st : List Value) (h : mx_H) (c n : Nat) : mx_G r (t_law zz b L xs) 424 ls st h c n = (o_aload 1 1) r (mx_G r (t_law zz b L xs)) 424 ls st h c n := mx_G_eq (tm_law zz b L xs) r 424 ls st h c n
set_option maxRecDepth 40000 in
theorem st_law_425 (zz : Nat × Nat) (b L : Nat) (xs : Nat → Int32) (r : mx_T) (ls : mx_L) (st : List Value) (h : mx_H) (c n : Nat) : mx_G r (t_law zz b L xs) 425 ls st h c n = (o_aload 1 0) r (mx_G r (t_law zz b L xs)) 425 ls st h c n := mx_G_eq (tm_law zz b L xs) r 425 ls st h c n
set_option maxRecDepth 40000 in
theorem st_law_426 (zz : Nat × Nat) (b L : Nat) (xs : Nat → Int32) (r : mx_T) (ls : mx_L) (st : List Value) (h : mx_H) (c n : Nat) : mx_G r (t_law zz b L xs) 426 ls st h c n = (o_iload 1 3) r (mx_G r (t_law zz b L xs)) 426 ls st h c n := mx_G_eq (tm_law zz b L xs) r 426 ls st h c n
set_option maxRecDepth 40000 in
theorem st_law_427 (zz : Nat × Nat) (b L : Nat) (xs : Nat → Int32) (r : mx_T) (ls : mx_L) (st : List Value) (h : mx_H) (c n : Nat) : mx_G r (t_law zz b L xs) 427 ls st h c n = (o_push 1 (.int 1)) r (mx_G r (t_law zz b L xs)) 427 ls st h c n := mx_G_eq (tm_law zz b L xs) r 427 ls st h c n
set_option maxRecDepth 40000 in
theorem st_law_428 (zz : Nat × Nat) (b L : Nat) (xs : Nat → Int32) (r : mx_T) (ls : mx_L) (st : List Value) (h : mx_H) (c n : Nat) : mx_G r (t_law zz b L xs) 428 ls st h c n = (o_ii (fun x y => x + y)) r (mx_G r (t_law zz b L xs)) 428 ls st h c n := mx_G_eq (tm_law zz b L xs) r 428 ls st h c n
set_option maxRecDepth 40000 in
theorem st_law_429 (zz : Nat × Nat) (b L : Nat) (xs : Nat → Int32) (r : mx_T) (ls : mx_L) (st : List Value) (h : mx_H) (c n : Nat) : mx_G r (t_law zz b L xs) 429 ls st h c n = (o_sld b L xs) r (mx_G r (t_law zz b L xs)) 429 ls st h c n := mx_G_eq (tm_law zz b L xs) r 429 ls st h c n
set_option maxRecDepth 40000 in
theorem st_law_430 (zz : Nat × Nat) (b L : Nat) (xs : Nat → Int32) (r : mx_T) (ls : mx_L) (st : List Value) (h : mx_H) (c n : Nat) : mx_G r (t_law zz b L xs) 430 ls st h c n = (o_aload 1 0) r (mx_G r (t_law zz b L xs)) 430 ls st h c n := mx_G_eq (tm_law zz b L xs) r 430 ls st h c n
set_option maxRecDepth 40000 in
theorem st_law_431 (zz : Nat × Nat) (b L : Nat) (xs : Nat → Int32) (r : mx_T) (ls : mx_L) (st : List Value) (h : mx_H) (c n : Nat) : mx_G r (t_law zz b L xs) 431 ls st h c n = (o_iload 1 3) r (mx_G r (t_law zz b L xs)) 431 ls st h c n := mx_G_eq (tm_law zz b L xs) r 431 ls st h c n
set_option maxRecDepth 40000 in
theorem st_law_432 (zz : Nat × Nat) (b L : Nat) (xs : Nat → Int32) (r : mx_T) (ls : mx_L) (st : List Value) (h : mx_H) (c n : Nat) : mx_G r (t_law zz b L xs) 432 ls st h c n = (o_push 1 (.int 2)) r (mx_G r (t_law zz b L xs)) 432 ls st h c n := mx_G_eq (tm_law zz b L xs) r 432 ls st h c n
set_option maxRecDepth 40000 in
theorem st_law_433 (zz : Nat × Nat) (b L : Nat) (xs : Nat → Int32) (r : mx_T) (ls : mx_L) (st : List Value) (h : mx_H) (c n : Nat) : mx_G r (t_law zz b L xs) 433 ls st h c n = (o_ii (fun x y => x + y)) r (mx_G r (t_law zz b L xs)) 433 ls st h c n := mx_G_eq (tm_law zz b L xs) r 433 ls st h c n
set_option maxRecDepth 40000 in
theorem st_law_434 (zz : Nat × Nat) (b L : Nat) (xs : Nat → Int32) (r : mx_T) (ls : mx_L) (st : List Value) (h : mx_H) (c n : Nat) : mx_G r (t_law zz b L xs) 434 ls st h c n = (o_sld b L xs) r (mx_G r (t_law zz b L xs)) 434 ls st h c n := mx_G_eq (tm_law zz b L xs) r 434 ls st h c n
set_option maxRecDepth 40000 in
theorem st_law_435 (zz : Nat × Nat) (b L : Nat) (xs : Nat → Int32) (r : mx_T) (ls : mx_L) (st : List Value) (h : mx_H) (c n : Nat) : mx_G r (t_law zz b L xs) 435 ls st h c n = (o_callF 600000 7302250 3 0 0 (mx_rv 0) (S_Hs_write zz)) r (mx_G r (t_law zz b L xs)) 435 ls st h c n := mx_G_eq (tm_law zz b L xs) r 435 ls st h c n
set_option maxRecDepth 40000 in
theorem st_law_438 (zz : Nat × Nat) (b L : Nat) (xs : Nat → Int32) (r : mx_T) (ls : mx_L) (st : List Value) (h : mx_H) (c n : Nat) : mx_G r (t_law zz b L xs) 438 ls st h c n = (o_aload 1 2) r (mx_G r (t_law zz b L xs)) 438 ls st h c n := mx_G_eq (tm_law zz b L xs) r 438 ls st h c n
set_option maxRecDepth 40000 in
theorem st_law_439 (zz : Nat × Nat) (b L : Nat) (xs : Nat → Int32) (r : mx_T) (ls : mx_L) (st : List Value) (h : mx_H) (c n : Nat) : mx_G r (t_law zz b L xs) 439 ls st h c n = (o_aload 1 0) r (mx_G r (t_law zz b L xs)) 439 ls st h c n := mx_G_eq (tm_law zz b L xs) r 439 ls st h c n
set_option maxRecDepth 40000 in
theorem st_law_440 (zz : Nat × Nat) (b L : Nat) (xs : Nat → Int32) (r : mx_T) (ls : mx_L) (st : List Value) (h : mx_H) (c n : Nat) : mx_G r (t_law zz b L xs) 440 ls st h c n = (o_iload 1 3) r (mx_G r (t_law zz b L xs)) 440 ls st h c n := mx_G_eq (tm_law zz b L xs) r 440 ls st h c n
set_option maxRecDepth 40000 in
theorem st_law_441 (zz : Nat × Nat) (b L : Nat) (xs : Nat → Int32) (r : mx_T) (ls : mx_L) (st : List Value) (h : mx_H) (c n : Nat) : mx_G r (t_law zz b L xs) 441 ls st h c n = (o_push 1 (.int 1)) r (mx_G r (t_law zz b L xs)) 441 ls st h c n := mx_G_eq (tm_law zz b L xs) r 441 ls st h c n
set_option maxRecDepth 40000 in
theorem st_law_442 (zz : Nat × Nat) (b L : Nat) (xs : Nat → Int32) (r : mx_T) (ls : mx_L) (st : List Value) (h : mx_H) (c n : Nat) : mx_G r (t_law zz b L xs) 442 ls st h c n = (o_ii (fun x y => x + y)) r (mx_G r (t_law zz b L xs)) 442 ls st h c n := mx_G_eq (tm_law zz b L xs) r 442 ls st h c n
set_option maxRecDepth 40000 in
theorem st_law_443 (zz : Nat × Nat) (b L : Nat) (xs : Nat → Int32) (r : mx_T) (ls : mx_L) (st : List Value) (h : mx_H) (c n : Nat) : mx_G r (t_law zz b L xs) 443 ls st h c n = (o_sld b L xs) r (mx_G r (t_law zz b L xs)) 443 ls st h c n := mx_G_eq (tm_law zz b L xs) r 443 ls st h c n
set_option maxRecDepth 40000 in
theorem st_law_444 (zz : Nat × Nat) (b L : Nat) (xs : Nat → Int32) (r : mx_T) (ls : mx_L) (st : List Value) (h : mx_H) (c n : Nat) : mx_G r (t_law zz b L xs) 444 ls st h c n = (o_aload 1 0) r (mx_G r (t_law zz b L xs)) 444 ls st h c n := mx_G_eq (tm_law zz b L xs) r 444 ls st h c n
set_option maxRecDepth 40000 in
theorem st_law_445 (zz : Nat × Nat) (b L : Nat) (xs : Nat → Int32) (r : mx_T) (ls : mx_L) (st : List Value) (h : mx_H) (c n : Nat) : mx_G r (t_law zz b L xs) 445 ls st h c n = (o_iload 1 3) r (mx_G r (t_law zz b L xs)) 445 ls st h c n := mx_G_eq (tm_law zz b L xs) r 445 ls st h c n
set_option maxRecDepth 40000 in
theorem st_law_446 (zz : Nat × Nat) (b L : Nat) (xs : Nat → Int32) (r : mx_T) (ls : mx_L) (st : List Value) (h : mx_H) (c n : Nat) : mx_G r (t_law zz b L xs) 446 ls st h c n = (o_push 1 (.int 2)) r (mx_G r (t_law zz b L xs)) 446 ls st h c n := mx_G_eq (tm_law zz b L xs) r 446 ls st h c n
set_option maxRecDepth 40000 in
theorem st_law_447 (zz : Nat × Nat) (b L : Nat) (xs : Nat → Int32) (r : mx_T) (ls : mx_L) (st : List Value) (h : mx_H) (c n : Nat) : mx_G r (t_law zz b L xs) 447 ls st h c n = (o_ii (fun x y => x + y)) r (mx_G r (t_law zz b L xs)) 447 ls st h c n := mx_G_eq (tm_law zz b L xs) r 447 ls st h c n
set_option maxRecDepth 40000 in
theorem st_law_448 (zz : Nat × Nat) (b L : Nat) (xs : Nat → Int32) (r : mx_T) (ls : mx_L) (st : List Value) (h : mx_H) (c n : Nat) : mx_G r (t_law zz b L xs) 448 ls st h c n = (o_sld b L xs) r (mx_G r (t_law zz b L xs)) 448 ls st h c n := mx_G_eq (tm_law zz b L xs) r 448 ls st h c n
set_option maxRecDepth 40000 in
theorem st_law_449 (zz : Nat × Nat) (b L : Nat) (xs : Nat → Int32) (r : mx_T) (ls : mx_L) (st : List Value) (h : mx_H) (c n : Nat) : mx_G r (t_law zz b L xs) 449 ls st h c n = (o_callF 600000 7302250 3 0 0 (mx_rv 10) (S_Mo_write zz)) r (mx_G r (t_law zz b L xs)) 449 ls st h c n := mx_G_eq (tm_law zz b L xs) r 449 ls st h c n
set_option maxRecDepth 40000 in
theorem st_law_452 (zz : Nat × Nat) (b L : Nat) (xs : Nat → Int32) (r : mx_T) (ls : mx_L) (st : List Value) (h : mx_H) (c n : Nat) : mx_G r (t_law zz b L xs) 452 ls st h c n = (o_icmp 680 (fun x y => x = y)) r (mx_G r (t_law zz b L xs)) 452 ls st h c n := mx_G_eq (tm_law zz b L xs) r 452 ls st h c n
set_option maxRecDepth 40000 in
theorem st_law_455 (zz : Nat × Nat) (b L : Nat) (xs : Nat → Int32) (r : mx_T) (ls : mx_L) (st : List Value) (h : mx_H) (c n : Nat) : mx_G r (t_law zz b L xs) 455 ls st h c n = (o_push 1 (.int 0)) r (mx_G r (t_law zz b L xs)) 455 ls st h c n := mx_G_eq (tm_law zz b L xs) r 455 ls st h c n
set_option maxRecDepth 40000 in
theorem st_law_456 (zz : Nat × Nat) (b L : Nat) (xs : Nat → Int32) (r : mx_T) (ls : mx_L) (st : List Value) (h : mx_H) (c n : Nat) : mx_G r (t_law zz b L xs) 456 ls st h c n = (o_iret) r (mx_G r (t_law zz b L xs)) 456 ls st h c n := mx_G_eq (tm_law zz b L xs) r 456 ls st h c n
set_option maxRecDepth 40000 in
theorem st_law_457 (zz : Nat × Nat) (b L : Nat) (xs : Nat → Int32) (r : mx_T) (ls : mx_L) (st : List Value) (h : mx_H) (c n : Nat) : mx_G r (t_law zz b L xs) 457 ls st h c n = (o_aload 1 1) r (mx_G r (t_law zz b L xs)) 457 ls st h c n := mx_G_eq (tm_law zz b L xs) r 457 ls st h c n
set_option maxRecDepth 40000 in
theorem st_law_458 (zz : Nat × Nat) (b L : Nat) (xs : Nat → Int32) (r : mx_T) (ls : mx_L) (st : List Value) (h : mx_H) (c n : Nat) : mx_G r (t_law zz b L xs) 458 ls st h c n = (o_aload 1 0) r (mx_G r (t_law zz b L xs)) 458 ls st h c n := mx_G_eq (tm_law zz b L xs) r 458 ls st h c n
set_option maxRecDepth 40000 in
theorem st_law_459 (zz : Nat × Nat) (b L : Nat) (xs : Nat → Int32) (r : mx_T) (ls : mx_L) (st : List Value) (h : mx_H) (c n : Nat) : mx_G r (t_law zz b L xs) 459 ls st h c n = (o_iload 1 3) r (mx_G r (t_law zz b L xs)) 459 ls st h c n := mx_G_eq (tm_law zz b L xs) r 459 ls st h c n
set_option maxRecDepth 40000 in
theorem st_law_460 (zz : Nat × Nat) (b L : Nat) (xs : Nat → Int32) (r : mx_T) (ls : mx_L) (st : List Value) (h : mx_H) (c n : Nat) : mx_G r (t_law zz b L xs) 460 ls st h c n = (o_push 1 (.int 1)) r (mx_G r (t_law zz b L xs)) 460 ls st h c n := mx_G_eq (tm_law zz b L xs) r 460 ls st h c n
set_option maxRecDepth 40000 in
theorem st_law_461 (zz : Nat × Nat) (b L : Nat) (xs : Nat → Int32) (r : mx_T) (ls : mx_L) (st : List Value) (h : mx_H) (c n : Nat) : mx_G r (t_law zz b L xs) 461 ls st h c n = (o_ii (fun x y => x + y)) r (mx_G r (t_law zz b L xs)) 461 ls st h c n := mx_G_eq (tm_law zz b L xs) r 461 ls st h c n
set_option maxRecDepth 40000 in
theorem st_law_462 (zz : Nat × Nat) (b L : Nat) (xs : Nat → Int32) (r : mx_T) (ls : mx_L) (st : List Value) (h : mx_H) (c n : Nat) : mx_G r (t_law zz b L xs) 462 ls st h c n = (o_sld b L xs) r (mx_G r (t_law zz b L xs)) 462 ls st h c n := mx_G_eq (tm_law zz b L xs) r 462 ls st h c n
set_option maxRecDepth 40000 in
theorem st_law_463 (zz : Nat × Nat) (b L : Nat) (xs : Nat → Int32) (r : mx_T) (ls : mx_L) (st : List Value) (h : mx_H) (c n : Nat) : mx_G r (t_law zz b L xs) 463 ls st h c n = (o_callF 600000 7302250 2 0 0 (mx_rv 0) (S_Hs_read zz)) r (mx_G r (t_law zz b L xs)) 463 ls st h c n := mx_G_eq (tm_law zz b L xs) r 463 ls st h c n
set_option maxRecDepth 40000 in
theorem st_law_466 (zz : Nat × Nat) (b L : Nat) (xs : Nat → Int32) (r : mx_T) (ls : mx_L) (st : List Value) (h : mx_H) (c n : Nat) : mx_G r (t_law zz b L xs) 466 ls st h c n = (o_aload 1 2) r (mx_G r (t_law zz b L xs)) 466 ls st h c n := mx_G_eq (tm_law zz b L xs) r 466 ls st h c n
set_option maxRecDepth 40000 in
theorem st_law_467 (zz : Nat × Nat) (b L : Nat) (xs : Nat → Int32) (r : mx_T) (ls : mx_L) (st : List Value) (h : mx_H) (c n : Nat) : mx_G r (t_law zz b L xs) 467 ls st h c n = (o_aload 1 0) r (mx_G r (t_law zz b L xs)) 467 ls st h c n := mx_G_eq (tm_law zz b L xs) r 467 ls st h c n
set_option maxRecDepth 40000 in
theorem st_law_468 (zz : Nat × Nat) (b L : Nat) (xs : Nat → Int32) (r : mx_T) (ls : mx_L) (st : List Value) (h : mx_H) (c n : Nat) : mx_G r (t_law zz b L xs) 468 ls st h c n = (o_iload 1 3) r (mx_G r (t_law zz b L xs)) 468 ls st h c n := mx_G_eq (tm_law zz b L xs) r 468 ls st h c n
set_option maxRecDepth 40000 in
theorem st_law_469 (zz : Nat × Nat) (b L : Nat) (xs : Nat → Int32) (r : mx_T) (ls : mx_L) (st : List Value) (h : mx_H) (c n : Nat) : mx_G r (t_law zz b L xs) 469 ls st h c n = (o_push 1 (.int 1)) r (mx_G r (t_law zz b L xs)) 469 ls st h c n := mx_G_eq (tm_law zz b L xs) r 469 ls st h c n
set_option maxRecDepth 40000 in
theorem st_law_470 (zz : Nat × Nat) (b L : Nat) (xs : Nat → Int32) (r : mx_T) (ls : mx_L) (st : List Value) (h : mx_H) (c n : Nat) : mx_G r (t_law zz b L xs) 470 ls st h c n = (o_ii (fun x y => x + y)) r (mx_G r (t_law zz b L xs)) 470 ls st h c n := mx_G_eq (tm_law zz b L xs) r 470 ls st h c n
set_option maxRecDepth 40000 in
theorem st_law_471 (zz : Nat × Nat) (b L : Nat) (xs : Nat → Int32) (r : mx_T) (ls : mx_L) (st : List Value) (h : mx_H) (c n : Nat) : mx_G r (t_law zz b L xs) 471 ls st h c n = (o_sld b L xs) r (mx_G r (t_law zz b L xs)) 471 ls st h c n := mx_G_eq (tm_law zz b L xs) r 471 ls st h c n
set_option maxRecDepth 40000 in
theorem st_law_472 (zz : Nat × Nat) (b L : Nat) (xs : Nat → Int32) (r : mx_T) (ls : mx_L) (st : List Value) (h : mx_H) (c n : Nat) : mx_G r (t_law zz b L xs) 472 ls st h c n = (o_callF 600000 7302250 2 0 0 (mx_rv 10) (S_Mo_read zz)) r (mx_G r (t_law zz b L xs)) 472 ls st h c n := mx_G_eq (tm_law zz b L xs) r 472 ls st h c n
set_option maxRecDepth 40000 in
theorem st_law_475 (zz : Nat × Nat) (b L : Nat) (xs : Nat → Int32) (r : mx_T) (ls : mx_L) (st : List Value) (h : mx_H) (c n : Nat) : mx_G r (t_law zz b L xs) 475 ls st h c n = (o_icmp 680 (fun x y => x = y)) r (mx_G r (t_law zz b L xs)) 475 ls st h c n := mx_G_eq (tm_law zz b L xs) r 475 ls st h c n
set_option maxRecDepth 40000 in
theorem st_law_478 (zz : Nat × Nat) (b L : Nat) (xs : Nat → Int32) (r : mx_T) (ls : mx_L) (st : List Value) (h : mx_H) (c n : Nat) : mx_G r (t_law zz b L xs) 478 ls st h c n = (o_push 1 (.int 0)) r (mx_G r (t_law zz b L xs)) 478 ls st h c n := mx_G_eq (tm_law zz b L xs) r 478 ls st h c n
set_option maxRecDepth 40000 in
theorem st_law_479 (zz : Nat × Nat) (b L : Nat) (xs : Nat → Int32) (r : mx_T) (ls : mx_L) (st : List Value) (h : mx_H) (c n : Nat) : mx_G r (t_law zz b L xs) 479 ls st h c n = (o_iret) r (mx_G r (t_law zz b L xs)) 479 ls st h c n := mx_G_eq (tm_law zz b L xs) r 479 ls st h c n
set_option maxRecDepth 40000 in
theorem st_law_480 (zz : Nat × Nat) (b L : Nat) (xs : Nat → Int32) (r : mx_T) (ls : mx_L) (st : List Value) (h : mx_H) (c n : Nat) : mx_G r (t_law zz b L xs) 480 ls st h c n = (o_aload 1 1) r (mx_G r (t_law zz b L xs)) 480 ls st h c n := mx_G_eq (tm_law zz b L xs) r 480 ls st h c n
set_option maxRecDepth 40000 in
theorem st_law_481 (zz : Nat × Nat) (b L : Nat) (xs : Nat → Int32) (r : mx_T) (ls : mx_L) (st : List Value) (h : mx_H) (c n : Nat) : mx_G r (t_law zz b L xs) 481 ls st h c n = (o_aload 1 0) r (mx_G r (t_law zz b L xs)) 481 ls st h c n := mx_G_eq (tm_law zz b L xs) r 481 ls st h c n
set_option maxRecDepth 40000 in
theorem st_law_482 (zz : Nat × Nat) (b L : Nat) (xs : Nat → Int32) (r : mx_T) (ls : mx_L) (st : List Value) (h : mx_H) (c n : Nat) : mx_G r (t_law zz b L xs) 482 ls st h c n = (o_iload 1 3) r (mx_G r (t_law zz b L xs)) 482 ls st h c n := mx_G_eq (tm_law zz b L xs) r 482 ls st h c n
set_option maxRecDepth 40000 in
theorem st_law_483 (zz : Nat × Nat) (b L : Nat) (xs : Nat → Int32) (r : mx_T) (ls : mx_L) (st : List Value) (h : mx_H) (c n : Nat) : mx_G r (t_law zz b L xs) 483 ls st h c n = (o_push 1 (.int 1)) r (mx_G r (t_law zz b L xs)) 483 ls st h c n := mx_G_eq (tm_law zz b L xs) r 483 ls st h c n
set_option maxRecDepth 40000 in
theorem st_law_484 (zz : Nat × Nat) (b L : Nat) (xs : Nat → Int32) (r : mx_T) (ls : mx_L) (st : List Value) (h : mx_H) (c n : Nat) : mx_G r (t_law zz b L xs) 484 ls st h c n = (o_ii (fun x y => x + y)) r (mx_G r (t_law zz b L xs)) 484 ls st h c n := mx_G_eq (tm_law zz b L xs) r 484 ls st h c n
set_option maxRecDepth 40000 in
theorem st_law_485 (zz : Nat × Nat) (b L : Nat) (xs : Nat → Int32) (r : mx_T) (ls : mx_L) (st : List Value) (h : mx_H) (c n : Nat) : mx_G r (t_law zz b L xs) 485 ls st h c n = (o_sld b L xs) r (mx_G r (t_law zz b L xs)) 485 ls st h c n := mx_G_eq (tm_law zz b L xs) r 485 ls st h c n
set_option maxRecDepth 40000 in
theorem st_law_486 (zz : Nat × Nat) (b L : Nat) (xs : Nat → Int32) (r : mx_T) (ls : mx_L) (st : List Value) (h : mx_H) (c n : Nat) : mx_G r (t_law zz b L xs) 486 ls st h c n = (o_callF 600000 7302250 2 0 0 (mx_rv 0) (S_Hs_fresh zz)) r (mx_G r (t_law zz b L xs)) 486 ls st h c n := mx_G_eq (tm_law zz b L xs) r 486 ls st h c n
set_option maxRecDepth 40000 in
theorem st_law_489 (zz : Nat × Nat) (b L : Nat) (xs : Nat → Int32) (r : mx_T) (ls : mx_L) (st : List Value) (h : mx_H) (c n : Nat) : mx_G r (t_law zz b L xs) 489 ls st h c n = (o_aload 1 2) r (mx_G r (t_law zz b L xs)) 489 ls st h c n := mx_G_eq (tm_law zz b L xs) r 489 ls st h c n
set_option maxRecDepth 40000 in
theorem st_law_490 (zz : Nat × Nat) (b L : Nat) (xs : Nat → Int32) (r : mx_T) (ls : mx_L) (st : List Value) (h : mx_H) (c n : Nat) : mx_G r (t_law zz b L xs) 490 ls st h c n = (o_aload 1 0) r (mx_G r (t_law zz b L xs)) 490 ls st h c n := mx_G_eq (tm_law zz b L xs) r 490 ls st h c n
set_option maxRecDepth 40000 in
theorem st_law_491 (zz : Nat × Nat) (b L : Nat) (xs : Nat → Int32) (r : mx_T) (ls : mx_L) (st : List Value) (h : mx_H) (c n : Nat) : mx_G r (t_law zz b L xs) 491 ls st h c n = (o_iload 1 3) r (mx_G r (t_law zz b L xs)) 491 ls st h c n := mx_G_eq (tm_law zz b L xs) r 491 ls st h c n
set_option maxRecDepth 40000 in
theorem st_law_492 (zz : Nat × Nat) (b L : Nat) (xs : Nat → Int32) (r : mx_T) (ls : mx_L) (st : List Value) (h : mx_H) (c n : Nat) : mx_G r (t_law zz b L xs) 492 ls st h c n = (o_push 1 (.int 1)) r (mx_G r (t_law zz b L xs)) 492 ls st h c n := mx_G_eq (tm_law zz b L xs) r 492 ls st h c n
set_option maxRecDepth 40000 in
theorem st_law_493 (zz : Nat × Nat) (b L : Nat) (xs : Nat → Int32) (r : mx_T) (ls : mx_L) (st : List Value) (h : mx_H) (c n : Nat) : mx_G r (t_law zz b L xs) 493 ls st h c n = (o_ii (fun x y => x + y)) r (mx_G r (t_law zz b L xs)) 493 ls st h c n := mx_G_eq (tm_law zz b L xs) r 493 ls st h c n
set_option maxRecDepth 40000 in
theorem st_law_494 (zz : Nat × Nat) (b L : Nat) (xs : Nat → Int32) (r : mx_T) (ls : mx_L) (st : List Value) (h : mx_H) (c n : Nat) : mx_G r (t_law zz b L xs) 494 ls st h c n = (o_sld b L xs) r (mx_G r (t_law zz b L xs)) 494 ls st h c n := mx_G_eq (tm_law zz b L xs) r 494 ls st h c n
set_option maxRecDepth 40000 in
theorem st_law_495 (zz : Nat × Nat) (b L : Nat) (xs : Nat → Int32) (r : mx_T) (ls : mx_L) (st : List Value) (h : mx_H) (c n : Nat) : mx_G r (t_law zz b L xs) 495 ls st h c n = (o_callF 600000 7302250 2 0 0 (mx_rv 10) (S_Mo_fresh zz)) r (mx_G r (t_law zz b L xs)) 495 ls st h c n := mx_G_eq (tm_law zz b L xs) r 495 ls st h c n
set_option maxRecDepth 40000 in
theorem st_law_498 (zz : Nat × Nat) (b L : Nat) (xs : Nat → Int32) (r : mx_T) (ls : mx_L) (st : List Value) (h : mx_H) (c n : Nat) : mx_G r (t_law zz b L xs) 498 ls st h c n = (o_icmp 680 (fun x y => x = y)) r (mx_G r (t_law zz b L xs)) 498 ls st h c n := mx_G_eq (tm_law zz b L xs) r 498 ls st h c n
set_option maxRecDepth 40000 in
theorem st_law_501 (zz : Nat × Nat) (b L : Nat) (xs : Nat → Int32) (r : mx_T) (ls : mx_L) (st : List Value) (h : mx_H) (c n : Nat) : mx_G r (t_law zz b L xs) 501 ls st h c n = (o_push 1 (.int 0)) r (mx_G r (t_law zz b L xs)) 501 ls st h c n := mx_G_eq (tm_law zz b L xs) r 501 ls st h c n
set_option maxRecDepth 40000 in
theorem st_law_502 (zz : Nat × Nat) (b L : Nat) (xs : Nat → Int32) (r : mx_T) (ls : mx_L) (st : List Value) (h : mx_H) (c n : Nat) : mx_G r (t_law zz b L xs) 502 ls st h c n = (o_iret) r (mx_G r (t_law zz b L xs)) 502 ls st h c n := mx_G_eq (tm_law zz b L xs) r 502 ls st h c n
set_option maxRecDepth 40000 in
theorem st_law_503 (zz : Nat × Nat) (b L : Nat) (xs : Nat → Int32) (r : mx_T) (ls : mx_L) (st : List Value) (h : mx_H) (c n : Nat) : mx_G r (t_law zz b L xs) 503 ls st h c n = (o_aload 1 1) r (mx_G r (t_law zz b L xs)) 503 ls st h c n := mx_G_eq (tm_law zz b L xs) r 503 ls st h c n
set_option maxRecDepth 40000 in
theorem st_law_504 (zz : Nat × Nat) (b L : Nat) (xs : Nat → Int32) (r : mx_T) (ls : mx_L) (st : List Value) (h : mx_H) (c n : Nat) : mx_G r (t_law zz b L xs) 504 ls st h c n = (o_aload 1 0) r (mx_G r (t_law zz b L xs)) 504 ls st h c n := mx_G_eq (tm_law zz b L xs) r 504 ls st h c n
set_option maxRecDepth 40000 in
theorem st_law_505 (zz : Nat × Nat) (b L : Nat) (xs : Nat → Int32) (r : mx_T) (ls : mx_L) (st : List Value) (h : mx_H) (c n : Nat) : mx_G r (t_law zz b L xs) 505 ls st h c n = (o_iload 1 3) r (mx_G r (t_law zz b L xs)) 505 ls st h c n := mx_G_eq (tm_law zz b L xs) r 505 ls st h c n
set_option maxRecDepth 40000 in
theorem st_law_506 (zz : Nat × Nat) (b L : Nat) (xs : Nat → Int32) (r : mx_T) (ls : mx_L) (st : List Value) (h : mx_H) (c n : Nat) : mx_G r (t_law zz b L xs) 506 ls st h c n = (o_push 1 (.int 1)) r (mx_G r (t_law zz b L xs)) 506 ls st h c n := mx_G_eq (tm_law zz b L xs) r 506 ls st h c n
set_option maxRecDepth 40000 in
theorem st_law_507 (zz : Nat × Nat) (b L : Nat) (xs : Nat → Int32) (r : mx_T) (ls : mx_L) (st : List Value) (h : mx_H) (c n : Nat) : mx_G r (t_law zz b L xs) 507 ls st h c n = (o_ii (fun x y => x + y)) r (mx_G r (t_law zz b L xs)) 507 ls st h c n := mx_G_eq (tm_law zz b L xs) r 507 ls st h c n
set_option maxRecDepth 40000 in
theorem st_law_508 (zz : Nat × Nat) (b L : Nat) (xs : Nat → Int32) (r : mx_T) (ls : mx_L) (st : List Value) (h : mx_H) (c n : Nat) : mx_G r (t_law zz b L xs) 508 ls st h c n = (o_sld b L xs) r (mx_G r (t_law zz b L xs)) 508 ls st h c n := mx_G_eq (tm_law zz b L xs) r 508 ls st h c n
set_option maxRecDepth 40000 in
theorem st_law_509 (zz : Nat × Nat) (b L : Nat) (xs : Nat → Int32) (r : mx_T) (ls : mx_L) (st : List Value) (h : mx_H) (c n : Nat) : mx_G r (t_law zz b L xs) 509 ls st h c n = (o_callF 600000 7302250 2 0 0 (mx_rv 0) (S_Hs_pending zz)) r (mx_G r (t_law zz b L xs)) 509 ls st h c n := mx_G_eq (tm_law zz b L xs) r 509 ls st h c n
set_option maxRecDepth 40000 in
theorem st_law_512 (zz : Nat × Nat) (b L : Nat) (xs : Nat → Int32) (r : mx_T) (ls : mx_L) (st : List Value) (h : mx_H) (c n : Nat) : mx_G r (t_law zz b L xs) 512 ls st h c n = (o_aload 1 2) r (mx_G r (t_law zz b L xs)) 512 ls st h c n := mx_G_eq (tm_law zz b L xs) r 512 ls st h c n
set_option maxRecDepth 40000 in
theorem st_law_513 (zz : Nat × Nat) (b L : Nat) (xs : Nat → Int32) (r : mx_T) (ls : mx_L) (st : List Value) (h : mx_H) (c n : Nat) : mx_G r (t_law zz b L xs) 513 ls st h c n = (o_aload 1 0) r (mx_G r (t_law zz b L xs)) 513 ls st h c n := mx_G_eq (tm_law zz b L xs) r 513 ls st h c n
set_option maxRecDepth 40000 in
theorem st_law_514 (zz : Nat × Nat) (b L : Nat) (xs : Nat → Int32) (r : mx_T) (ls : mx_L) (st : List Value) (h : mx_H) (c n : Nat) : mx_G r (t_law zz b L xs) 514 ls st h c n = (o_iload 1 3) r (mx_G r (t_law zz b L xs)) 514 ls st h c n := mx_G_eq (tm_law zz b L xs) r 514 ls st h c n
set_option maxRecDepth 40000 in
theorem st_law_515 (zz : Nat × Nat) (b L : Nat) (xs : Nat → Int32) (r : mx_T) (ls : mx_L) (st : List Value) (h : mx_H) (c n : Nat) : mx_G r (t_law zz b L xs) 515 ls st h c n = (o_push 1 (.int 1)) r (mx_G r (t_law zz b L xs)) 515 ls st h c n := mx_G_eq (tm_law zz b L xs) r 515 ls st h c n
set_option maxRecDepth 40000 in
theorem st_law_516 (zz : Nat × Nat) (b L : Nat) (xs : Nat → Int32) (r : mx_T) (ls : mx_L) (st : List Value) (h : mx_H) (c n : Nat) : mx_G r (t_law zz b L xs) 516 ls st h c n = (o_ii (fun x y => x + y)) r (mx_G r (t_law zz b L xs)) 516 ls st h c n := mx_G_eq (tm_law zz b L xs) r 516 ls st h c n
set_option maxRecDepth 40000 in
theorem st_law_517 (zz : Nat × Nat) (b L : Nat) (xs : Nat → Int32) (r : mx_T) (ls : mx_L) (st : List Value) (h : mx_H) (c n : Nat) : mx_G r (t_law zz b L xs) 517 ls st h c n = (o_sld b L xs) r (mx_G r (t_law zz b L xs)) 517 ls st h c n := mx_G_eq (tm_law zz b L xs) r 517 ls st h c n
set_option maxRecDepth 40000 in
theorem st_law_518 (zz : Nat × Nat) (b L : Nat) (xs : Nat → Int32) (r : mx_T) (ls : mx_L) (st : List Value) (h : mx_H) (c n : Nat) : mx_G r (t_law zz b L xs) 518 ls st h c n = (o_callF 600000 7302250 2 0 0 (mx_rv 10) (S_Mo_pending zz)) r (mx_G r (t_law zz b L xs)) 518 ls st h c n := mx_G_eq (tm_law zz b L xs) r 518 ls st h c n
set_option maxRecDepth 40000 in
theorem st_law_521 (zz : Nat × Nat) (b L : Nat) (xs : Nat → Int32) (r : mx_T) (ls : mx_L) (st : List Value) (h : mx_H) (c n : Nat) : mx_G r (t_law zz b L xs) 521 ls st h c n = (o_icmp 680 (fun x y => x = y)) r (mx_G r (t_law zz b L xs)) 521 ls st h c n := mx_G_eq (tm_law zz b L xs) r 521 ls st h c n
set_option maxRecDepth 40000 in
theorem st_law_524 (zz : Nat × Nat) (b L : Nat) (xs : Nat → Int32) (r : mx_T) (ls : mx_L) (st : List Value) (h : mx_H) (c n : Nat) : mx_G r (t_law zz b L xs) 524 ls st h c n = (o_push 1 (.int 0)) r (mx_G r (t_law zz b L xs)) 524 ls st h c n := mx_G_eq (tm_law zz b L xs) r 524 ls st h c n
set_option maxRecDepth 40000 in
theorem st_law_525 (zz : Nat × Nat) (b L : Nat) (xs : Nat → Int32) (r : mx_T) (ls : mx_L) (st : List Value) (h : mx_H) (c n : Nat) : mx_G r (t_law zz b L xs) 525 ls st h c n = (o_iret) r (mx_G r (t_law zz b L xs)) 525 ls st h c n := mx_G_eq (tm_law zz b L xs) r 525 ls st h c n
set_option maxRecDepth 40000 in
theorem st_law_526 (zz : Nat × Nat) (b L : Nat) (xs : Nat → Int32) (r : mx_T) (ls : mx_L) (st : List Value) (h : mx_H) (c n : Nat) : mx_G r (t_law zz b L xs) 526 ls st h c n = (o_aload 1 1) r (mx_G r (t_law zz b L xs)) 526 ls st h c n := mx_G_eq (tm_law zz b L xs) r 526 ls st h c n
set_option maxRecDepth 40000 in
theorem st_law_527 (zz : Nat × Nat) (b L : Nat) (xs : Nat → Int32) (r : mx_T) (ls : mx_L) (st : List Value) (h : mx_H) (c n : Nat) : mx_G r (t_law zz b L xs) 527 ls st h c n = (o_aload 1 0) r (mx_G r (t_law zz b L xs)) 527 ls st h c n := mx_G_eq (tm_law zz b L xs) r 527 ls st h c n
set_option maxRecDepth 40000 in
theorem st_law_528 (zz : Nat × Nat) (b L : Nat) (xs : Nat → Int32) (r : mx_T) (ls : mx_L) (st : List Value) (h : mx_H) (c n : Nat) : mx_G r (t_law zz b L xs) 528 ls st h c n = (o_iload 1 3) r (mx_G r (t_law zz b L xs)) 528 ls st h c n := mx_G_eq (tm_law zz b L xs) r 528 ls st h c n
set_option maxRecDepth 40000 in
theorem st_law_529 (zz : Nat × Nat) (b L : Nat) (xs : Nat → Int32) (r : mx_T) (ls : mx_L) (st : List Value) (h : mx_H) (c n : Nat) : mx_G r (t_law zz b L xs) 529 ls st h c n = (o_push 1 (.int 1)) r (mx_G r (t_law zz b L xs)) 529 ls st h c n := mx_G_eq (tm_law zz b L xs) r 529 ls st h c n
set_option maxRecDepth 40000 in
theorem st_law_530 (zz : Nat × Nat) (b L : Nat) (xs : Nat → Int32) (r : mx_T) (ls : mx_L) (st : List Value) (h : mx_H) (c n : Nat) : mx_G r (t_law zz b L xs) 530 ls st h c n = (o_ii (fun x y => x + y)) r (mx_G r (t_law zz b L xs)) 530 ls st h c n := mx_G_eq (tm_law zz b L xs) r 530 ls st h c n
set_option maxRecDepth 40000 in
theorem st_law_531 (zz : Nat × Nat) (b L : Nat) (xs : Nat → Int32) (r : mx_T) (ls : mx_L) (st : List Value) (h : mx_H) (c n : Nat) : mx_G r (t_law zz b L xs) 531 ls st h c n = (o_sld b L xs) r (mx_G r (t_law zz b L xs)) 531 ls st h c n := mx_G_eq (tm_law zz b L xs) r 531 ls st h c n
set_option maxRecDepth 40000 in
theorem st_law_532 (zz : Nat × Nat) (b L : Nat) (xs : Nat → Int32) (r : mx_T) (ls : mx_L) (st : List Value) (h : mx_H) (c n : Nat) : mx_G r (t_law zz b L xs) 532 ls st h c n = (o_callF 600000 7302250 2 0 0 (mx_rv 0) (S_Hs_request zz)) r (mx_G r (t_law zz b L xs)) 532 ls st h c n := mx_G_eq (tm_law zz b L xs) r 532 ls st h c n
set_option maxRecDepth 40000 in
theorem st_law_535 (zz : Nat × Nat) (b L : Nat) (xs : Nat → Int32) (r : mx_T) (ls : mx_L) (st : List Value) (h : mx_H) (c n : Nat) : mx_G r (t_law zz b L xs) 535 ls st h c n = (o_aload 1 2) r (mx_G r (t_law zz b L xs)) 535 ls st h c n := mx_G_eq (tm_law zz b L xs) r 535 ls st h c n
set_option maxRecDepth 40000 in
theorem st_law_536 (zz : Nat × Nat) (b L : Nat) (xs : Nat → Int32) (r : mx_T) (ls : mx_L) (st : List Value) (h : mx_H) (c n : Nat) : mx_G r (t_law zz b L xs) 536 ls st h c n = (o_aload 1 0) r (mx_G r (t_law zz b L xs)) 536 ls st h c n := mx_G_eq (tm_law zz b L xs) r 536 ls st h c n
set_option maxRecDepth 40000 in
theorem st_law_537 (zz : Nat × Nat) (b L : Nat) (xs : Nat → Int32) (r : mx_T) (ls : mx_L) (st : List Value) (h : mx_H) (c n : Nat) : mx_G r (t_law zz b L xs) 537 ls st h c n = (o_iload 1 3) r (mx_G r (t_law zz b L xs)) 537 ls st h c n := mx_G_eq (tm_law zz b L xs) r 537 ls st h c n
set_option maxRecDepth 40000 in
theorem st_law_538 (zz : Nat × Nat) (b L : Nat) (xs : Nat → Int32) (r : mx_T) (ls : mx_L) (st : List Value) (h : mx_H) (c n : Nat) : mx_G r (t_law zz b L xs) 538 ls st h c n = (o_push 1 (.int 1)) r (mx_G r (t_law zz b L xs)) 538 ls st h c n := mx_G_eq (tm_law zz b L xs) r 538 ls st h c n
set_option maxRecDepth 40000 in
theorem st_law_539 (zz : Nat × Nat) (b L : Nat) (xs : Nat → Int32) (r : mx_T) (ls : mx_L) (st : List Value) (h : mx_H) (c n : Nat) : mx_G r (t_law zz b L xs) 539 ls st h c n = (o_ii (fun x y => x + y)) r (mx_G r (t_law zz b L xs)) 539 ls st h c n := mx_G_eq (tm_law zz b L xs) r 539 ls st h c n
set_option maxRecDepth 40000 in
theorem st_law_540 (zz : Nat × Nat) (b L : Nat) (xs : Nat → Int32) (r : mx_T) (ls : mx_L) (st : List Value) (h : mx_H) (c n : Nat) : mx_G r (t_law zz b L xs) 540 ls st h c n = (o_sld b L xs) r (mx_G r (t_law zz b L xs)) 540 ls st h c n := mx_G_eq (tm_law zz b L xs) r 540 ls st h c n
set_option maxRecDepth 40000 in
theorem st_law_541 (zz : Nat × Nat) (b L : Nat) (xs : Nat → Int32) (r : mx_T) (ls : mx_L) (st : List Value) (h : mx_H) (c n : Nat) : mx_G r (t_law zz b L xs) 541 ls st h c n = (o_callF 600000 7302250 2 0 0 (mx_rv 10) (S_Mo_request zz)) r (mx_G r (t_law zz b L xs)) 541 ls st h c n := mx_G_eq (tm_law zz b L xs) r 541 ls st h c n
set_option maxRecDepth 40000 in
theorem st_law_544 (zz : Nat × Nat) (b L : Nat) (xs : Nat → Int32) (r : mx_T) (ls : mx_L) (st : List Value) (h : mx_H) (c n : Nat) : mx_G r (t_law zz b L xs) 544 ls st h c n = (o_icmp 680 (fun x y => x = y)) r (mx_G r (t_law zz b L xs)) 544 ls st h c n := mx_G_eq (tm_law zz b L xs) r 544 ls st h c n
set_option maxRecDepth 40000 in
theorem st_law_547 (zz : Nat × Nat) (b L : Nat) (xs : Nat → Int32) (r : mx_T) (ls : mx_L) (st : List Value) (h : mx_H) (c n : Nat) : mx_G r (t_law zz b L xs) 547 ls st h c n = (o_push 1 (.int 0)) r (mx_G r (t_law zz b L xs)) 547 ls st h c n := mx_G_eq (tm_law zz b L xs) r 547 ls st h c n
set_option maxRecDepth 40000 in
theorem st_law_548 (zz : Nat × Nat) (b L : Nat) (xs : Nat → Int32) (r : mx_T) (ls : mx_L) (st : List Value) (h : mx_H) (c n : Nat) : mx_G r (t_law zz b L xs) 548 ls st h c n = (o_iret) r (mx_G r (t_law zz b L xs)) 548 ls st h c n := mx_G_eq (tm_law zz b L xs) r 548 ls st h c n
set_option maxRecDepth 40000 in
theorem st_law_549 (zz : Nat × Nat) (b L : Nat) (xs : Nat → Int32) (r : mx_T) (ls : mx_L) (st : List Value) (h : mx_H) (c n : Nat) : mx_G r (t_law zz b L xs) 549 ls st h c n = (o_aload 1 1) r (mx_G r (t_law zz b L xs)) 549 ls st h c n := mx_G_eq (tm_law zz b L xs) r 549 ls st h c n
set_option maxRecDepth 40000 in
theorem st_law_550 (zz : Nat × Nat) (b L : Nat) (xs : Nat → Int32) (r : mx_T) (ls : mx_L) (st : List Value) (h : mx_H) (c n : Nat) : mx_G r (t_law zz b L xs) 550 ls st h c n = (o_aload 1 0) r (mx_G r (t_law zz b L xs)) 550 ls st h c n := mx_G_eq (tm_law zz b L xs) r 550 ls st h c n
set_option maxRecDepth 40000 in
theorem st_law_551 (zz : Nat × Nat) (b L : Nat) (xs : Nat → Int32) (r : mx_T) (ls : mx_L) (st : List Value) (h : mx_H) (c n : Nat) : mx_G r (t_law zz b L xs) 551 ls st h c n = (o_iload 1 3) r (mx_G r (t_law zz b L xs)) 551 ls st h c n := mx_G_eq (tm_law zz b L xs) r 551 ls st h c n
set_option maxRecDepth 40000 in
theorem st_law_552 (zz : Nat × Nat) (b L : Nat) (xs : Nat → Int32) (r : mx_T) (ls : mx_L) (st : List Value) (h : mx_H) (c n : Nat) : mx_G r (t_law zz b L xs) 552 ls st h c n = (o_push 1 (.int 1)) r (mx_G r (t_law zz b L xs)) 552 ls st h c n := mx_G_eq (tm_law zz b L xs) r 552 ls st h c n
set_option maxRecDepth 40000 in
theorem st_law_553 (zz : Nat × Nat) (b L : Nat) (xs : Nat → Int32) (r : mx_T) (ls : mx_L) (st : List Value) (h : mx_H) (c n : Nat) : mx_G r (t_law zz b L xs) 553 ls st h c n = (o_ii (fun x y => x + y)) r (mx_G r (t_law zz b L xs)) 553 ls st h c n := mx_G_eq (tm_law zz b L xs) r 553 ls st h c n
set_option maxRecDepth 40000 in
theorem st_law_554 (zz : Nat × Nat) (b L : Nat) (xs : Nat → Int32) (r : mx_T) (ls : mx_L) (st : List Value) (h : mx_H) (c n : Nat) : mx_G r (t_law zz b L xs) 554 ls st h c n = (o_sld b L xs) r (mx_G r (t_law zz b L xs)) 554 ls st h c n := mx_G_eq (tm_law zz b L xs) r 554 ls st h c n
set_option maxRecDepth 40000 in
theorem st_law_555 (zz : Nat × Nat) (b L : Nat) (xs : Nat → Int32) (r : mx_T) (ls : mx_L) (st : List Value) (h : mx_H) (c n : Nat) : mx_G r (t_law zz b L xs) 555 ls st h c n = (o_aload 1 0) r (mx_G r (t_law zz b L xs)) 555 ls st h c n := mx_G_eq (tm_law zz b L xs) r 555 ls st h c n
set_option maxRecDepth 40000 in
theorem st_law_556 (zz : Nat × Nat) (b L : Nat) (xs : Nat → Int32) (r : mx_T) (ls : mx_L) (st : List Value) (h : mx_H) (c n : Nat) : mx_G r (t_law zz b L xs) 556 ls st h c n = (o_iload 1 3) r (mx_G r (t_law zz b L xs)) 556 ls st h c n := mx_G_eq (tm_law zz b L xs) r 556 ls st h c n
set_option maxRecDepth 40000 in
theorem st_law_557 (zz : Nat × Nat) (b L : Nat) (xs : Nat → Int32) (r : mx_T) (ls : mx_L) (st : List Value) (h : mx_H) (c n : Nat) : mx_G r (t_law zz b L xs) 557 ls st h c n = (o_push 1 (.int 2)) r (mx_G r (t_law zz b L xs)) 557 ls st h c n := mx_G_eq (tm_law zz b L xs) r 557 ls st h c n
set_option maxRecDepth 40000 in
theorem st_law_558 (zz : Nat × Nat) (b L : Nat) (xs : Nat → Int32) (r : mx_T) (ls : mx_L) (st : List Value) (h : mx_H) (c n : Nat) : mx_G r (t_law zz b L xs) 558 ls st h c n = (o_ii (fun x y => x + y)) r (mx_G r (t_law zz b L xs)) 558 ls st h c n := mx_G_eq (tm_law zz b L xs) r 558 ls st h c n
set_option maxRecDepth 40000 in
theorem st_law_559 (zz : Nat × Nat) (b L : Nat) (xs : Nat → Int32) (r : mx_T) (ls : mx_L) (st : List Value) (h : mx_H) (c n : Nat) : mx_G r (t_law zz b L xs) 559 ls st h c n = (o_sld b L xs) r (mx_G r (t_law zz b L xs)) 559 ls st h c n := mx_G_eq (tm_law zz b L xs) r 559 ls st h c n
set_option maxRecDepth 40000 in
theorem st_law_560 (zz : Nat × Nat) (b L : Nat) (xs : Nat → Int32) (r : mx_T) (ls : mx_L) (st : List Value) (h : mx_H) (c n : Nat) : mx_G r (t_law zz b L xs) 560 ls st h c n = (o_callF 600000 7302250 3 0 0 (mx_rv 0) (S_Hs_noise zz)) r (mx_G r (t_law zz b L xs)) 560 ls st h c n := mx_G_eq (tm_law zz b L xs) r 560 ls st h c n
set_option maxRecDepth 40000 in
theorem st_law_563 (zz : Nat × Nat) (b L : Nat) (xs : Nat → Int32) (r : mx_T) (ls : mx_L) (st : List Value) (h : mx_H) (c n : Nat) : mx_G r (t_law zz b L xs) 563 ls st h c n = (o_aload 1 2) r (mx_G r (t_law zz b L xs)) 563 ls st h c n := mx_G_eq (tm_law zz b L xs) r 563 ls st h c n
set_option maxRecDepth 40000 in
theorem st_law_564 (zz : Nat × Nat) (b L : Nat) (xs : Nat → Int32) (r : mx_T) (ls : mx_L) (st : List Value) (h : mx_H) (c n : Nat) : mx_G r (t_law zz b L xs) 564 ls st h c n = (o_aload 1 0) r (mx_G r (t_law zz b L xs)) 564 ls st h c n := mx_G_eq (tm_law zz b L xs) r 564 ls st h c n
set_option maxRecDepth 40000 in
theorem st_law_565 (zz : Nat × Nat) (b L : Nat) (xs : Nat → Int32) (r : mx_T) (ls : mx_L) (st : List Value) (h : mx_H) (c n : Nat) : mx_G r (t_law zz b L xs) 565 ls st h c n = (o_iload 1 3) r (mx_G r (t_law zz b L xs)) 565 ls st h c n := mx_G_eq (tm_law zz b L xs) r 565 ls st h c n
set_option maxRecDepth 40000 in
theorem st_law_566 (zz : Nat × Nat) (b L : Nat) (xs : Nat → Int32) (r : mx_T) (ls : mx_L) (st : List Value) (h : mx_H) (c n : Nat) : mx_G r (t_law zz b L xs) 566 ls st h c n = (o_push 1 (.int 1)) r (mx_G r (t_law zz b L xs)) 566 ls st h c n := mx_G_eq (tm_law zz b L xs) r 566 ls st h c n
set_option maxRecDepth 40000 in
theorem st_law_567 (zz : Nat × Nat) (b L : Nat) (xs : Nat → Int32) (r : mx_T) (ls : mx_L) (st : List Value) (h : mx_H) (c n : Nat) : mx_G r (t_law zz b L xs) 567 ls st h c n = (o_ii (fun x y => x + y)) r (mx_G r (t_law zz b L xs)) 567 ls st h c n := mx_G_eq (tm_law zz b L xs) r 567 ls st h c n
set_option maxRecDepth 40000 in
theorem st_law_568 (zz : Nat × Nat) (b L : Nat) (xs : Nat → Int32) (r : mx_T) (ls : mx_L) (st : List Value) (h : mx_H) (c n : Nat) : mx_G r (t_law zz b L xs) 568 ls st h c n = (o_sld b L xs) r (mx_G r (t_law zz b L xs)) 568 ls st h c n := mx_G_eq (tm_law zz b L xs) r 568 ls st h c n
set_option maxRecDepth 40000 in
theorem st_law_569 (zz : Nat × Nat) (b L : Nat) (xs : Nat → Int32) (r : mx_T) (ls : mx_L) (st : List Value) (h : mx_H) (c n : Nat) : mx_G r (t_law zz b L xs) 569 ls st h c n = (o_aload 1 0) r (mx_G r (t_law zz b L xs)) 569 ls st h c n := mx_G_eq (tm_law zz b L xs) r 569 ls st h c n
set_option maxRecDepth 40000 in
theorem st_law_570 (zz : Nat × Nat) (b L : Nat) (xs : Nat → Int32) (r : mx_T) (ls : mx_L) (st : List Value) (h : mx_H) (c n : Nat) : mx_G r (t_law zz b L xs) 570 ls st h c n = (o_iload 1 3) r (mx_G r (t_law zz b L xs)) 570 ls st h c n := mx_G_eq (tm_law zz b L xs) r 570 ls st h c n
set_option maxRecDepth 40000 in
theorem st_law_571 (zz : Nat × Nat) (b L : Nat) (xs : Nat → Int32) (r : mx_T) (ls : mx_L) (st : List Value) (h : mx_H) (c n : Nat) : mx_G r (t_law zz b L xs) 571 ls st h c n = (o_push 1 (.int 2)) r (mx_G r (t_law zz b L xs)) 571 ls st h c n := mx_G_eq (tm_law zz b L xs) r 571 ls st h c n
set_option maxRecDepth 40000 in
theorem st_law_572 (zz : Nat × Nat) (b L : Nat) (xs : Nat → Int32) (r : mx_T) (ls : mx_L) (st : List Value) (h : mx_H) (c n : Nat) : mx_G r (t_law zz b L xs) 572 ls st h c n = (o_ii (fun x y => x + y)) r (mx_G r (t_law zz b L xs)) 572 ls st h c n := mx_G_eq (tm_law zz b L xs) r 572 ls st h c n
set_option maxRecDepth 40000 in
theorem st_law_573 (zz : Nat × Nat) (b L : Nat) (xs : Nat → Int32) (r : mx_T) (ls : mx_L) (st : List Value) (h : mx_H) (c n : Nat) : mx_G r (t_law zz b L xs) 573 ls st h c n = (o_sld b L xs) r (mx_G r (t_law zz b L xs)) 573 ls st h c n := mx_G_eq (tm_law zz b L xs) r 573 ls st h c n
set_option maxRecDepth 40000 in
theorem st_law_574 (zz : Nat × Nat) (b L : Nat) (xs : Nat → Int32) (r : mx_T) (ls : mx_L) (st : List Value) (h : mx_H) (c n : Nat) : mx_G r (t_law zz b L xs) 574 ls st h c n = (o_callF 600000 7302250 3 0 0 (mx_rv 10) (S_Mo_noise zz)) r (mx_G r (t_law zz b L xs)) 574 ls st h c n := mx_G_eq (tm_law zz b L xs) r 574 ls st h c n
set_option maxRecDepth 40000 in
theorem st_law_577 (zz : Nat × Nat) (b L : Nat) (xs : Nat → Int32) (r : mx_T) (ls : mx_L) (st : List Value) (h : mx_H) (c n : Nat) : mx_G r (t_law zz b L xs) 577 ls st h c n = (o_icmp 680 (fun x y => x = y)) r (mx_G r (t_law zz b L xs)) 577 ls st h c n := mx_G_eq (tm_law zz b L xs) r 577 ls st h c n
set_option maxRecDepth 40000 in
theorem st_law_580 (zz : Nat × Nat) (b L : Nat) (xs : Nat → Int32) (r : mx_T) (ls : mx_L) (st : List Value) (h : mx_H) (c n : Nat) : mx_G r (t_law zz b L xs) 580 ls st h c n = (o_push 1 (.int 0)) r (mx_G r (t_law zz b L xs)) 580 ls st h c n := mx_G_eq (tm_law zz b L xs) r 580 ls st h c n
set_option maxRecDepth 40000 in
theorem st_law_581 (zz : Nat × Nat) (b L : Nat) (xs : Nat → Int32) (r : mx_T) (ls : mx_L) (st : List Value) (h : mx_H) (c n : Nat) : mx_G r (t_law zz b L xs) 581 ls st h c n = (o_iret) r (mx_G r (t_law zz b L xs)) 581 ls st h c n := mx_G_eq (tm_law zz b L xs) r 581 ls st h c n
set_option maxRecDepth 40000 in
theorem st_law_582 (zz : Nat × Nat) (b L : Nat) (xs : Nat → Int32) (r : mx_T) (ls : mx_L) (st : List Value) (h : mx_H) (c n : Nat) : mx_G r (t_law zz b L xs) 582 ls st h c n = (o_aload 1 1) r (mx_G r (t_law zz b L xs)) 582 ls st h c n := mx_G_eq (tm_law zz b L xs) r 582 ls st h c n
set_option maxRecDepth 40000 in
theorem st_law_583 (zz : Nat × Nat) (b L : Nat) (xs : Nat → Int32) (r : mx_T) (ls : mx_L) (st : List Value) (h : mx_H) (c n : Nat) : mx_G r (t_law zz b L xs) 583 ls st h c n = (o_callF 600000 7302250 1 0 0 (mx_rv 0) (S_Hs_tick zz)) r (mx_G r (t_law zz b L xs)) 583 ls st h c n := mx_G_eq (tm_law zz b L xs) r 583 ls st h c n
set_option maxRecDepth 40000 in
theorem st_law_586 (zz : Nat × Nat) (b L : Nat) (xs : Nat → Int32) (r : mx_T) (ls : mx_L) (st : List Value) (h : mx_H) (c n : Nat) : mx_G r (t_law zz b L xs) 586 ls st h c n = (o_aload 1 2) r (mx_G r (t_law zz b L xs)) 586 ls st h c n := mx_G_eq (tm_law zz b L xs) r 586 ls st h c n
set_option maxRecDepth 40000 in
theorem st_law_587 (zz : Nat × Nat) (b L : Nat) (xs : Nat → Int32) (r : mx_T) (ls : mx_L) (st : List Value) (h : mx_H) (c n : Nat) : mx_G r (t_law zz b L xs) 587 ls st h c n = (o_callF 600000 7302250 1 0 0 (mx_rv 10) (S_Mo_tick zz)) r (mx_G r (t_law zz b L xs)) 587 ls st h c n := mx_G_eq (tm_law zz b L xs) r 587 ls st h c n
set_option maxRecDepth 40000 in
theorem st_law_590 (zz : Nat × Nat) (b L : Nat) (xs : Nat → Int32) (r : mx_T) (ls : mx_L) (st : List Value) (h : mx_H) (c n : Nat) : mx_G r (t_law zz b L xs) 590 ls st h c n = (o_icmp 680 (fun x y => x = y)) r (mx_G r (t_law zz b L xs)) 590 ls st h c n := mx_G_eq (tm_law zz b L xs) r 590 ls st h c n
set_option maxRecDepth 40000 in
theorem st_law_593 (zz : Nat × Nat) (b L : Nat) (xs : Nat → Int32) (r : mx_T) (ls : mx_L) (st : List Value) (h : mx_H) (c n : Nat) : mx_G r (t_law zz b L xs) 593 ls st h c n = (o_push 1 (.int 0)) r (mx_G r (t_law zz b L xs)) 593 ls st h c n := mx_G_eq (tm_law zz b L xs) r 593 ls st h c n
set_option maxRecDepth 40000 in
theorem st_law_594 (zz : Nat × Nat) (b L : Nat) (xs : Nat → Int32) (r : mx_T) (ls : mx_L) (st : List Value) (h : mx_H) (c n : Nat) : mx_G r (t_law zz b L xs) 594 ls st h c n = (o_iret) r (mx_G r (t_law zz b L xs)) 594 ls st h c n := mx_G_eq (tm_law zz b L xs) r 594 ls st h c n
set_option maxRecDepth 40000 in
theorem st_law_595 (zz : Nat × Nat) (b L : Nat) (xs : Nat → Int32) (r : mx_T) (ls : mx_L) (st : List Value) (h : mx_H) (c n : Nat) : mx_G r (t_law zz b L xs) 595 ls st h c n = (o_aload 1 1) r (mx_G r (t_law zz b L xs)) 595 ls st h c n := mx_G_eq (tm_law zz b L xs) r 595 ls st h c n
set_option maxRecDepth 40000 in
theorem st_law_596 (zz : Nat × Nat) (b L : Nat) (xs : Nat → Int32) (r : mx_T) (ls : mx_L) (st : List Value) (h : mx_H) (c n : Nat) : mx_G r (t_law zz b L xs) 596 ls st h c n = (o_aload 1 0) r (mx_G r (t_law zz b L xs)) 596 ls st h c n := mx_G_eq (tm_law zz b L xs) r 596 ls st h c n
set_option maxRecDepth 40000 in
theorem st_law_597 (zz : Nat × Nat) (b L : Nat) (xs : Nat → Int32) (r : mx_T) (ls : mx_L) (st : List Value) (h : mx_H) (c n : Nat) : mx_G r (t_law zz b L xs) 597 ls st h c n = (o_iload 1 3) r (mx_G r (t_law zz b L xs)) 597 ls st h c n := mx_G_eq (tm_law zz b L xs) r 597 ls st h c n
set_option maxRecDepth 40000 in
theorem st_law_598 (zz : Nat × Nat) (b L : Nat) (xs : Nat → Int32) (r : mx_T) (ls : mx_L) (st : List Value) (h : mx_H) (c n : Nat) : mx_G r (t_law zz b L xs) 598 ls st h c n = (o_push 1 (.int 1)) r (mx_G r (t_law zz b L xs)) 598 ls st h c n := mx_G_eq (tm_law zz b L xs) r 598 ls st h c n
set_option maxRecDepth 40000 in
theorem st_law_599 (zz : Nat × Nat) (b L : Nat) (xs : Nat → Int32) (r : mx_T) (ls : mx_L) (st : List Value) (h : mx_H) (c n : Nat) : mx_G r (t_law zz b L xs) 599 ls st h c n = (o_ii (fun x y => x + y)) r (mx_G r (t_law zz b L xs)) 599 ls st h c n := mx_G_eq (tm_law zz b L xs) r 599 ls st h c n
set_option maxRecDepth 40000 in
theorem st_law_600 (zz : Nat × Nat) (b L : Nat) (xs : Nat → Int32) (r : mx_T) (ls : mx_L) (st : List Value) (h : mx_H) (c n : Nat) : mx_G r (t_law zz b L xs) 600 ls st h c n = (o_sld b L xs) r (mx_G r (t_law zz b L xs)) 600 ls st h c n := mx_G_eq (tm_law zz b L xs) r 600 ls st h c n
set_option maxRecDepth 40000 in
theorem st_law_601 (zz : Nat × Nat) (b L : Nat) (xs : Nat → Int32) (r : mx_T) (ls : mx_L) (st : List Value) (h : mx_H) (c n : Nat) : mx_G r (t_law zz b L xs) 601 ls st h c n = (o_callF 600000 7302250 2 0 0 (mx_rv 0) (S_Hs_bus zz)) r (mx_G r (t_law zz b L xs)) 601 ls st h c n := mx_G_eq (tm_law zz b L xs) r 601 ls st h c n
set_option maxRecDepth 40000 in
theorem st_law_604 (zz : Nat × Nat) (b L : Nat) (xs : Nat → Int32) (r : mx_T) (ls : mx_L) (st : List Value) (h : mx_H) (c n : Nat) : mx_G r (t_law zz b L xs) 604 ls st h c n = (o_aload 1 2) r (mx_G r (t_law zz b L xs)) 604 ls st h c n := mx_G_eq (tm_law zz b L xs) r 604 ls st h c n
set_option maxRecDepth 40000 in
theorem st_law_605 (zz : Nat × Nat) (b L : Nat) (xs : Nat → Int32) (r : mx_T) (ls : mx_L) (st : List Value) (h : mx_H) (c n : Nat) : mx_G r (t_law zz b L xs) 605 ls st h c n = (o_aload 1 0) r (mx_G r (t_law zz b L xs)) 605 ls st h c n := mx_G_eq (tm_law zz b L xs) r 605 ls st h c n
set_option maxRecDepth 40000 in
theorem st_law_606 (zz : Nat × Nat) (b L : Nat) (xs : Nat → Int32) (r : mx_T) (ls : mx_L) (st : List Value) (h : mx_H) (c n : Nat) : mx_G r (t_law zz b L xs) 606 ls st h c n = (o_iload 1 3) r (mx_G r (t_law zz b L xs)) 606 ls st h c n := mx_G_eq (tm_law zz b L xs) r 606 ls st h c n
set_option maxRecDepth 40000 in
theorem st_law_607 (zz : Nat × Nat) (b L : Nat) (xs : Nat → Int32) (r : mx_T) (ls : mx_L) (st : List Value) (h : mx_H) (c n : Nat) : mx_G r (t_law zz b L xs) 607 ls st h c n = (o_push 1 (.int 1)) r (mx_G r (t_law zz b L xs)) 607 ls st h c n := mx_G_eq (tm_law zz b L xs) r 607 ls st h c n
set_option maxRecDepth 40000 in
theorem st_law_608 (zz : Nat × Nat) (b L : Nat) (xs : Nat → Int32) (r : mx_T) (ls : mx_L) (st : List Value) (h : mx_H) (c n : Nat) : mx_G r (t_law zz b L xs) 608 ls st h c n = (o_ii (fun x y => x + y)) r (mx_G r (t_law zz b L xs)) 608 ls st h c n := mx_G_eq (tm_law zz b L xs) r 608 ls st h c n
set_option maxRecDepth 40000 in
theorem st_law_609 (zz : Nat × Nat) (b L : Nat) (xs : Nat → Int32) (r : mx_T) (ls : mx_L) (st : List Value) (h : mx_H) (c n : Nat) : mx_G r (t_law zz b L xs) 609 ls st h c n = (o_sld b L xs) r (mx_G r (t_law zz b L xs)) 609 ls st h c n := mx_G_eq (tm_law zz b L xs) r 609 ls st h c n
set_option maxRecDepth 40000 in
theorem st_law_610 (zz : Nat × Nat) (b L : Nat) (xs : Nat → Int32) (r : mx_T) (ls : mx_L) (st : List Value) (h : mx_H) (c n : Nat) : mx_G r (t_law zz b L xs) 610 ls st h c n = (o_callF 600000 7302250 2 0 0 (mx_rv 10) (S_Mo_bus zz)) r (mx_G r (t_law zz b L xs)) 610 ls st h c n := mx_G_eq (tm_law zz b L xs) r 610 ls st h c n
set_option maxRecDepth 40000 in
theorem st_law_613 (zz : Nat × Nat) (b L : Nat) (xs : Nat → Int32) (r : mx_T) (ls : mx_L) (st : List Value) (h : mx_H) (c n : Nat) : mx_G r (t_law zz b L xs) 613 ls st h c n = (o_icmp 680 (fun x y => x = y)) r (mx_G r (t_law zz b L xs)) 613 ls st h c n := mx_G_eq (tm_law zz b L xs) r 613 ls st h c n
set_option maxRecDepth 40000 in
theorem st_law_616 (zz : Nat × Nat) (b L : Nat) (xs : Nat → Int32) (r : mx_T) (ls : mx_L) (st : List Value) (h : mx_H) (c n : Nat) : mx_G r (t_law zz b L xs) 616 ls st h c n = (o_push 1 (.int 0)) r (mx_G r (t_law zz b L xs)) 616 ls st h c n := mx_G_eq (tm_law zz b L xs) r 616 ls st h c n
set_option maxRecDepth 40000 in
theorem st_law_617 (zz : Nat × Nat) (b L : Nat) (xs : Nat → Int32) (r : mx_T) (ls : mx_L) (st : List Value) (h : mx_H) (c n : Nat) : mx_G r (t_law zz b L xs) 617 ls st h c n = (o_iret) r (mx_G r (t_law zz b L xs)) 617 ls st h c n := mx_G_eq (tm_law zz b L xs) r 617 ls st h c n
set_option maxRecDepth 40000 in
theorem st_law_618 (zz : Nat × Nat) (b L : Nat) (xs : Nat → Int32) (r : mx_T) (ls : mx_L) (st : List Value) (h : mx_H) (c n : Nat) : mx_G r (t_law zz b L xs) 618 ls st h c n = (o_aload 1 1) r (mx_G r (t_law zz b L xs)) 618 ls st h c n := mx_G_eq (tm_law zz b L xs) r 618 ls st h c n
set_option maxRecDepth 40000 in
theorem st_law_619 (zz : Nat × Nat) (b L : Nat) (xs : Nat → Int32) (r : mx_T) (ls : mx_L) (st : List Value) (h : mx_H) (c n : Nat) : mx_G r (t_law zz b L xs) 619 ls st h c n = (o_aload 1 0) r (mx_G r (t_law zz b L xs)) 619 ls st h c n := mx_G_eq (tm_law zz b L xs) r 619 ls st h c n
set_option maxRecDepth 40000 in
theorem st_law_620 (zz : Nat × Nat) (b L : Nat) (xs : Nat → Int32) (r : mx_T) (ls : mx_L) (st : List Value) (h : mx_H) (c n : Nat) : mx_G r (t_law zz b L xs) 620 ls st h c n = (o_iload 1 3) r (mx_G r (t_law zz b L xs)) 620 ls st h c n := mx_G_eq (tm_law zz b L xs) r 620 ls st h c n
set_option maxRecDepth 40000 in
theorem st_law_621 (zz : Nat × Nat) (b L : Nat) (xs : Nat → Int32) (r : mx_T) (ls : mx_L) (st : List Value) (h : mx_H) (c n : Nat) : mx_G r (t_law zz b L xs) 621 ls st h c n = (o_push 1 (.int 1)) r (mx_G r (t_law zz b L xs)) 621 ls st h c n := mx_G_eq (tm_law zz b L xs) r 621 ls st h c n
set_option maxRecDepth 40000 in
theorem st_law_622 (zz : Nat × Nat) (b L : Nat) (xs : Nat → Int32) (r : mx_T) (ls : mx_L) (st : List Value) (h : mx_H) (c n : Nat) : mx_G r (t_law zz b L xs) 622 ls st h c n = (o_ii (fun x y => x + y)) r (mx_G r (t_law zz b L xs)) 622 ls st h c n := mx_G_eq (tm_law zz b L xs) r 622 ls st h c n
set_option maxRecDepth 40000 in
theorem st_law_623 (zz : Nat × Nat) (b L : Nat) (xs : Nat → Int32) (r : mx_T) (ls : mx_L) (st : List Value) (h : mx_H) (c n : Nat) : mx_G r (t_law zz b L xs) 623 ls st h c n = (o_sld b L xs) r (mx_G r (t_law zz b L xs)) 623 ls st h c n := mx_G_eq (tm_law zz b L xs) r 623 ls st h c n
set_option maxRecDepth 40000 in
theorem st_law_624 (zz : Nat × Nat) (b L : Nat) (xs : Nat → Int32) (r : mx_T) (ls : mx_L) (st : List Value) (h : mx_H) (c n : Nat) : mx_G r (t_law zz b L xs) 624 ls st h c n = (o_callF 600000 7302250 2 0 0 (mx_rv 0) (S_Hs_count zz)) r (mx_G r (t_law zz b L xs)) 624 ls st h c n := mx_G_eq (tm_law zz b L xs) r 624 ls st h c n
set_option maxRecDepth 40000 in
theorem st_law_627 (zz : Nat × Nat) (b L : Nat) (xs : Nat → Int32) (r : mx_T) (ls : mx_L) (st : List Value) (h : mx_H) (c n : Nat) : mx_G r (t_law zz b L xs) 627 ls st h c n = (o_aload 1 2) r (mx_G r (t_law zz b L xs)) 627 ls st h c n := mx_G_eq (tm_law zz b L xs) r 627 ls st h c n
set_option maxRecDepth 40000 in
theorem st_law_628 (zz : Nat × Nat) (b L : Nat) (xs : Nat → Int32) (r : mx_T) (ls : mx_L) (st : List Value) (h : mx_H) (c n : Nat) : mx_G r (t_law zz b L xs) 628 ls st h c n = (o_aload 1 0) r (mx_G r (t_law zz b L xs)) 628 ls st h c n := mx_G_eq (tm_law zz b L xs) r 628 ls st h c n
set_option maxRecDepth 40000 in
theorem st_law_629 (zz : Nat × Nat) (b L : Nat) (xs : Nat → Int32) (r : mx_T) (ls : mx_L) (st : List Value) (h : mx_H) (c n : Nat) : mx_G r (t_law zz b L xs) 629 ls st h c n = (o_iload 1 3) r (mx_G r (t_law zz b L xs)) 629 ls st h c n := mx_G_eq (tm_law zz b L xs) r 629 ls st h c n
set_option maxRecDepth 40000 in
theorem st_law_630 (zz : Nat × Nat) (b L : Nat) (xs : Nat → Int32) (r : mx_T) (ls : mx_L) (st : List Value) (h : mx_H) (c n : Nat) : mx_G r (t_law zz b L xs) 630 ls st h c n = (o_push 1 (.int 1)) r (mx_G r (t_law zz b L xs)) 630 ls st h c n := mx_G_eq (tm_law zz b L xs) r 630 ls st h c n
set_option maxRecDepth 40000 in
theorem st_law_631 (zz : Nat × Nat) (b L : Nat) (xs : Nat → Int32) (r : mx_T) (ls : mx_L) (st : List Value) (h : mx_H) (c n : Nat) : mx_G r (t_law zz b L xs) 631 ls st h c n = (o_ii (fun x y => x + y)) r (mx_G r (t_law zz b L xs)) 631 ls st h c n := mx_G_eq (tm_law zz b L xs) r 631 ls st h c n
set_option maxRecDepth 40000 in
theorem st_law_632 (zz : Nat × Nat) (b L : Nat) (xs : Nat → Int32) (r : mx_T) (ls : mx_L) (st : List Value) (h : mx_H) (c n : Nat) : mx_G r (t_law zz b L xs) 632 ls st h c n = (o_sld b L xs) r (mx_G r (t_law zz b L xs)) 632 ls st h c n := mx_G_eq (tm_law zz b L xs) r 632 ls st h c n
set_option maxRecDepth 40000 in
theorem st_law_633 (zz : Nat × Nat) (b L : Nat) (xs : Nat → Int32) (r : mx_T) (ls : mx_L) (st : List Value) (h : mx_H) (c n : Nat) : mx_G r (t_law zz b L xs) 633 ls st h c n = (o_callF 600000 7302250 2 0 0 (mx_rv 10) (S_Mo_count zz)) r (mx_G r (t_law zz b L xs)) 633 ls st h c n := mx_G_eq (tm_law zz b L xs) r 633 ls st h c n
set_option maxRecDepth 40000 in
theorem st_law_636 (zz : Nat × Nat) (b L : Nat) (xs : Nat → Int32) (r : mx_T) (ls : mx_L) (st : List Value) (h : mx_H) (c n : Nat) : mx_G r (t_law zz b L xs) 636 ls st h c n = (o_icmp 680 (fun x y => x = y)) r (mx_G r (t_law zz b L xs)) 636 ls st h c n := mx_G_eq (tm_law zz b L xs) r 636 ls st h c n
set_option maxRecDepth 40000 in
theorem st_law_639 (zz : Nat × Nat) (b L : Nat) (xs : Nat → Int32) (r : mx_T) (ls : mx_L) (st : List Value) (h : mx_H) (c n : Nat) : mx_G r (t_law zz b L xs) 639 ls st h c n = (o_push 1 (.int 0)) r (mx_G r (t_law zz b L xs)) 639 ls st h c n := mx_G_eq (tm_law zz b L xs) r 639 ls st h c n
set_option maxRecDepth 40000 in
theorem st_law_640 (zz : Nat × Nat) (b L : Nat) (xs : Nat → Int32) (r : mx_T) (ls : mx_L) (st : List Value) (h : mx_H) (c n : Nat) : mx_G r (t_law zz b L xs) 640 ls st h c n = (o_iret) r (mx_G r (t_law zz b L xs)) 640 ls st h c n := mx_G_eq (tm_law zz b L xs) r 640 ls st h c n
set_option maxRecDepth 40000 in
theorem st_law_641 (zz : Nat × Nat) (b L : Nat) (xs : Nat → Int32) (r : mx_T) (ls : mx_L) (st : List Value) (h : mx_H) (c n : Nat) : mx_G r (t_law zz b L xs) 641 ls st h c n = (o_aload 1 1) r (mx_G r (t_law zz b L xs)) 641 ls st h c n := mx_G_eq (tm_law zz b L xs) r 641 ls st h c n
set_option maxRecDepth 40000 in
theorem st_law_642 (zz : Nat × Nat) (b L : Nat) (xs : Nat → Int32) (r : mx_T) (ls : mx_L) (st : List Value) (h : mx_H) (c n : Nat) : mx_G r (t_law zz b L xs) 642 ls st h c n = (o_callF 600000 7302250 1 0 0 (mx_rv 0) (S_Hs_position zz)) r (mx_G r (t_law zz b L xs)) 642 ls st h c n := mx_G_eq (tm_law zz b L xs) r 642 ls st h c n
set_option maxRecDepth 40000 in
theorem st_law_645 (zz : Nat × Nat) (b L : Nat) (xs : Nat → Int32) (r : mx_T) (ls : mx_L) (st : List Value) (h : mx_H) (c n : Nat) : mx_G r (t_law zz b L xs) 645 ls st h c n = (o_aload 1 2) r (mx_G r (t_law zz b L xs)) 645 ls st h c n := mx_G_eq (tm_law zz b L xs) r 645 ls st h c n
set_option maxRecDepth 40000 in
theorem st_law_646 (zz : Nat × Nat) (b L : Nat) (xs : Nat → Int32) (r : mx_T) (ls : mx_L) (st : List Value) (h : mx_H) (c n : Nat) : mx_G r (t_law zz b L xs) 646 ls st h c n = (o_callF 600000 7302250 1 0 0 (mx_rv 10) (S_Mo_position zz)) r (mx_G r (t_law zz b L xs)) 646 ls st h c n := mx_G_eq (tm_law zz b L xs) r 646 ls st h c n
set_option maxRecDepth 40000 in
theorem st_law_649 (zz : Nat × Nat) (b L : Nat) (xs : Nat → Int32) (r : mx_T) (ls : mx_L) (st : List Value) (h : mx_H) (c n : Nat) : mx_G r (t_law zz b L xs) 649 ls st h c n = (o_icmp 680 (fun x y => x = y)) r (mx_G r (t_law zz b L xs)) 649 ls st h c n := mx_G_eq (tm_law zz b L xs) r 649 ls st h c n
set_option maxRecDepth 40000 in
theorem st_law_652 (zz : Nat × Nat) (b L : Nat) (xs : Nat → Int32) (r : mx_T) (ls : mx_L) (st : List Value) (h : mx_H) (c n : Nat) : mx_G r (t_law zz b L xs) 652 ls st h c n = (o_push 1 (.int 0)) r (mx_G r (t_law zz b L xs)) 652 ls st h c n := mx_G_eq (tm_law zz b L xs) r 652 ls st h c n
set_option maxRecDepth 40000 in
theorem st_law_653 (zz : Nat × Nat) (b L : Nat) (xs : Nat → Int32) (r : mx_T) (ls : mx_L) (st : List Value) (h : mx_H) (c n : Nat) : mx_G r (t_law zz b L xs) 653 ls st h c n = (o_iret) r (mx_G r (t_law zz b L xs)) 653 ls st h c n := mx_G_eq (tm_law zz b L xs) r 653 ls st h c n
set_option maxRecDepth 40000 in
theorem st_law_654 (zz : Nat × Nat) (b L : Nat) (xs : Nat → Int32) (r : mx_T) (ls : mx_L) (st : List Value) (h : mx_H) (c n : Nat) : mx_G r (t_law zz b L xs) 654 ls st h c n = (o_aload 1 1) r (mx_G r (t_law zz b L xs)) 654 ls st h c n := mx_G_eq (tm_law zz b L xs) r 654 ls st h c n
set_option maxRecDepth 40000 in
theorem st_law_655 (zz : Nat × Nat) (b L : Nat) (xs : Nat → Int32) (r : mx_T) (ls : mx_L) (st : List Value) (h : mx_H) (c n : Nat) : mx_G r (t_law zz b L xs) 655 ls st h c n = (o_callF 600000 7302250 1 0 0 (mx_rv 0) (S_Hs_sleep zz)) r (mx_G r (t_law zz b L xs)) 655 ls st h c n := mx_G_eq (tm_law zz b L xs) r 655 ls st h c n
set_option maxRecDepth 40000 in
theorem st_law_658 (zz : Nat × Nat) (b L : Nat) (xs : Nat → Int32) (r : mx_T) (ls : mx_L) (st : List Value) (h : mx_H) (c n : Nat) : mx_G r (t_law zz b L xs) 658 ls st h c n = (o_aload 1 2) r (mx_G r (t_law zz b L xs)) 658 ls st h c n := mx_G_eq (tm_law zz b L xs) r 658 ls st h c n
set_option maxRecDepth 40000 in
theorem st_law_659 (zz : Nat × Nat) (b L : Nat) (xs : Nat → Int32) (r : mx_T) (ls : mx_L) (st : List Value) (h : mx_H) (c n : Nat) : mx_G r (t_law zz b L xs) 659 ls st h c n = (o_callF 600000 7302250 1 0 0 (mx_rv 10) (S_Mo_sleep zz)) r (mx_G r (t_law zz b L xs)) 659 ls st h c n := mx_G_eq (tm_law zz b L xs) r 659 ls st h c n
set_option maxRecDepth 40000 in
theorem st_law_662 (zz : Nat × Nat) (b L : Nat) (xs : Nat → Int32) (r : mx_T) (ls : mx_L) (st : List Value) (h : mx_H) (c n : Nat) : mx_G r (t_law zz b L xs) 662 ls st h c n = (o_icmp 680 (fun x y => x = y)) r (mx_G r (t_law zz b L xs)) 662 ls st h c n := mx_G_eq (tm_law zz b L xs) r 662 ls st h c n
set_option maxRecDepth 40000 in
theorem st_law_665 (zz : Nat × Nat) (b L : Nat) (xs : Nat → Int32) (r : mx_T) (ls : mx_L) (st : List Value) (h : mx_H) (c n : Nat) : mx_G r (t_law zz b L xs) 665 ls st h c n = (o_push 1 (.int 0)) r (mx_G r (t_law zz b L xs)) 665 ls st h c n := mx_G_eq (tm_law zz b L xs) r 665 ls st h c n
set_option maxRecDepth 40000 in
theorem st_law_666 (zz : Nat × Nat) (b L : Nat) (xs : Nat → Int32) (r : mx_T) (ls : mx_L) (st : List Value) (h : mx_H) (c n : Nat) : mx_G r (t_law zz b L xs) 666 ls st h c n = (o_iret) r (mx_G r (t_law zz b L xs)) 666 ls st h c n := mx_G_eq (tm_law zz b L xs) r 666 ls st h c n
set_option maxRecDepth 40000 in
theorem st_law_667 (zz : Nat × Nat) (b L : Nat) (xs : Nat → Int32) (r : mx_T) (ls : mx_L) (st : List Value) (h : mx_H) (c n : Nat) : mx_G r (t_law zz b L xs) 667 ls st h c n = (o_aload 1 1) r (mx_G r (t_law zz b L xs)) 667 ls st h c n := mx_G_eq (tm_law zz b L xs) r 667 ls st h c n
set_option maxRecDepth 40000 in
theorem st_law_668 (zz : Nat × Nat) (b L : Nat) (xs : Nat → Int32) (r : mx_T) (ls : mx_L) (st : List Value) (h : mx_H) (c n : Nat) : mx_G r (t_law zz b L xs) 668 ls st h c n = (o_callF 600000 7302250 1 0 0 (mx_rv 0) (S_Hs_wake zz)) r (mx_G r (t_law zz b L xs)) 668 ls st h c n := mx_G_eq (tm_law zz b L xs) r 668 ls st h c n
set_option maxRecDepth 40000 in
theorem st_law_671 (zz : Nat × Nat) (b L : Nat) (xs : Nat → Int32) (r : mx_T) (ls : mx_L) (st : List Value) (h : mx_H) (c n : Nat) : mx_G r (t_law zz b L xs) 671 ls st h c n = (o_aload 1 2) r (mx_G r (t_law zz b L xs)) 671 ls st h c n := mx_G_eq (tm_law zz b L xs) r 671 ls st h c n
set_option maxRecDepth 40000 in
theorem st_law_672 (zz : Nat × Nat) (b L : Nat) (xs : Nat → Int32) (r : mx_T) (ls : mx_L) (st : List Value) (h : mx_H) (c n : Nat) : mx_G r (t_law zz b L xs) 672 ls st h c n = (o_callF 600000 7302250 1 0 0 (mx_rv 10) (S_Mo_wake zz)) r (mx_G r (t_law zz b L xs)) 672 ls st h c n := mx_G_eq (tm_law zz b L xs) r 672 ls st h c n
set_option maxRecDepth 40000 in
theorem st_law_675 (zz : Nat × Nat) (b L : Nat) (xs : Nat → Int32) (r : mx_T) (ls : mx_L) (st : List Value) (h : mx_H) (c n : Nat) : mx_G r (t_law zz b L xs) 675 ls st h c n = (o_icmp 680 (fun x y => x = y)) r (mx_G r (t_law zz b L xs)) 675 ls st h c n := mx_G_eq (tm_law zz b L xs) r 675 ls st h c n
set_option maxRecDepth 40000 in
theorem st_law_678 (zz : Nat × Nat) (b L : Nat) (xs : Nat → Int32) (r : mx_T) (ls : mx_L) (st : List Value) (h : mx_H) (c n : Nat) : mx_G r (t_law zz b L xs) 678 ls st h c n = (o_push 1 (.int 0)) r (mx_G r (t_law zz b L xs)) 678 ls st h c n := mx_G_eq (tm_law zz b L xs) r 678 ls st h c n
set_option maxRecDepth 40000 in
theorem st_law_679 (zz : Nat × Nat) (b L : Nat) (xs : Nat → Int32) (r : mx_T) (ls : mx_L) (st : List Value) (h : mx_H) (c n : Nat) : mx_G r (t_law zz b L xs) 679 ls st h c n = (o_iret) r (mx_G r (t_law zz b L xs)) 679 ls st h c n := mx_G_eq (tm_law zz b L xs) r 679 ls st h c n
set_option maxRecDepth 40000 in
theorem st_law_680 (zz : Nat × Nat) (b L : Nat) (xs : Nat → Int32) (r : mx_T) (ls : mx_L) (st : List Value) (h : mx_H) (c n : Nat) : mx_G r (t_law zz b L xs) 680 ls st h c n = (o_iinc 3 6) r (mx_G r (t_law zz b L xs)) 680 ls st h c n := mx_G_eq (tm_law zz b L xs) r 680 ls st h c n
set_option maxRecDepth 40000 in
theorem st_law_683 (zz : Nat × Nat) (b L : Nat) (xs : Nat → Int32) (r : mx_T) (ls : mx_L) (st : List Value) (h : mx_H) (c n : Nat) : mx_G r (t_law zz b L xs) 683 ls st h c n = (o_goto 18) r (mx_G r (t_law zz b L xs)) 683 ls st h c n := mx_G_eq (tm_law zz b L xs) r 683 ls st h c n
set_option maxRecDepth 40000 in
theorem st_law_686 (zz : Nat × Nat) (b L : Nat) (xs : Nat → Int32) (r : mx_T) (ls : mx_L) (st : List Value) (h : mx_H) (c n : Nat) : mx_G r (t_law zz b L xs) 686 ls st h c n = (o_push 1 (.int 1)) r (mx_G r (t_law zz b L xs)) 686 ls st h c n := mx_G_eq (tm_law zz b L xs) r 686 ls st h c n
set_option maxRecDepth 40000 in
theorem st_law_687 (zz : Nat × Nat) (b L : Nat) (xs : Nat → Int32) (r : mx_T) (ls : mx_L) (st : List Value) (h : mx_H) (c n : Nat) : mx_G r (t_law zz b L xs) 687 ls st h c n = (o_iret) r (mx_G r (t_law zz b L xs)) 687 ls st h c n := mx_G_eq (tm_law zz b L xs) r 687 ls st h c n
