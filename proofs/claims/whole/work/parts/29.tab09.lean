theorem d_Mo_tick_0 : decode c_Mo_tick 0 = .ok (.aload_n 0, 1) := by decide +kernel
theorem d_Mo_tick_1 : decode c_Mo_tick 1 = .ok (.getfield 87, 3) := by decide +kernel
theorem d_Mo_tick_4 : decode c_Mo_tick 4 = .ok (.ifCond .eq 10, 3) := by decide +kernel
theorem d_Mo_tick_7 : decode c_Mo_tick 7 = .ok (.aload_n 0, 1) := by decide +kernel
theorem d_Mo_tick_8 : decode c_Mo_tick 8 = .ok (.getfield 185, 3) := by decide +kernel
theorem d_Mo_tick_11 : decode c_Mo_tick 11 = .ok (.ifCond .eq 5, 3) := by decide +kernel
theorem d_Mo_tick_14 : decode c_Mo_tick 14 = .ok (.iconst (-1), 1) := by decide +kernel
theorem d_Mo_tick_15 : decode c_Mo_tick 15 = .ok (.ireturn, 1) := by decide +kernel
theorem d_Mo_tick_16 : decode c_Mo_tick 16 = .ok (.aload_n 0, 1) := by decide +kernel
theorem d_Mo_tick_17 : decode c_Mo_tick 17 = .ok (.getfield 188, 3) := by decide +kernel
theorem d_Mo_tick_20 : decode c_Mo_tick 20 = .ok (.ifCond .le 15, 3) := by decide +kernel
theorem d_Mo_tick_23 : decode c_Mo_tick 23 = .ok (.aload_n 0, 1) := by decide +kernel
theorem d_Mo_tick_24 : decode c_Mo_tick 24 = .ok (.dup, 1) := by decide +kernel
theorem d_Mo_tick_25 : decode c_Mo_tick 25 = .ok (.getfield 188, 3) := by decide +kernel
theorem d_Mo_tick_28 : decode c_Mo_tick 28 = .ok (.iconst 1, 1) := by decide +kernel
theorem d_Mo_tick_29 : decode c_Mo_tick 29 = .ok (.isub, 1) := by decide +kernel
theorem d_Mo_tick_30 : decode c_Mo_tick 30 = .ok (.putfield 188, 3) := by decide +kernel
theorem d_Mo_tick_33 : decode c_Mo_tick 33 = .ok (.iconst 0, 1) := by decide +kernel
theorem d_Mo_tick_34 : decode c_Mo_tick 34 = .ok (.ireturn, 1) := by decide +kernel
theorem d_Mo_tick_35 : decode c_Mo_tick 35 = .ok (.aload_n 0, 1) := by decide +kernel
theorem d_Mo_tick_36 : decode c_Mo_tick 36 = .ok (.invokevirtual 191, 3) := by decide +kernel
theorem d_Mo_tick_39 : decode c_Mo_tick 39 = .ok (.bipush 8, 2) := by decide +kernel
theorem d_Mo_tick_41 : decode c_Mo_tick 41 = .ok (.aload_n 0, 1) := by decide +kernel
theorem d_Mo_tick_42 : decode c_Mo_tick 42 = .ok (.getfield 124, 3) := by decide +kernel
theorem d_Mo_tick_45 : decode c_Mo_tick 45 = .ok (.imul, 1) := by decide +kernel
theorem d_Mo_tick_46 : decode c_Mo_tick 46 = .ok (.aload_n 0, 1) := by decide +kernel
theorem d_Mo_tick_47 : decode c_Mo_tick 47 = .ok (.getfield 127, 3) := by decide +kernel
theorem d_Mo_tick_50 : decode c_Mo_tick 50 = .ok (.iadd, 1) := by decide +kernel
theorem d_Mo_tick_51 : decode c_Mo_tick 51 = .ok (.istore_n 1, 1) := by decide +kernel
theorem d_Mo_tick_52 : decode c_Mo_tick 52 = .ok (.aload_n 0, 1) := by decide +kernel
theorem d_Mo_tick_53 : decode c_Mo_tick 53 = .ok (.dup, 1) := by decide +kernel
theorem d_Mo_tick_54 : decode c_Mo_tick 54 = .ok (.getfield 127, 3) := by decide +kernel
theorem d_Mo_tick_57 : decode c_Mo_tick 57 = .ok (.iconst 1, 1) := by decide +kernel
theorem d_Mo_tick_58 : decode c_Mo_tick 58 = .ok (.iadd, 1) := by decide +kernel
theorem d_Mo_tick_59 : decode c_Mo_tick 59 = .ok (.putfield 127, 3) := by decide +kernel
theorem d_Mo_tick_62 : decode c_Mo_tick 62 = .ok (.aload_n 0, 1) := by decide +kernel
theorem d_Mo_tick_63 : decode c_Mo_tick 63 = .ok (.aload_n 0, 1) := by decide +kernel
theorem d_Mo_tick_64 : decode c_Mo_tick 64 = .ok (.getfield 68, 3) := by decide +kernel
theorem d_Mo_tick_67 : decode c_Mo_tick 67 = .ok (.iload_n 1, 1) := by decide +kernel
theorem d_Mo_tick_68 : decode c_Mo_tick 68 = .ok (.iaload, 1) := by decide +kernel
theorem d_Mo_tick_69 : decode c_Mo_tick 69 = .ok (.iconst 1, 1) := by decide +kernel
theorem d_Mo_tick_70 : decode c_Mo_tick 70 = .ok (.isub, 1) := by decide +kernel
theorem d_Mo_tick_71 : decode c_Mo_tick 71 = .ok (.putfield 188, 3) := by decide +kernel
theorem d_Mo_tick_74 : decode c_Mo_tick 74 = .ok (.aload_n 0, 1) := by decide +kernel
theorem d_Mo_tick_75 : decode c_Mo_tick 75 = .ok (.iconst 0, 1) := by decide +kernel
theorem d_Mo_tick_76 : decode c_Mo_tick 76 = .ok (.putfield 173, 3) := by decide +kernel
theorem d_Mo_tick_79 : decode c_Mo_tick 79 = .ok (.aload_n 0, 1) := by decide +kernel
theorem d_Mo_tick_80 : decode c_Mo_tick 80 = .ok (.iconst 0, 1) := by decide +kernel
theorem d_Mo_tick_81 : decode c_Mo_tick 81 = .ok (.putfield 150, 3) := by decide +kernel
theorem d_Mo_tick_84 : decode c_Mo_tick 84 = .ok (.aload_n 0, 1) := by decide +kernel
theorem d_Mo_tick_85 : decode c_Mo_tick 85 = .ok (.getfield 62, 3) := by decide +kernel
theorem d_Mo_tick_88 : decode c_Mo_tick 88 = .ok (.iload_n 1, 1) := by decide +kernel
theorem d_Mo_tick_89 : decode c_Mo_tick 89 = .ok (.iaload, 1) := by decide +kernel
theorem d_Mo_tick_90 : decode c_Mo_tick 90 = .ok (.ifCond .ne 16, 3) := by decide +kernel
theorem d_Mo_tick_93 : decode c_Mo_tick 93 = .ok (.aload_n 0, 1) := by decide +kernel
theorem d_Mo_tick_94 : decode c_Mo_tick 94 = .ok (.aload_n 0, 1) := by decide +kernel
theorem d_Mo_tick_95 : decode c_Mo_tick 95 = .ok (.getfield 65, 3) := by decide +kernel
theorem d_Mo_tick_98 : decode c_Mo_tick 98 = .ok (.iload_n 1, 1) := by decide +kernel
theorem d_Mo_tick_99 : decode c_Mo_tick 99 = .ok (.iaload, 1) := by decide +kernel
theorem d_Mo_tick_100 : decode c_Mo_tick 100 = .ok (.invokevirtual 170, 3) := by decide +kernel
theorem d_Mo_tick_103 : decode c_Mo_tick 103 = .ok (.goto 36, 3) := by decide +kernel
theorem d_Mo_tick_106 : decode c_Mo_tick 106 = .ok (.aload_n 0, 1) := by decide +kernel
theorem d_Mo_tick_107 : decode c_Mo_tick 107 = .ok (.getfield 62, 3) := by decide +kernel
theorem d_Mo_tick_110 : decode c_Mo_tick 110 = .ok (.iload_n 1, 1) := by decide +kernel
theorem d_Mo_tick_111 : decode c_Mo_tick 111 = .ok (.iaload, 1) := by decide +kernel
theorem d_Mo_tick_112 : decode c_Mo_tick 112 = .ok (.iconst 1, 1) := by decide +kernel
theorem d_Mo_tick_113 : decode c_Mo_tick 113 = .ok (.if_icmp .ne 16, 3) := by decide +kernel
theorem d_Mo_tick_116 : decode c_Mo_tick 116 = .ok (.aload_n 0, 1) := by decide +kernel
theorem d_Mo_tick_117 : decode c_Mo_tick 117 = .ok (.aload_n 0, 1) := by decide +kernel
theorem d_Mo_tick_118 : decode c_Mo_tick 118 = .ok (.getfield 65, 3) := by decide +kernel
theorem d_Mo_tick_121 : decode c_Mo_tick 121 = .ok (.iload_n 1, 1) := by decide +kernel
theorem d_Mo_tick_122 : decode c_Mo_tick 122 = .ok (.iaload, 1) := by decide +kernel
theorem d_Mo_tick_123 : decode c_Mo_tick 123 = .ok (.invokevirtual 194, 3) := by decide +kernel
theorem d_Mo_tick_126 : decode c_Mo_tick 126 = .ok (.goto 13, 3) := by decide +kernel
theorem d_Mo_tick_129 : decode c_Mo_tick 129 = .ok (.aload_n 0, 1) := by decide +kernel
theorem d_Mo_tick_130 : decode c_Mo_tick 130 = .ok (.aload_n 0, 1) := by decide +kernel
theorem d_Mo_tick_131 : decode c_Mo_tick 131 = .ok (.getfield 65, 3) := by decide +kernel
theorem d_Mo_tick_134 : decode c_Mo_tick 134 = .ok (.iload_n 1, 1) := by decide +kernel
theorem d_Mo_tick_135 : decode c_Mo_tick 135 = .ok (.iaload, 1) := by decide +kernel
theorem d_Mo_tick_136 : decode c_Mo_tick 136 = .ok (.invokevirtual 197, 3) := by decide +kernel
theorem d_Mo_tick_139 : decode c_Mo_tick 139 = .ok (.istore_n 2, 1) := by decide +kernel
theorem d_Mo_tick_140 : decode c_Mo_tick 140 = .ok (.aload_n 0, 1) := by decide +kernel
theorem d_Mo_tick_141 : decode c_Mo_tick 141 = .ok (.getfield 78, 3) := by decide +kernel
theorem d_Mo_tick_144 : decode c_Mo_tick 144 = .ok (.iload_n 2, 1) := by decide +kernel
theorem d_Mo_tick_145 : decode c_Mo_tick 145 = .ok (.aload_n 0, 1) := by decide +kernel
theorem d_Mo_tick_146 : decode c_Mo_tick 146 = .ok (.getfield 78, 3) := by decide +kernel
theorem d_Mo_tick_149 : decode c_Mo_tick 149 = .ok (.iload_n 2, 1) := by decide +kernel
theorem d_Mo_tick_150 : decode c_Mo_tick 150 = .ok (.iaload, 1) := by decide +kernel
theorem d_Mo_tick_151 : decode c_Mo_tick 151 = .ok (.iconst 1, 1) := by decide +kernel
theorem d_Mo_tick_152 : decode c_Mo_tick 152 = .ok (.iadd, 1) := by decide +kernel
theorem d_Mo_tick_153 : decode c_Mo_tick 153 = .ok (.iastore, 1) := by decide +kernel
theorem d_Mo_tick_154 : decode c_Mo_tick 154 = .ok (.iload_n 2, 1) := by decide +kernel
theorem d_Mo_tick_155 : decode c_Mo_tick 155 = .ok (.ireturn, 1) := by decide +kernel
def t_Mo_tick (zz : Nat × Nat) : List (Nat × mx_O) := [(0, o_aload 1 0),
  (1, o_get 10 24),
  (4, o_if 14 (fun x => x = 0)),
  (7, o_aload 1 0),
  (8, o_get 10 25),
  (11, o_if 16 (fun x => x = 0)),
  (14, o_push 1 (.int (-1))),
  (15, o_iret),
  (16, o_aload 1 0),
  (17, o_get 10 28),
  (20, o_if 35 (fun x => x ≤ 0)),
  (23, o_aload 1 0),
  (24, o_dup),
  (25, o_get 10 28),
  (28, o_push 1 (.int 1)),
  (29, o_ii (fun x y => x - y)),
  (30, o_put 10 28 mx_vI),
  (33, o_push 1 (.int 0)),
  (34, o_iret),
  (35, o_aload 1 0),
  (36, o_call 0 0 1 0 0 (mx_rv 10) (S_Mo_turnOver zz)),
  (39, o_push 2 (.int 8)),
  (41, o_aload 1 0),
  (42, o_get 10 26),
  (45, o_ii (fun x y => x * y)),
  (46, o_aload 1 0),
  (47, o_get 10 27),
  (50, o_ii (fun x y => x + y)),
  (51, o_istore 1 1),
  (52, o_aload 1 0),
  (53, o_dup),
  (54, o_get 10 27),
  (57, o_push 1 (.int 1)),
  (58, o_ii (fun x y => x + y)),
  (59, o_put 10 27 mx_vI),
  (62, o_aload 1 0),
  (63, o_aload 1 0),
  (64, o_get 10 23),
  (67, o_iload 1 1),
  (68, o_iald .int),
  (69, o_push 1 (.int 1)),
  (70, o_ii (fun x y => x - y)),
  (71, o_put 10 28 mx_vI),
  (74, o_aload 1 0),
  (75, o_push 1 (.int 0)),
  (76, o_put 10 33 mx_vI),
  (79, o_aload 1 0),
  (80, o_push 1 (.int 0)),
  (81, o_put 10 34 mx_vI),
  (84, o_aload 1 0),
  (85, o_get 10 21),
  (88, o_iload 1 1),
  (89, o_iald .int),
  (90, o_if 106 (fun x => ¬ x = 0)),
  (93, o_aload 1 0),
  (94, o_aload 1 0),
  (95, o_get 10 22),
  (98, o_iload 1 1),
  (99, o_iald .int),
  (100, o_call 0 0 2 0 0 (mx_rv 10) (S_Mo_own zz)),
  (103, o_goto 139),
  (106, o_aload 1 0),
  (107, o_get 10 21),
  (110, o_iload 1 1),
  (111, o_iald .int),
  (112, o_push 1 (.int 1)),
  (113, o_icmp 129 (fun x y => ¬ x = y)),
  (116, o_aload 1 0),
  (117, o_aload 1 0),
  (118, o_get 10 22),
  (121, o_iload 1 1),
  (122, o_iald .int),
  (123, o_call 0 0 2 0 0 (mx_rv 10) (S_Mo_sporadicSlot zz)),
  (126, o_goto 139),
  (129, o_aload 1 0),
  (130, o_aload 1 0),
  (131, o_get 10 22),
  (134, o_iload 1 1),
  (135, o_iald .int),
  (136, o_call 0 0 2 0 0 (mx_rv 10) (S_Mo_eventSlot zz)),
  (139, o_istore 1 2),
  (140, o_aload 1 0),
  (141, o_get 10 39),
  (144, o_iload 1 2),
  (145, o_aload 1 0),
  (146, o_get 10 39),
  (149, o_iload 1 2),
  (150, o_iald .int),
  (151, o_push 1 (.int 1)),
  (152, o_ii (fun x y => x + y)),
  (153, o_iast .int (fun x => x)),
  (154, o_iload 1 2),
  (155, o_iret)]
set_option maxRecDepth 100000 in
theorem tm_Mo_tick (zz : Nat × Nat) : mx_All (fun _ o => mx_Mono o) (t_Mo_tick zz) := by
  refine mx_all_cons (mo_st) ?_
  refine mx_all_cons (mo_st) ?_
  refine mx_all_cons (mo_br) ?_
  refine mx_all_cons (mo_st) ?_
  refine mx_all_cons (mo_st) ?_
  refine mx_all_cons (mo_br) ?_
  refine mx_all_cons (mo_st) ?_
  refine mx_all_cons (mo_ret) ?_
  refine mx_all_cons (mo_st) ?_
  refine mx_all_cons (mo_st) ?_
  refine mx_all_cons (mo_br) ?_
  refine mx_all_cons (mo_st) ?_
  refine mx_all_cons (mo_st) ?_
  refine mx_all_cons (mo_st) ?_
  refine mx_all_cons (mo_st) ?_
  refine mx_all_cons (mo_st) ?_
  refine mx_all_cons (mo_sc) ?_
  refine mx_all_cons (mo_st) ?_
  refine mx_all_cons (mo_ret) ?_
  refine mx_all_cons (mo_st) ?_
  refine mx_all_cons (mo_call (sm_Mo_turnOver zz)) ?_
  refine mx_all_cons (mo_st) ?_
  refine mx_all_cons (mo_st) ?_
  refine mx_all_cons (mo_st) ?_
  refine mx_all_cons (mo_st) ?_
  refine mx_all_cons (mo_st) ?_
  refine mx_all_cons (mo_st) ?_
  refine mx_all_cons (mo_st) ?_
  refine mx_all_cons (mo_st) ?_
  refine mx_all_cons (mo_st) ?_
  refine mx_all_cons (mo_st) ?_
  refine mx_all_cons (mo_st) ?_
  refine mx_all_cons (mo_st) ?_
  refine mx_all_cons (mo_st) ?_
  refine mx_all_cons (mo_sc) ?_
  refine mx_all_cons (mo_st) ?_
  refine mx_all_cons (mo_st) ?_
  refine mx_all_cons (mo_st) ?_
  refine mx_all_cons (mo_st) ?_
  refine mx_all_cons (mo_sc) ?_
  refine mx_all_cons (mo_st) ?_
  refine mx_all_cons (mo_st) ?_
  refine mx_all_cons (mo_sc) ?_
  refine mx_all_cons (mo_st) ?_
  refine mx_all_cons (mo_st) ?_
  refine mx_all_cons (mo_sc) ?_
  refine mx_all_cons (mo_st) ?_
  refine mx_all_cons (mo_st) ?_
  refine mx_all_cons (mo_sc) ?_
  refine mx_all_cons (mo_st) ?_
  refine mx_all_cons (mo_st) ?_
  refine mx_all_cons (mo_st) ?_
  refine mx_all_cons (mo_sc) ?_
  refine mx_all_cons (mo_br) ?_
  refine mx_all_cons (mo_st) ?_
  refine mx_all_cons (mo_st) ?_
  refine mx_all_cons (mo_st) ?_
  refine mx_all_cons (mo_st) ?_
  refine mx_all_cons (mo_sc) ?_
  refine mx_all_cons (mo_call (sm_Mo_own zz)) ?_
  refine mx_all_cons (mo_st) ?_
  refine mx_all_cons (mo_st) ?_
  refine mx_all_cons (mo_st) ?_
  refine mx_all_cons (mo_st) ?_
  refine mx_all_cons (mo_sc) ?_
  refine mx_all_cons (mo_st) ?_
  refine mx_all_cons (mo_br) ?_
  refine mx_all_cons (mo_st) ?_
  refine mx_all_cons (mo_st) ?_
  refine mx_all_cons (mo_st) ?_
  refine mx_all_cons (mo_st) ?_
  refine mx_all_cons (mo_sc) ?_
  refine mx_all_cons (mo_call (sm_Mo_sporadicSlot zz)) ?_
  refine mx_all_cons (mo_st) ?_
  refine mx_all_cons (mo_st) ?_
  refine mx_all_cons (mo_st) ?_
  refine mx_all_cons (mo_st) ?_
  refine mx_all_cons (mo_st) ?_
  refine mx_all_cons (mo_sc) ?_
  refine mx_all_cons (mo_call (sm_Mo_eventSlot zz)) ?_
  refine mx_all_cons (mo_st) ?_
  refine mx_all_cons (mo_st) ?_
  refine mx_all_cons (mo_st) ?_
  refine mx_all_cons (mo_st) ?_
  refine mx_all_cons (mo_st) ?_
  refine mx_all_cons (mo_st) ?_
  refine mx_all_cons (mo_st) ?_
  refine mx_all_cons (mo_sc) ?_
  refine mx_all_cons (mo_st) ?_
  refine mx_all_cons (mo_st) ?_
  refine mx_all_cons (mo_sc) ?_
  refine mx_all_cons (mo_st) ?_
  refine mx_all_cons (mo_ret) ?_
  exact mx_all_nil
def S_Mo_tick (zz : Nat × Nat) : mx_Sp := mx_S 3 0 0 (t_Mo_tick zz)
theorem sm_Mo_tick (zz : Nat × Nat) : mx_SMono (S_Mo_tick zz) := mx_S_mono (tm_Mo_tick zz)
abbrev rm_Mo_tick : Room := { frames := 6, cells := 0, slots := 0, locals := 136 }
set_option maxHeartbeats 4000000 in
set_option maxRecDepth 100000 in
theorem m_Mo_tick (l : Launch) (zz : Nat × Nat) : mx_Met l y_Mo_tick (wsOf y_Mo_tick c_Mo_tick 3 (some .int)) rm_Mo_tick wcl (mx_Z zz) 0 0 (S_Mo_tick zz) := by
  refine mx_met (cc := c_Mo_tick) (ret := (some .int)) (by decide) rfl ?_
  intro p e s m args below meth c D A Post X hz hr hlk hnm
  have hm : ∀ w ∈ mw, w.before args s = true := fun w h => X.1.2.2.2.2 w (List.mem_cons_of_mem _ h)
  refine mx_all_cons (ok_aload (fun hl kk => lv_aload_n X.1.1 X.1.2.1 d_Mo_tick_0 rfl hl kk) (fun hl kk => lv_aload_nN X.1.1 X.1.2.1 d_Mo_tick_0 rfl hl kk)) ?_
  refine mx_all_cons (ok_get (C := "HeaderScheduleModel") (T := T_Mo) (N := 40) X (mw_up in_Mo) rfl 24 (by decide) (hm _ w701) (fun _ h9 => h9) d_Mo_tick_1) ?_
  refine mx_all_cons (ok_if (fun kt kf => lv_if_eq X.1.1 X.1.2.1 d_Mo_tick_4 (by decide) kt kf)) ?_
  refine mx_all_cons (ok_aload (fun hl kk => lv_aload_n X.1.1 X.1.2.1 d_Mo_tick_7 rfl hl kk) (fun hl kk => lv_aload_nN X.1.1 X.1.2.1 d_Mo_tick_7 rfl hl kk)) ?_
  refine mx_all_cons (ok_get (C := "HeaderScheduleModel") (T := T_Mo) (N := 40) X (mw_up in_Mo) rfl 25 (by decide) (hm _ w702) (fun _ h9 => h9) d_Mo_tick_8) ?_
  refine mx_all_cons (ok_if (fun kt kf => lv_if_eq X.1.1 X.1.2.1 d_Mo_tick_11 (by decide) kt kf)) ?_
  refine mx_all_cons (ok_push (fun kk => lv_iconst X.1.1 X.1.2.1 d_Mo_tick_14 (by decide) kk)) ?_
  refine mx_all_cons (ok_iret X hr hlk d_Mo_tick_15) ?_
  refine mx_all_cons (ok_aload (fun hl kk => lv_aload_n X.1.1 X.1.2.1 d_Mo_tick_16 rfl hl kk) (fun hl kk => lv_aload_nN X.1.1 X.1.2.1 d_Mo_tick_16 rfl hl kk)) ?_
  refine mx_all_cons (ok_get (C := "HeaderScheduleModel") (T := T_Mo) (N := 40) X (mw_up in_Mo) rfl 28 (by decide) (hm _ w705) (fun _ h9 => h9) d_Mo_tick_17) ?_
  refine mx_all_cons (ok_if (fun kt kf => lv_if_le X.1.1 X.1.2.1 d_Mo_tick_20 (by decide) kt kf)) ?_
  refine mx_all_cons (ok_aload (fun hl kk => lv_aload_n X.1.1 X.1.2.1 d_Mo_tick_23 rfl hl kk) (fun hl kk => lv_aload_nN X.1.1 X.1.2.1 d_Mo_tick_23 rfl hl kk)) ?_
  refine mx_all_cons (ok_dup X d_Mo_tick_24) ?_
  refine mx_all_cons (ok_get (C := "HeaderScheduleModel") (T := T_Mo) (N := 40) X (mw_up in_Mo) rfl 28 (by decide) (hm _ w705) (fun _ h9 => h9) d_Mo_tick_25) ?_
  refine mx_all_cons (ok_push (fun kk => lv_iconst X.1.1 X.1.2.1 d_Mo_tick_28 (by decide) kk)) ?_
  refine mx_all_cons (ok_ii (fun kk => lv_isub X.1.1 X.1.2.1 d_Mo_tick_29 kk)) ?_
  refine mx_all_cons (ok_put (C := "HeaderScheduleModel") (T := T_Mo) (N := 40) X (mw_up in_Mo) ty_Mo tyok_Mo nm_Mo rfl 28 (by decide) (hm _ w705) (fun _ h9 => h9) rfl (tyok_Mo 28 (by decide)) mx_vI_ok d_Mo_tick_30) ?_
  refine mx_all_cons (ok_push (fun kk => lv_iconst X.1.1 X.1.2.1 d_Mo_tick_33 (by decide) kk)) ?_
  refine mx_all_cons (ok_iret X hr hlk d_Mo_tick_34) ?_
  refine mx_all_cons (ok_aload (fun hl kk => lv_aload_n X.1.1 X.1.2.1 d_Mo_tick_35 rfl hl kk) (fun hl kk => lv_aload_nN X.1.1 X.1.2.1 d_Mo_tick_35 rfl hl kk)) ?_
  refine mx_all_cons (ok_callV (C := "HeaderScheduleModel") (T := T_Mo) (N := 40) X (mx_Zok_Z zz) hz ⟨(Nat.le_of_ble_eq_true rfl), (Nat.le_of_ble_eq_true rfl)⟩ (m_Mo_turnOver l zz) ⟨mx_cwB 0 hm w884 w881 w40 rfl rfl (by decide +kernel) ⟨(Nat.le_of_ble_eq_true rfl), (Nat.le_of_ble_eq_true rfl)⟩, (hm _ w883), hm _ w23⟩ rfl d_Mo_tick_36) ?_
  refine mx_all_cons (ok_push (fun kk => lv_bipush X.1.1 X.1.2.1 d_Mo_tick_39 (by decide) kk)) ?_
  refine mx_all_cons (ok_aload (fun hl kk => lv_aload_n X.1.1 X.1.2.1 d_Mo_tick_41 rfl hl kk) (fun hl kk => lv_aload_nN X.1.1 X.1.2.1 d_Mo_tick_41 rfl hl kk)) ?_
  refine mx_all_cons (ok_get (C := "HeaderScheduleModel") (T := T_Mo) (N := 40) X (mw_up in_Mo) rfl 26 (by decide) (hm _ w703) (fun _ h9 => h9) d_Mo_tick_42) ?_
  refine mx_all_cons (ok_ii (fun kk => lv_imul X.1.1 X.1.2.1 d_Mo_tick_45 kk)) ?_
  refine mx_all_cons (ok_aload (fun hl kk => lv_aload_n X.1.1 X.1.2.1 d_Mo_tick_46 rfl hl kk) (fun hl kk => lv_aload_nN X.1.1 X.1.2.1 d_Mo_tick_46 rfl hl kk)) ?_
  refine mx_all_cons (ok_get (C := "HeaderScheduleModel") (T := T_Mo) (N := 40) X (mw_up in_Mo) rfl 27 (by decide) (hm _ w704) (fun _ h9 => h9) d_Mo_tick_47) ?_
  refine mx_all_cons (ok_ii (fun kk => lv_iadd X.1.1 X.1.2.1 d_Mo_tick_50 kk)) ?_
  refine mx_all_cons (ok_istore (fun hl kk => lv_istore_n X.1.1 X.1.2.1 d_Mo_tick_51 rfl hl (by decide) rfl kk)) ?_
  refine mx_all_cons (ok_aload (fun hl kk => lv_aload_n X.1.1 X.1.2.1 d_Mo_tick_52 rfl hl kk) (fun hl kk => lv_aload_nN X.1.1 X.1.2.1 d_Mo_tick_52 rfl hl kk)) ?_
  refine mx_all_cons (ok_dup X d_Mo_tick_53) ?_
  refine mx_all_cons (ok_get (C := "HeaderScheduleModel") (T := T_Mo) (N := 40) X (mw_up in_Mo) rfl 27 (by decide) (hm _ w704) (fun _ h9 => h9) d_Mo_tick_54) ?_
  refine mx_all_cons (ok_push (fun kk => lv_iconst X.1.1 X.1.2.1 d_Mo_tick_57 (by decide) kk)) ?_
  refine mx_all_cons (ok_ii (fun kk => lv_iadd X.1.1 X.1.2.1 d_Mo_tick_58 kk)) ?_
  refine mx_all_cons (ok_put (C := "HeaderScheduleModel") (T := T_Mo) (N := 40) X (mw_up in_Mo) ty_Mo tyok_Mo nm_Mo rfl 27 (by decide) (hm _ w704) (fun _ h9 => h9) rfl (tyok_Mo 27 (by decide)) mx_vI_ok d_Mo_tick_59) ?_
  refine mx_all_cons (ok_aload (fun hl kk => lv_aload_n X.1.1 X.1.2.1 d_Mo_tick_62 rfl hl kk) (fun hl kk => lv_aload_nN X.1.1 X.1.2.1 d_Mo_tick_62 rfl hl kk)) ?_
  refine mx_all_cons (ok_aload (fun hl kk => lv_aload_n X.1.1 X.1.2.1 d_Mo_tick_63 rfl hl kk) (fun hl kk => lv_aload_nN X.1.1 X.1.2.1 d_Mo_tick_63 rfl hl kk)) ?_
  refine mx_all_cons (ok_get (C := "HeaderScheduleModel") (T := T_Mo) (N := 40) X (mw_up in_Mo) rfl 23 (by decide) (hm _ w700) (fun _ h9 => h9) d_Mo_tick_64) ?_
  refine mx_all_cons (ok_iload (fun hl kk => lv_iload_n X.1.1 X.1.2.1 d_Mo_tick_67 rfl hl kk)) ?_
  refine mx_all_cons (ok_iald X d_Mo_tick_68) ?_
  refine mx_all_cons (ok_push (fun kk => lv_iconst X.1.1 X.1.2.1 d_Mo_tick_69 (by decide) kk)) ?_
  refine mx_all_cons (ok_ii (fun kk => lv_isub X.1.1 X.1.2.1 d_Mo_tick_70 kk)) ?_
  refine mx_all_cons (ok_put (C := "HeaderScheduleModel") (T := T_Mo) (N := 40) X (mw_up in_Mo) ty_Mo tyok_Mo nm_Mo rfl 28 (by decide) (hm _ w705) (fun _ h9 => h9) rfl (tyok_Mo 28 (by decide)) mx_vI_ok d_Mo_tick_71) ?_
  refine mx_all_cons (ok_aload (fun hl kk => lv_aload_n X.1.1 X.1.2.1 d_Mo_tick_74 rfl hl kk) (fun hl kk => lv_aload_nN X.1.1 X.1.2.1 d_Mo_tick_74 rfl hl kk)) ?_
  refine mx_all_cons (ok_push (fun kk => lv_iconst X.1.1 X.1.2.1 d_Mo_tick_75 (by decide) kk)) ?_
  refine mx_all_cons (ok_put (C := "HeaderScheduleModel") (T := T_Mo) (N := 40) X (mw_up in_Mo) ty_Mo tyok_Mo nm_Mo rfl 33 (by decide) (hm _ w710) (fun _ h9 => h9) rfl (tyok_Mo 33 (by decide)) mx_vI_ok d_Mo_tick_76) ?_
  refine mx_all_cons (ok_aload (fun hl kk => lv_aload_n X.1.1 X.1.2.1 d_Mo_tick_79 rfl hl kk) (fun hl kk => lv_aload_nN X.1.1 X.1.2.1 d_Mo_tick_79 rfl hl kk)) ?_
  refine mx_all_cons (ok_push (fun kk => lv_iconst X.1.1 X.1.2.1 d_Mo_tick_80 (by decide) kk)) ?_
  refine mx_all_cons (ok_put (C := "HeaderScheduleModel") (T := T_Mo) (N := 40) X (mw_up in_Mo) ty_Mo tyok_Mo nm_Mo rfl 34 (by decide) (hm _ w711) (fun _ h9 => h9) rfl (tyok_Mo 34 (by decide)) mx_vI_ok d_Mo_tick_81) ?_
  refine mx_all_cons (ok_aload (fun hl kk => lv_aload_n X.1.1 X.1.2.1 d_Mo_tick_84 rfl hl kk) (fun hl kk => lv_aload_nN X.1.1 X.1.2.1 d_Mo_tick_84 rfl hl kk)) ?_
  refine mx_all_cons (ok_get (C := "HeaderScheduleModel") (T := T_Mo) (N := 40) X (mw_up in_Mo) rfl 21 (by decide) (hm _ w698) (fun _ h9 => h9) d_Mo_tick_85) ?_
  refine mx_all_cons (ok_iload (fun hl kk => lv_iload_n X.1.1 X.1.2.1 d_Mo_tick_88 rfl hl kk)) ?_
  refine mx_all_cons (ok_iald X d_Mo_tick_89) ?_
  refine mx_all_cons (ok_if (fun kt kf => lv_if_ne X.1.1 X.1.2.1 d_Mo_tick_90 (by decide) kt (fun z => kf (fun g => g z)))) ?_
  refine mx_all_cons (ok_aload (fun hl kk => lv_aload_n X.1.1 X.1.2.1 d_Mo_tick_93 rfl hl kk) (fun hl kk => lv_aload_nN X.1.1 X.1.2.1 d_Mo_tick_93 rfl hl kk)) ?_
  refine mx_all_cons (ok_aload (fun hl kk => lv_aload_n X.1.1 X.1.2.1 d_Mo_tick_94 rfl hl kk) (fun hl kk => lv_aload_nN X.1.1 X.1.2.1 d_Mo_tick_94 rfl hl kk)) ?_
  refine mx_all_cons (ok_get (C := "HeaderScheduleModel") (T := T_Mo) (N := 40) X (mw_up in_Mo) rfl 22 (by decide) (hm _ w699) (fun _ h9 => h9) d_Mo_tick_95) ?_
  refine mx_all_cons (ok_iload (fun hl kk => lv_iload_n X.1.1 X.1.2.1 d_Mo_tick_98 rfl hl kk)) ?_
  refine mx_all_cons (ok_iald X d_Mo_tick_99) ?_
  refine mx_all_cons (ok_callV (C := "HeaderScheduleModel") (T := T_Mo) (N := 40) X (mx_Zok_Z zz) hz ⟨(Nat.le_of_ble_eq_true rfl), (Nat.le_of_ble_eq_true rfl)⟩ (m_Mo_own l zz) ⟨mx_cwB 1 hm w888 w885 w40 rfl rfl (by decide +kernel) ⟨(Nat.le_of_ble_eq_true rfl), (Nat.le_of_ble_eq_true rfl)⟩, (hm _ w887), hm _ w24⟩ rfl d_Mo_tick_100) ?_
  refine mx_all_cons (ok_goto X d_Mo_tick_103 (by decide)) ?_
  refine mx_all_cons (ok_aload (fun hl kk => lv_aload_n X.1.1 X.1.2.1 d_Mo_tick_106 rfl hl kk) (fun hl kk => lv_aload_nN X.1.1 X.1.2.1 d_Mo_tick_106 rfl hl kk)) ?_
  refine mx_all_cons (ok_get (C := "HeaderScheduleModel") (T := T_Mo) (N := 40) X (mw_up in_Mo) rfl 21 (by decide) (hm _ w698) (fun _ h9 => h9) d_Mo_tick_107) ?_
  refine mx_all_cons (ok_iload (fun hl kk => lv_iload_n X.1.1 X.1.2.1 d_Mo_tick_110 rfl hl kk)) ?_
  refine mx_all_cons (ok_iald X d_Mo_tick_111) ?_
  refine mx_all_cons (ok_push (fun kk => lv_iconst X.1.1 X.1.2.1 d_Mo_tick_112 (by decide) kk)) ?_
  refine mx_all_cons (ok_icmp (fun kt kf => lv_icmp_ne X.1.1 X.1.2.1 d_Mo_tick_113 (by decide) kt (fun z => kf (fun g => g z)))) ?_
  refine mx_all_cons (ok_aload (fun hl kk => lv_aload_n X.1.1 X.1.2.1 d_Mo_tick_116 rfl hl kk) (fun hl kk => lv_aload_nN X.1.1 X.1.2.1 d_Mo_tick_116 rfl hl kk)) ?_
  refine mx_all_cons (ok_aload (fun hl kk => lv_aload_n X.1.1 X.1.2.1 d_Mo_tick_117 rfl hl kk) (fun hl kk => lv_aload_nN X.1.1 X.1.2.1 d_Mo_tick_117 rfl hl kk)) ?_
  refine mx_all_cons (ok_get (C := "HeaderScheduleModel") (T := T_Mo) (N := 40) X (mw_up in_Mo) rfl 22 (by decide) (hm _ w699) (fun _ h9 => h9) d_Mo_tick_118) ?_
  refine mx_all_cons (ok_iload (fun hl kk => lv_iload_n X.1.1 X.1.2.1 d_Mo_tick_121 rfl hl kk)) ?_
  refine mx_all_cons (ok_iald X d_Mo_tick_122) ?_
  refine mx_all_cons (ok_callV (C := "HeaderScheduleModel") (T := T_Mo) (N := 40) X (mx_Zok_Z zz) hz ⟨(Nat.le_of_ble_eq_true rfl), (Nat.le_of_ble_eq_true rfl)⟩ (m_Mo_sporadicSlot l zz) ⟨mx_cwB 1 hm w921 w918 w40 rfl rfl (by decide +kernel) ⟨(Nat.le_of_ble_eq_true rfl), (Nat.le_of_ble_eq_true rfl)⟩, (hm _ w920), hm _ w30⟩ rfl d_Mo_tick_123) ?_
  refine mx_all_cons (ok_goto X d_Mo_tick_126 (by decide)) ?_
  refine mx_all_cons (ok_aload (fun hl kk => lv_aload_n X.1.1 X.1.2.1 d_Mo_tick_129 rfl hl kk) (fun hl kk => lv_aload_nN X.1.1 X.1.2.1 d_Mo_tick_129 rfl hl kk)) ?_
  refine mx_all_cons (ok_aload (fun hl kk => lv_aload_n X.1.1 X.1.2.1 d_Mo_tick_130 rfl hl kk) (fun hl kk => lv_aload_nN X.1.1 X.1.2.1 d_Mo_tick_130 rfl hl kk)) ?_
  refine mx_all_cons (ok_get (C := "HeaderScheduleModel") (T := T_Mo) (N := 40) X (mw_up in_Mo) rfl 22 (by decide) (hm _ w699) (fun _ h9 => h9) d_Mo_tick_131) ?_
  refine mx_all_cons (ok_iload (fun hl kk => lv_iload_n X.1.1 X.1.2.1 d_Mo_tick_134 rfl hl kk)) ?_
  refine mx_all_cons (ok_iald X d_Mo_tick_135) ?_
  refine mx_all_cons (ok_callV (C := "HeaderScheduleModel") (T := T_Mo) (N := 40) X (mx_Zok_Z zz) hz ⟨(Nat.le_of_ble_eq_true rfl), (Nat.le_of_ble_eq_true rfl)⟩ (m_Mo_eventSlot l zz) ⟨mx_cwB 1 hm w925 w922 w40 rfl rfl (by decide +kernel) ⟨(Nat.le_of_ble_eq_true rfl), (Nat.le_of_ble_eq_true rfl)⟩, (hm _ w924), hm _ w31⟩ rfl d_Mo_tick_136) ?_
  refine mx_all_cons (ok_istore (fun hl kk => lv_istore_n X.1.1 X.1.2.1 d_Mo_tick_139 rfl hl (by decide) rfl kk)) ?_
  refine mx_all_cons (ok_aload (fun hl kk => lv_aload_n X.1.1 X.1.2.1 d_Mo_tick_140 rfl hl kk) (fun hl kk => lv_aload_nN X.1.1 X.1.2.1 d_Mo_tick_140 rfl hl kk)) ?_
  refine mx_all_cons (ok_get (C := "HeaderScheduleModel") (T := T_Mo) (N := 40) X (mw_up in_Mo) rfl 39 (by decide) (hm _ w716) (fun _ h9 => h9) d_Mo_tick_141) ?_
  refine mx_all_cons (ok_iload (fun hl kk => lv_iload_n X.1.1 X.1.2.1 d_Mo_tick_144 rfl hl kk)) ?_
  refine mx_all_cons (ok_aload (fun hl kk => lv_aload_n X.1.1 X.1.2.1 d_Mo_tick_145 rfl hl kk) (fun hl kk => lv_aload_nN X.1.1 X.1.2.1 d_Mo_tick_145 rfl hl kk)) ?_
  refine mx_all_cons (ok_get (C := "HeaderScheduleModel") (T := T_Mo) (N := 40) X (mw_up in_Mo) rfl 39 (by decide) (hm _ w716) (fun _ h9 => h9) d_Mo_tick_146) ?_
  refine mx_all_cons (ok_iload (fun hl kk => lv_iload_n X.1.1 X.1.2.1 d_Mo_tick_149 rfl hl kk)) ?_
  refine mx_all_cons (ok_iald X d_Mo_tick_150) ?_
  refine mx_all_cons (ok_push (fun kk => lv_iconst X.1.1 X.1.2.1 d_Mo_tick_151 (by decide) kk)) ?_
  refine mx_all_cons (ok_ii (fun kk => lv_iadd X.1.1 X.1.2.1 d_Mo_tick_152 kk)) ?_
  refine mx_all_cons (ok_iast X d_Mo_tick_153) ?_
  refine mx_all_cons (ok_iload (fun hl kk => lv_iload_n X.1.1 X.1.2.1 d_Mo_tick_154 rfl hl kk)) ?_
  refine mx_all_cons (ok_iret X hr hlk d_Mo_tick_155) ?_
  exact mx_all_nil
theorem st_Mo_tick_0 (zz : Nat × Nat) (r : mx_T) (ls : mx_L) (st : List Value) (h : mx_H) (c n : Nat) : mx_G r (t_Mo_tick zz) 0 ls st h c n = (o_aload 1 0) r (mx_G r (t_Mo_tick zz)) 0 ls st h c n := mx_G_eq (tm_Mo_tick zz) r 0 ls st h c n
theorem st_Mo_tick_1 (zz : Nat × Nat) (r : mx_T) (ls : mx_L) (st : List Value) (h : mx_H) (c n : Nat) : mx_G r (t_Mo_tick zz) 1 ls st h c n = (o_get 10 24) r (mx_G r (t_Mo_tick zz)) 1 ls st h c n := mx_G_eq (tm_Mo_tick zz) r 1 ls st h c n
theorem st_Mo_tick_4 (zz : Nat × Nat) (r : mx_T) (ls : mx_L) (st : List Value) (h : mx_H) (c n : Nat) : mx_G r (t_Mo_tick zz) 4 ls st h c n = (o_if 14 (fun x => x = 0)) r (mx_G r (t_Mo_tick zz)) 4 ls st h c n := mx_G_eq (tm_Mo_tick zz) r 4 ls st h c n
theorem st_Mo_tick_7 (zz : Nat × Nat) (r : mx_T) (ls : mx_L) (st : List Value) (h : mx_H) (c n : Nat) : mx_G r (t_Mo_tick zz) 7 ls st h c n = (o_aload 1 0) r (mx_G r (t_Mo_tick zz)) 7 ls st h c n := mx_G_eq (tm_Mo_tick zz) r 7 ls st h c n
theorem st_Mo_tick_8 (zz : Nat × Nat) (r : mx_T) (ls : mx_L) (st : List Value) (h : mx_H) (c n : Nat) : mx_G r (t_Mo_tick zz) 8 ls st h c n = (o_get 10 25) r (mx_G r (t_Mo_tick zz)) 8 ls st h c n := mx_G_eq (tm_Mo_tick zz) r 8 ls st h c n
theorem st_Mo_tick_11 (zz : Nat × Nat) (r : mx_T) (ls : mx_L) (st : List Value) (h : mx_H) (c n : Nat) : mx_G r (t_Mo_tick zz) 11 ls st h c n = (o_if 16 (fun x => x = 0)) r (mx_G r (t_Mo_tick zz)) 11 ls st h c n := mx_G_eq (tm_Mo_tick zz) r 11 ls st h c n
theorem st_Mo_tick_14 (zz : Nat × Nat) (r : mx_T) (ls : mx_L) (st : List Value) (h : mx_H) (c n : Nat) : mx_G r (t_Mo_tick zz) 14 ls st h c n = (o_push 1 (.int (-1))) r (mx_G r (t_Mo_tick zz)) 14 ls st h c n := mx_G_eq (tm_Mo_tick zz) r 14 ls st h c n
theorem st_Mo_tick_15 (zz : Nat × Nat) (r : mx_T) (ls : mx_L) (st : List Value) (h : mx_H) (c n : Nat) : mx_G r (t_Mo_tick zz) 15 ls st h c n = (o_iret) r (mx_G r (t_Mo_tick zz)) 15 ls st h c n := mx_G_eq (tm_Mo_tick zz) r 15 ls st h c n
theorem st_Mo_tick_16 (zz : Nat × Nat) (r : mx_T) (ls : mx_L) (st : List Value) (h : mx_H) (c n : Nat) : mx_G r (t_Mo_tick zz) 16 ls st h c n = (o_aload 1 0) r (mx_G r (t_Mo_tick zz)) 16 ls st h c n := mx_G_eq (tm_Mo_tick zz) r 16 ls st h c n
theorem st_Mo_tick_17 (zz : Nat × Nat) (r : mx_T) (ls : mx_L) (st : List Value) (h : mx_H) (c n : Nat) : mx_G r (t_Mo_tick zz) 17 ls st h c n = (o_get 10 28) r (mx_G r (t_Mo_tick zz)) 17 ls st h c n := mx_G_eq (tm_Mo_tick zz) r 17 ls st h c n
theorem st_Mo_tick_20 (zz : Nat × Nat) (r : mx_T) (ls : mx_L) (st : List Value) (h : mx_H) (c n : Nat) : mx_G r (t_Mo_tick zz) 20 ls st h c n = (o_if 35 (fun x => x ≤ 0)) r (mx_G r (t_Mo_tick zz)) 20 ls st h c n := mx_G_eq (tm_Mo_tick zz) r 20 ls st h c n
theorem st_Mo_tick_23 (zz : Nat × Nat) (r : mx_T) (ls : mx_L) (st : List Value) (h : mx_H) (c n : Nat) : mx_G r (t_Mo_tick zz) 23 ls st h c n = (o_aload 1 0) r (mx_G r (t_Mo_tick zz)) 23 ls st h c n := mx_G_eq (tm_Mo_tick zz) r 23 ls st h c n
theorem st_Mo_tick_24 (zz : Nat × Nat) (r : mx_T) (ls : mx_L) (st : List Value) (h : mx_H) (c n : Nat) : mx_G r (t_Mo_tick zz) 24 ls st h c n = (o_dup) r (mx_G r (t_Mo_tick zz)) 24 ls st h c n := mx_G_eq (tm_Mo_tick zz) r 24 ls st h c n
theorem st_Mo_tick_25 (zz : Nat × Nat) (r : mx_T) (ls : mx_L) (st : List Value) (h : mx_H) (c n : Nat) : mx_G r (t_Mo_tick zz) 25 ls st h c n = (o_get 10 28) r (mx_G r (t_Mo_tick zz)) 25 ls st h c n := mx_G_eq (tm_Mo_tick zz) r 25 ls st h c n
theorem st_Mo_tick_28 (zz : Nat × Nat) (r : mx_T) (ls : mx_L) (st : List Value) (h : mx_H) (c n : Nat) : mx_G r (t_Mo_tick zz) 28 ls st h c n = (o_push 1 (.int 1)) r (mx_G r (t_Mo_tick zz)) 28 ls st h c n := mx_G_eq (tm_Mo_tick zz) r 28 ls st h c n
theorem st_Mo_tick_29 (zz : Nat × Nat) (r : mx_T) (ls : mx_L) (st : List Value) (h : mx_H) (c n : Nat) : mx_G r (t_Mo_tick zz) 29 ls st h c n = (o_ii (fun x y => x - y)) r (mx_G r (t_Mo_tick zz)) 29 ls st h c n := mx_G_eq (tm_Mo_tick zz) r 29 ls st h c n
theorem st_Mo_tick_30 (zz : Nat × Nat) (r : mx_T) (ls : mx_L) (st : List Value) (h : mx_H) (c n : Nat) : mx_G r (t_Mo_tick zz) 30 ls st h c n = (o_put 10 28 mx_vI) r (mx_G r (t_Mo_tick zz)) 30 ls st h c n := mx_G_eq (tm_Mo_tick zz) r 30 ls st h c n
theorem st_Mo_tick_33 (zz : Nat × Nat) (r : mx_T) (ls : mx_L) (st : List Value) (h : mx_H) (c n : Nat) : mx_G r (t_Mo_tick zz) 33 ls st h c n = (o_push 1 (.int 0)) r (mx_G r (t_Mo_tick zz)) 33 ls st h c n := mx_G_eq (tm_Mo_tick zz) r 33 ls st h c n
theorem st_Mo_tick_34 (zz : Nat × Nat) (r : mx_T) (ls : mx_L) (st : List Value) (h : mx_H) (c n : Nat) : mx_G r (t_Mo_tick zz) 34 ls st h c n = (o_iret) r (mx_G r (t_Mo_tick zz)) 34 ls st h c n := mx_G_eq (tm_Mo_tick zz) r 34 ls st h c n
theorem st_Mo_tick_35 (zz : Nat × Nat) (r : mx_T) (ls : mx_L) (st : List Value) (h : mx_H) (c n : Nat) : mx_G r (t_Mo_tick zz) 35 ls st h c n = (o_aload 1 0) r (mx_G r (t_Mo_tick zz)) 35 ls st h c n := mx_G_eq (tm_Mo_tick zz) r 35 ls st h c n
theorem st_Mo_tick_36 (zz : Nat × Nat) (r : mx_T) (ls : mx_L) (st : List Value) (h : mx_H) (c n : Nat) : mx_G r (t_Mo_tick zz) 36 ls st h c n = (o_call 0 0 1 0 0 (mx_rv 10) (S_Mo_turnOver zz)) r (mx_G r (t_Mo_tick zz)) 36 ls st h c n := mx_G_eq (tm_Mo_tick zz) r 36 ls st h c n
theorem st_Mo_tick_39 (zz : Nat × Nat) (r : mx_T) (ls : mx_L) (st : List Value) (h : mx_H) (c n : Nat) : mx_G r (t_Mo_tick zz) 39 ls st h c n = (o_push 2 (.int 8)) r (mx_G r (t_Mo_tick zz)) 39 ls st h c n := mx_G_eq (tm_Mo_tick zz) r 39 ls st h c n
theorem st_Mo_tick_41 (zz : Nat × Nat) (r : mx_T) (ls : mx_L) (st : List Value) (h : mx_H) (c n : Nat) : mx_G r (t_Mo_tick zz) 41 ls st h c n = (o_aload 1 0) r (mx_G r (t_Mo_tick zz)) 41 ls st h c n := mx_G_eq (tm_Mo_tick zz) r 41 ls st h c n
theorem st_Mo_tick_42 (zz : Nat × Nat) (r : mx_T) (ls : mx_L) (st : List Value) (h : mx_H) (c n : Nat) : mx_G r (t_Mo_tick zz) 42 ls st h c n = (o_get 10 26) r (mx_G r (t_Mo_tick zz)) 42 ls st h c n := mx_G_eq (tm_Mo_tick zz) r 42 ls st h c n
theorem st_Mo_tick_45 (zz : Nat × Nat) (r : mx_T) (ls : mx_L) (st : List Value) (h : mx_H) (c n : Nat) : mx_G r (t_Mo_tick zz) 45 ls st h c n = (o_ii (fun x y => x * y)) r (mx_G r (t_Mo_tick zz)) 45 ls st h c n := mx_G_eq (tm_Mo_tick zz) r 45 ls st h c n
theorem st_Mo_tick_46 (zz : Nat × Nat) (r : mx_T) (ls : mx_L) (st : List Value) (h : mx_H) (c n : Nat) : mx_G r (t_Mo_tick zz) 46 ls st h c n = (o_aload 1 0) r (mx_G r (t_Mo_tick zz)) 46 ls st h c n := mx_G_eq (tm_Mo_tick zz) r 46 ls st h c n
theorem st_Mo_tick_47 (zz : Nat × Nat) (r : mx_T) (ls : mx_L) (st : List Value) (h : mx_H) (c n : Nat) : mx_G r (t_Mo_tick zz) 47 ls st h c n = (o_get 10 27) r (mx_G r (t_Mo_tick zz)) 47 ls st h c n := mx_G_eq (tm_Mo_tick zz) r 47 ls st h c n
theorem st_Mo_tick_50 (zz : Nat × Nat) (r : mx_T) (ls : mx_L) (st : List Value) (h : mx_H) (c n : Nat) : mx_G r (t_Mo_tick zz) 50 ls st h c n = (o_ii (fun x y => x + y)) r (mx_G r (t_Mo_tick zz)) 50 ls st h c n := mx_G_eq (tm_Mo_tick zz) r 50 ls st h c n
theorem st_Mo_tick_51 (zz : Nat × Nat) (r : mx_T) (ls : mx_L) (st : List Value) (h : mx_H) (c n : Nat) : mx_G r (t_Mo_tick zz) 51 ls st h c n = (o_istore 1 1) r (mx_G r (t_Mo_tick zz)) 51 ls st h c n := mx_G_eq (tm_Mo_tick zz) r 51 ls st h c n
theorem st_Mo_tick_52 (zz : Nat × Nat) (r : mx_T) (ls : mx_L) (st : List Value) (h : mx_H) (c n : Nat) : mx_G r (t_Mo_tick zz) 52 ls st h c n = (o_aload 1 0) r (mx_G r (t_Mo_tick zz)) 52 ls st h c n := mx_G_eq (tm_Mo_tick zz) r 52 ls st h c n
theorem st_Mo_tick_53 (zz : Nat × Nat) (r : mx_T) (ls : mx_L) (st : List Value) (h : mx_H) (c n : Nat) : mx_G r (t_Mo_tick zz) 53 ls st h c n = (o_dup) r (mx_G r (t_Mo_tick zz)) 53 ls st h c n := mx_G_eq (tm_Mo_tick zz) r 53 ls st h c n
theorem st_Mo_tick_54 (zz : Nat × Nat) (r : mx_T) (ls : mx_L) (st : List Value) (h : mx_H) (c n : Nat) : mx_G r (t_Mo_tick zz) 54 ls st h c n = (o_get 10 27) r (mx_G r (t_Mo_tick zz)) 54 ls st h c n := mx_G_eq (tm_Mo_tick zz) r 54 ls st h c n
theorem st_Mo_tick_57 (zz : Nat × Nat) (r : mx_T) (ls : mx_L) (st : List Value) (h : mx_H) (c n : Nat) : mx_G r (t_Mo_tick zz) 57 ls st h c n = (o_push 1 (.int 1)) r (mx_G r (t_Mo_tick zz)) 57 ls st h c n := mx_G_eq (tm_Mo_tick zz) r 57 ls st h c n
theorem st_Mo_tick_58 (zz : Nat × Nat) (r : mx_T) (ls : mx_L) (st : List Value) (h : mx_H) (c n : Nat) : mx_G r (t_Mo_tick zz) 58 ls st h c n = (o_ii (fun x y => x + y)) r (mx_G r (t_Mo_tick zz)) 58 ls st h c n := mx_G_eq (tm_Mo_tick zz) r 58 ls st h c n
theorem st_Mo_tick_59 (zz : Nat × Nat) (r : mx_T) (ls : mx_L) (st : List Value) (h : mx_H) (c n : Nat) : mx_G r (t_Mo_tick zz) 59 ls st h c n = (o_put 10 27 mx_vI) r (mx_G r (t_Mo_tick zz)) 59 ls st h c n := mx_G_eq (tm_Mo_tick zz) r 59 ls st h c n
theorem st_Mo_tick_62 (zz : Nat × Nat) (r : mx_T) (ls : mx_L) (st : List Value) (h : mx_H) (c n : Nat) : mx_G r (t_Mo_tick zz) 62 ls st h c n = (o_aload 1 0) r (mx_G r (t_Mo_tick zz)) 62 ls st h c n := mx_G_eq (tm_Mo_tick zz) r 62 ls st h c n
theorem st_Mo_tick_63 (zz : Nat × Nat) (r : mx_T) (ls : mx_L) (st : List Value) (h : mx_H) (c n : Nat) : mx_G r (t_Mo_tick zz) 63 ls st h c n = (o_aload 1 0) r (mx_G r (t_Mo_tick zz)) 63 ls st h c n := mx_G_eq (tm_Mo_tick zz) r 63 ls st h c n
theorem st_Mo_tick_64 (zz : Nat × Nat) (r : mx_T) (ls : mx_L) (st : List Value) (h : mx_H) (c n : Nat) : mx_G r (t_Mo_tick zz) 64 ls st h c n = (o_get 10 23) r (mx_G r (t_Mo_tick zz)) 64 ls st h c n := mx_G_eq (tm_Mo_tick zz) r 64 ls st h c n
theorem st_Mo_tick_67 (zz : Nat × Nat) (r : mx_T) (ls : mx_L) (st : List Value) (h : mx_H) (c n : Nat) : mx_G r (t_Mo_tick zz) 67 ls st h c n = (o_iload 1 1) r (mx_G r (t_Mo_tick zz)) 67 ls st h c n := mx_G_eq (tm_Mo_tick zz) r 67 ls st h c n
theorem st_Mo_tick_68 (zz : Nat × Nat) (r : mx_T) (ls : mx_L) (st : List Value) (h : mx_H) (c n : Nat) : mx_G r (t_Mo_tick zz) 68 ls st h c n = (o_iald .int) r (mx_G r (t_Mo_tick zz)) 68 ls st h c n := mx_G_eq (tm_Mo_tick zz) r 68 ls st h c n
theorem st_Mo_tick_69 (zz : Nat × Nat) (r : mx_T) (ls : mx_L) (st : List Value) (h : mx_H) (c n : Nat) : mx_G r (t_Mo_tick zz) 69 ls st h c n = (o_push 1 (.int 1)) r (mx_G r (t_Mo_tick zz)) 69 ls st h c n := mx_G_eq (tm_Mo_tick zz) r 69 ls st h c n
theorem st_Mo_tick_70 (zz : Nat × Nat) (r : mx_T) (ls : mx_L) (st : List Value) (h : mx_H) (c n : Nat) : mx_G r (t_Mo_tick zz) 70 ls st h c n = (o_ii (fun x y => x - y)) r (mx_G r (t_Mo_tick zz)) 70 ls st h c n := mx_G_eq (tm_Mo_tick zz) r 70 ls st h c n
theorem st_Mo_tick_71 (zz : Nat × Nat) (r : mx_T) (ls : mx_L) (st : List Value) (h : mx_H) (c n : Nat) : mx_G r (t_Mo_tick zz) 71 ls st h c n = (o_put 10 28 mx_vI) r (mx_G r (t_Mo_tick zz)) 71 ls st h c n := mx_G_eq (tm_Mo_tick zz) r 71 ls st h c n
theorem st_Mo_tick_74 (zz : Nat × Nat) (r : mx_T) (ls : mx_L) (st : List Value) (h : mx_H) (c n : Nat) : mx_G r (t_Mo_tick zz) 74 ls st h c n = (o_aload 1 0) r (mx_G r (t_Mo_tick zz)) 74 ls st h c n := mx_G_eq (tm_Mo_tick zz) r 74 ls st h c n
theorem st_Mo_tick_75 (zz : Nat × Nat) (r : mx_T) (ls : mx_L) (st : List Value) (h : mx_H) (c n : Nat) : mx_G r (t_Mo_tick zz) 75 ls st h c n = (o_push 1 (.int 0)) r (mx_G r (t_Mo_tick zz)) 75 ls st h c n := mx_G_eq (tm_Mo_tick zz) r 75 ls st h c n
theorem st_Mo_tick_76 (zz : Nat × Nat) (r : mx_T) (ls : mx_L) (st : List Value) (h : mx_H) (c n : Nat) : mx_G r (t_Mo_tick zz) 76 ls st h c n = (o_put 10 33 mx_vI) r (mx_G r (t_Mo_tick zz)) 76 ls st h c n := mx_G_eq (tm_Mo_tick zz) r 76 ls st h c n
theorem st_Mo_tick_79 (zz : Nat × Nat) (r : mx_T) (ls : mx_L) (st : List Value) (h : mx_H) (c n : Nat) : mx_G r (t_Mo_tick zz) 79 ls st h c n = (o_aload 1 0) r (mx_G r (t_Mo_tick zz)) 79 ls st h c n := mx_G_eq (tm_Mo_tick zz) r 79 ls st h c n
theorem st_Mo_tick_80 (zz : Nat × Nat) (r : mx_T) (ls : mx_L) (st : List Value) (h : mx_H) (c n : Nat) : mx_G r (t_Mo_tick zz) 80 ls st h c n = (o_push 1 (.int 0)) r (mx_G r (t_Mo_tick zz)) 80 ls st h c n := mx_G_eq (tm_Mo_tick zz) r 80 ls st h c n
theorem st_Mo_tick_81 (zz : Nat × Nat) (r : mx_T) (ls : mx_L) (st : List Value) (h : mx_H) (c n : Nat) : mx_G r (t_Mo_tick zz) 81 ls st h c n = (o_put 10 34 mx_vI) r (mx_G r (t_Mo_tick zz)) 81 ls st h c n := mx_G_eq (tm_Mo_tick zz) r 81 ls st h c n
theorem st_Mo_tick_84 (zz : Nat × Nat) (r : mx_T) (ls : mx_L) (st : List Value) (h : mx_H) (c n : Nat) : mx_G r (t_Mo_tick zz) 84 ls st h c n = (o_aload 1 0) r (mx_G r (t_Mo_tick zz)) 84 ls st h c n := mx_G_eq (tm_Mo_tick zz) r 84 ls st h c n
theorem st_Mo_tick_85 (zz : Nat × Nat) (r : mx_T) (ls : mx_L) (st : List Value) (h : mx_H) (c n : Nat) : mx_G r (t_Mo_tick zz) 85 ls st h c n = (o_get 10 21) r (mx_G r (t_Mo_tick zz)) 85 ls st h c n := mx_G_eq (tm_Mo_tick zz) r 85 ls st h c n
theorem st_Mo_tick_88 (zz : Nat × Nat) (r : mx_T) (ls : mx_L) (st : List Value) (h : mx_H) (c n : Nat) : mx_G r (t_Mo_tick zz) 88 ls st h c n = (o_iload 1 1) r (mx_G r (t_Mo_tick zz)) 88 ls st h c n := mx_G_eq (tm_Mo_tick zz) r 88 ls st h c n
theorem st_Mo_tick_89 (zz : Nat × Nat) (r : mx_T) (ls : mx_L) (st : List Value) (h : mx_H) (c n : Nat) : mx_G r (t_Mo_tick zz) 89 ls st h c n = (o_iald .int) r (mx_G r (t_Mo_tick zz)) 89 ls st h c n := mx_G_eq (tm_Mo_tick zz) r 89 ls st h c n
theorem st_Mo_tick_90 (zz : Nat × Nat) (r : mx_T) (ls : mx_L) (st : List Value) (h : mx_H) (c n : Nat) : mx_G r (t_Mo_tick zz) 90 ls st h c n = (o_if 106 (fun x => ¬ x = 0)) r (mx_G r (t_Mo_tick zz)) 90 ls st h c n := mx_G_eq (tm_Mo_tick zz) r 90 ls st h c n
theorem st_Mo_tick_93 (zz : Nat × Nat) (r : mx_T) (ls : mx_L) (st : List Value) (h : mx_H) (c n : Nat) : mx_G r (t_Mo_tick zz) 93 ls st h c n = (o_aload 1 0) r (mx_G r (t_Mo_tick zz)) 93 ls st h c n := mx_G_eq (tm_Mo_tick zz) r 93 ls st h c n
theorem st_Mo_tick_94 (zz : Nat × Nat) (r : mx_T) (ls : mx_L) (st : List Value) (h : mx_H) (c n : Nat) : mx_G r (t_Mo_tick zz) 94 ls st h c n = (o_aload 1 0) r (mx_G r (t_Mo_tick zz)) 94 ls st h c n := mx_G_eq (tm_Mo_tick zz) r 94 ls st h c n
theorem st_Mo_tick_95 (zz : Nat × Nat) (r : mx_T) (ls : mx_L) (st : List Value) (h : mx_H) (c n : Nat) : mx_G r (t_Mo_tick zz) 95 ls st h c n = (o_get 10 22) r (mx_G r (t_Mo_tick zz)) 95 ls st h c n := mx_G_eq (tm_Mo_tick zz) r 95 ls st h c n
theorem st_Mo_tick_98 (zz : Nat × Nat) (r : mx_T) (ls : mx_L) (st : List Value) (h : mx_H) (c n : Nat) : mx_G r (t_Mo_tick zz) 98 ls st h c n = (o_iload 1 1) r (mx_G r (t_Mo_tick zz)) 98 ls st h c n := mx_G_eq (tm_Mo_tick zz) r 98 ls st h c n
theorem st_Mo_tick_99 (zz : Nat × Nat) (r : mx_T) (ls : mx_L) (st : List Value) (h : mx_H) (c n : Nat) : mx_G r (t_Mo_tick zz) 99 ls st h c n = (o_iald .int) r (mx_G r (t_Mo_tick zz)) 99 ls st h c n := mx_G_eq (tm_Mo_tick zz) r 99 ls st h c n
theorem st_Mo_tick_100 (zz : Nat × Nat) (r : mx_T) (ls : mx_L) (st : List Value) (h : mx_H) (c n : Nat) : mx_G r (t_Mo_tick zz) 100 ls st h c n = (o_call 0 0 2 0 0 (mx_rv 10) (S_Mo_own zz)) r (mx_G r (t_Mo_tick zz)) 100 ls st h c n := mx_G_eq (tm_Mo_tick zz) r 100 ls st h c n
theorem st_Mo_tick_103 (zz : Nat × Nat) (r : mx_T) (ls : mx_L) (st : List Value) (h : mx_H) (c n : Nat) : mx_G r (t_Mo_tick zz) 103 ls st h c n = (o_goto 139) r (mx_G r (t_Mo_tick zz)) 103 ls st h c n := mx_G_eq (tm_Mo_tick zz) r 103 ls st h c n
theorem st_Mo_tick_106 (zz : Nat × Nat) (r : mx_T) (ls : mx_L) (st : List Value) (h : mx_H) (c n : Nat) : mx_G r (t_Mo_tick zz) 106 ls st h c n = (o_aload 1 0) r (mx_G r (t_Mo_tick zz)) 106 ls st h c n := mx_G_eq (tm_Mo_tick zz) r 106 ls st h c n
theorem st_Mo_tick_107 (zz : Nat × Nat) (r : mx_T) (ls : mx_L) (st : List Value) (h : mx_H) (c n : Nat) : mx_G r (t_Mo_tick zz) 107 ls st h c n = (o_get 10 21) r (mx_G r (t_Mo_tick zz)) 107 ls st h c n := mx_G_eq (tm_Mo_tick zz) r 107 ls st h c n
theorem st_Mo_tick_110 (zz : Nat × Nat) (r : mx_T) (ls : mx_L) (st : List Value) (h : mx_H) (c n : Nat) : mx_G r (t_Mo_tick zz) 110 ls st h c n = (o_iload 1 1) r (mx_G r (t_Mo_tick zz)) 110 ls st h c n := mx_G_eq (tm_Mo_tick zz) r 110 ls st h c n
theorem st_Mo_tick_111 (zz : Nat × Nat) (r : mx_T) (ls : mx_L) (st : List Value) (h : mx_H) (c n : Nat) : mx_G r (t_Mo_tick zz) 111 ls st h c n = (o_iald .int) r (mx_G r (t_Mo_tick zz)) 111 ls st h c n := mx_G_eq (tm_Mo_tick zz) r 111 ls st h c n
theorem st_Mo_tick_112 (zz : Nat × Nat) (r : mx_T) (ls : mx_L) (st : List Value) (h : mx_H) (c n : Nat) : mx_G r (t_Mo_tick zz) 112 ls st h c n = (o_push 1 (.int 1)) r (mx_G r (t_Mo_tick zz)) 112 ls st h c n := mx_G_eq (tm_Mo_tick zz) r 112 ls st h c n
theorem st_Mo_tick_113 (zz : Nat × Nat) (r : mx_T) (ls : mx_L) (st : List Value) (h : mx_H) (c n : Nat) : mx_G r (t_Mo_tick zz) 113 ls st h c n = (o_icmp 129 (fun x y => ¬ x = y)) r (mx_G r (t_Mo_tick zz)) 113 ls st h c n := mx_G_eq (tm_Mo_tick zz) r 113 ls st h c n
theorem st_Mo_tick_116 (zz : Nat × Nat) (r : mx_T) (ls : mx_L) (st : List Value) (h : mx_H) (c n : Nat) : mx_G r (t_Mo_tick zz) 116 ls st h c n = (o_aload 1 0) r (mx_G r (t_Mo_tick zz)) 116 ls st h c n := mx_G_eq (tm_Mo_tick zz) r 116 ls st h c n
theorem st_Mo_tick_117 (zz : Nat × Nat) (r : mx_T) (ls : mx_L) (st : List Value) (h : mx_H) (c n : Nat) : mx_G r (t_Mo_tick zz) 117 ls st h c n = (o_aload 1 0) r (mx_G r (t_Mo_tick zz)) 117 ls st h c n := mx_G_eq (tm_Mo_tick zz) r 117 ls st h c n
theorem st_Mo_tick_118 (zz : Nat × Nat) (r : mx_T) (ls : mx_L) (st : List Value) (h : mx_H) (c n : Nat) : mx_G r (t_Mo_tick zz) 118 ls st h c n = (o_get 10 22) r (mx_G r (t_Mo_tick zz)) 118 ls st h c n := mx_G_eq (tm_Mo_tick zz) r 118 ls st h c n
theorem st_Mo_tick_121 (zz : Nat × Nat) (r : mx_T) (ls : mx_L) (st : List Value) (h : mx_H) (c n : Nat) : mx_G r (t_Mo_tick zz) 121 ls st h c n = (o_iload 1 1) r (mx_G r (t_Mo_tick zz)) 121 ls st h c n := mx_G_eq (tm_Mo_tick zz) r 121 ls st h c n
theorem st_Mo_tick_122 (zz : Nat × Nat) (r : mx_T) (ls : mx_L) (st : List Value) (h : mx_H) (c n : Nat) : mx_G r (t_Mo_tick zz) 122 ls st h c n = (o_iald .int) r (mx_G r (t_Mo_tick zz)) 122 ls st h c n := mx_G_eq (tm_Mo_tick zz) r 122 ls st h c n
theorem st_Mo_tick_123 (zz : Nat × Nat) (r : mx_T) (ls : mx_L) (st : List Value) (h : mx_H) (c n : Nat) : mx_G r (t_Mo_tick zz) 123 ls st h c n = (o_call 0 0 2 0 0 (mx_rv 10) (S_Mo_sporadicSlot zz)) r (mx_G r (t_Mo_tick zz)) 123 ls st h c n := mx_G_eq (tm_Mo_tick zz) r 123 ls st h c n
theorem st_Mo_tick_126 (zz : Nat × Nat) (r : mx_T) (ls : mx_L) (st : List Value) (h : mx_H) (c n : Nat) : mx_G r (t_Mo_tick zz) 126 ls st h c n = (o_goto 139) r (mx_G r (t_Mo_tick zz)) 126 ls st h c n := mx_G_eq (tm_Mo_tick zz) r 126 ls st h c n
theorem st_Mo_tick_129 (zz : Nat × Nat) (r : mx_T) (ls : mx_L) (st : List Value) (h : mx_H) (c n : Nat) : mx_G r (t_Mo_tick zz) 129 ls st h c n = (o_aload 1 0) r (mx_G r (t_Mo_tick zz)) 129 ls st h c n := mx_G_eq (tm_Mo_tick zz) r 129 ls st h c n
theorem st_Mo_tick_130 (zz : Nat × Nat) (r : mx_T) (ls : mx_L) (st : List Value) (h : mx_H) (c n : Nat) : mx_G r (t_Mo_tick zz) 130 ls st h c n = (o_aload 1 0) r (mx_G r (t_Mo_tick zz)) 130 ls st h c n := mx_G_eq (tm_Mo_tick zz) r 130 ls st h c n
theorem st_Mo_tick_131 (zz : Nat × Nat) (r : mx_T) (ls : mx_L) (st : List Value) (h : mx_H) (c n : Nat) : mx_G r (t_Mo_tick zz) 131 ls st h c n = (o_get 10 22) r (mx_G r (t_Mo_tick zz)) 131 ls st h c n := mx_G_eq (tm_Mo_tick zz) r 131 ls st h c n
theorem st_Mo_tick_134 (zz : Nat × Nat) (r : mx_T) (ls : mx_L) (st : List Value) (h : mx_H) (c n : Nat) : mx_G r (t_Mo_tick zz) 134 ls st h c n = (o_iload 1 1) r (mx_G r (t_Mo_tick zz)) 134 ls st h c n := mx_G_eq (tm_Mo_tick zz) r 134 ls st h c n
theorem st_Mo_tick_135 (zz : Nat × Nat) (r : mx_T) (ls : mx_L) (st : List Value) (h : mx_H) (c n : Nat) : mx_G r (t_Mo_tick zz) 135 ls st h c n = (o_iald .int) r (mx_G r (t_Mo_tick zz)) 135 ls st h c n := mx_G_eq (tm_Mo_tick zz) r 135 ls st h c n
theorem st_Mo_tick_136 (zz : Nat × Nat) (r : mx_T) (ls : mx_L) (st : List Value) (h : mx_H) (c n : Nat) : mx_G r (t_Mo_tick zz) 136 ls st h c n = (o_call 0 0 2 0 0 (mx_rv 10) (S_Mo_eventSlot zz)) r (mx_G r (t_Mo_tick zz)) 136 ls st h c n := mx_G_eq (tm_Mo_tick zz) r 136 ls st h c n
theorem st_Mo_tick_139 (zz : Nat × Nat) (r : mx_T) (ls : mx_L) (st : List Value) (h : mx_H) (c n : Nat) : mx_G r (t_Mo_tick zz) 139 ls st h c n = (o_istore 1 2) r (mx_G r (t_Mo_tick zz)) 139 ls st h c n := mx_G_eq (tm_Mo_tick zz) r 139 ls st h c n
theorem st_Mo_tick_140 (zz : Nat × Nat) (r : mx_T) (ls : mx_L) (st : List Value) (h : mx_H) (c n : Nat) : mx_G r (t_Mo_tick zz) 140 ls st h c n = (o_aload 1 0) r (mx_G r (t_Mo_tick zz)) 140 ls st h c n := mx_G_eq (tm_Mo_tick zz) r 140 ls st h c n
theorem st_Mo_tick_141 (zz : Nat × Nat) (r : mx_T) (ls : mx_L) (st : List Value) (h : mx_H) (c n : Nat) : mx_G r (t_Mo_tick zz) 141 ls st h c n = (o_get 10 39) r (mx_G r (t_Mo_tick zz)) 141 ls st h c n := mx_G_eq (tm_Mo_tick zz) r 141 ls st h c n
theorem st_Mo_tick_144 (zz : Nat × Nat) (r : mx_T) (ls : mx_L) (st : List Value) (h : mx_H) (c n : Nat) : mx_G r (t_Mo_tick zz) 144 ls st h c n = (o_iload 1 2) r (mx_G r (t_Mo_tick zz)) 144 ls st h c n := mx_G_eq (tm_Mo_tick zz) r 144 ls st h c n
theorem st_Mo_tick_145 (zz : Nat × Nat) (r : mx_T) (ls : mx_L) (st : List Value) (h : mx_H) (c n : Nat) : mx_G r (t_Mo_tick zz) 145 ls st h c n = (o_aload 1 0) r (mx_G r (t_Mo_tick zz)) 145 ls st h c n := mx_G_eq (tm_Mo_tick zz) r 145 ls st h c n
theorem st_Mo_tick_146 (zz : Nat × Nat) (r : mx_T) (ls : mx_L) (st : List Value) (h : mx_H) (c n : Nat) : mx_G r (t_Mo_tick zz) 146 ls st h c n = (o_get 10 39) r (mx_G r (t_Mo_tick zz)) 146 ls st h c n := mx_G_eq (tm_Mo_tick zz) r 146 ls st h c n
theorem st_Mo_tick_149 (zz : Nat × Nat) (r : mx_T) (ls : mx_L) (st : List Value) (h : mx_H) (c n : Nat) : mx_G r (t_Mo_tick zz) 149 ls st h c n = (o_iload 1 2) r (mx_G r (t_Mo_tick zz)) 149 ls st h c n := mx_G_eq (tm_Mo_tick zz) r 149 ls st h c n
theorem st_Mo_tick_150 (zz : Nat × Nat) (r : mx_T) (ls : mx_L) (st : List Value) (h : mx_H) (c n : Nat) : mx_G r (t_Mo_tick zz) 150 ls st h c n = (o_iald .int) r (mx_G r (t_Mo_tick zz)) 150 ls st h c n := mx_G_eq (tm_Mo_tick zz) r 150 ls st h c n
theorem st_Mo_tick_151 (zz : Nat × Nat) (r : mx_T) (ls : mx_L) (st : List Value) (h : mx_H) (c n : Nat) : mx_G r (t_Mo_tick zz) 151 ls st h c n = (o_push 1 (.int 1)) r (mx_G r (t_Mo_tick zz)) 151 ls st h c n := mx_G_eq (tm_Mo_tick zz) r 151 ls st h c n
theorem st_Mo_tick_152 (zz : Nat × Nat) (r : mx_T) (ls : mx_L) (st : List Value) (h : mx_H) (c n : Nat) : mx_G r (t_Mo_tick zz) 152 ls st h c n = (o_ii (fun x y => x + y)) r (mx_G r (t_Mo_tick zz)) 152 ls st h c n := mx_G_eq (tm_Mo_tick zz) r 152 ls st h c n
theorem st_Mo_tick_153 (zz : Nat × Nat) (r : mx_T) (ls : mx_L) (st : List Value) (h : mx_H) (c n : Nat) : mx_G r (t_Mo_tick zz) 153 ls st h c n = (o_iast .int (fun x => x)) r (mx_G r (t_Mo_tick zz)) 153 ls st h c n := mx_G_eq (tm_Mo_tick zz) r 153 ls st h c n
set_option maxRecDepth 20000 in
theorem st_Mo_tick_154 (zz : Nat × Nat) (r : mx_T) (ls : mx_L) (st : List Value) (h : mx_H) (c n : Nat) : mx_G r (t_Mo_tick zz) 154 ls st h c n = (o_iload 1 2) r (mx_G r (t_Mo_tick zz)) 154 ls st h c n := mx_G_eq (tm_Mo_tick zz) r 154 ls st h c n
set_option maxRecDepth 20000 in
theorem st_Mo_tick_155 (zz : Nat × Nat) (r : mx_T) (ls : mx_L) (st : List Value) (h : mx_H) (c n : Nat) : mx_G r (t_Mo_tick zz) 155 ls st h c n = (o_iret) r (mx_G r (t_Mo_tick zz)) 155 ls st h c n := mx_G_eq (tm_Mo_tick zz) r 155 ls st h c n
theorem d_Mo_bus_0 : decode c_Mo_bus 0 = .ok (.iload_n 1, 1) := by decide +kernel
theorem d_Mo_bus_1 : decode c_Mo_bus 1 = .ok (.iconst 0, 1) := by decide +kernel
theorem d_Mo_bus_2 : decode c_Mo_bus 2 = .ok (.aload_n 0, 1) := by decide +kernel
theorem d_Mo_bus_3 : decode c_Mo_bus 3 = .ok (.getfield 150, 3) := by decide +kernel
theorem d_Mo_bus_6 : decode c_Mo_bus 6 = .ok (.iconst 1, 1) := by decide +kernel
theorem d_Mo_bus_7 : decode c_Mo_bus 7 = .ok (.isub, 1) := by decide +kernel
theorem d_Mo_bus_8 : decode c_Mo_bus 8 = .ok (.invokestatic 91, 3) := by decide +kernel
theorem d_Mo_bus_11 : decode c_Mo_bus 11 = .ok (.ifCond .eq 12, 3) := by decide +kernel
theorem d_Mo_bus_14 : decode c_Mo_bus 14 = .ok (.aload_n 0, 1) := by decide +kernel
theorem d_Mo_bus_15 : decode c_Mo_bus 15 = .ok (.getfield 75, 3) := by decide +kernel
theorem d_Mo_bus_18 : decode c_Mo_bus 18 = .ok (.iload_n 1, 1) := by decide +kernel
theorem d_Mo_bus_19 : decode c_Mo_bus 19 = .ok (.iaload, 1) := by decide +kernel
theorem d_Mo_bus_20 : decode c_Mo_bus 20 = .ok (.goto 4, 3) := by decide +kernel
theorem d_Mo_bus_23 : decode c_Mo_bus 23 = .ok (.iconst (-1), 1) := by decide +kernel
theorem d_Mo_bus_24 : decode c_Mo_bus 24 = .ok (.ireturn, 1) := by decide +kernel
def t_Mo_bus (zz : Nat × Nat) : List (Nat × mx_O) := [(0, o_iload 1 1),
  (1, o_push 1 (.int 0)),
  (2, o_aload 1 0),
  (3, o_get 10 34),
  (6, o_push 1 (.int 1)),
  (7, o_ii (fun x y => x - y)),
  (8, o_call 0 0 3 0 0 (fun _ _ => True) (S_Mo_within zz)),
  (11, o_if 23 (fun x => x = 0)),
  (14, o_aload 1 0),
  (15, o_get 10 35),
  (18, o_iload 1 1),
  (19, o_iald .int),
  (20, o_goto 24),
  (23, o_push 1 (.int (-1))),
  (24, o_iret)]
set_option maxRecDepth 100000 in
theorem tm_Mo_bus (zz : Nat × Nat) : mx_All (fun _ o => mx_Mono o) (t_Mo_bus zz) := by
  refine mx_all_cons (mo_st) ?_
  refine mx_all_cons (mo_st) ?_
  refine mx_all_cons (mo_st) ?_
  refine mx_all_cons (mo_st) ?_
  refine mx_all_cons (mo_st) ?_
  refine mx_all_cons (mo_st) ?_
  refine mx_all_cons (mo_call (sm_Mo_within zz)) ?_
  refine mx_all_cons (mo_br) ?_
  refine mx_all_cons (mo_st) ?_
  refine mx_all_cons (mo_st) ?_
  refine mx_all_cons (mo_st) ?_
  refine mx_all_cons (mo_sc) ?_
  refine mx_all_cons (mo_st) ?_
  refine mx_all_cons (mo_st) ?_
  refine mx_all_cons (mo_ret) ?_
  exact mx_all_nil
def S_Mo_bus (zz : Nat × Nat) : mx_Sp := mx_S 2 0 0 (t_Mo_bus zz)
theorem sm_Mo_bus (zz : Nat × Nat) : mx_SMono (S_Mo_bus zz) := mx_S_mono (tm_Mo_bus zz)
abbrev rm_Mo_bus : Room := { frames := 1, cells := 0, slots := 0, locals := 22 }
set_option maxHeartbeats 4000000 in
set_option maxRecDepth 100000 in
theorem m_Mo_bus (l : Launch) (zz : Nat × Nat) : mx_Met l y_Mo_bus (wsOf y_Mo_bus c_Mo_bus 2 (some .int)) rm_Mo_bus wcl (mx_Z zz) 0 0 (S_Mo_bus zz) := by
  refine mx_met (cc := c_Mo_bus) (ret := (some .int)) (by decide) rfl ?_
  intro p e s m args below meth c D A Post X hz hr hlk hnm
  have hm : ∀ w ∈ mw, w.before args s = true := fun w h => X.1.2.2.2.2 w (List.mem_cons_of_mem _ h)
  refine mx_all_cons (ok_iload (fun hl kk => lv_iload_n X.1.1 X.1.2.1 d_Mo_bus_0 rfl hl kk)) ?_
  refine mx_all_cons (ok_push (fun kk => lv_iconst X.1.1 X.1.2.1 d_Mo_bus_1 (by decide) kk)) ?_
  refine mx_all_cons (ok_aload (fun hl kk => lv_aload_n X.1.1 X.1.2.1 d_Mo_bus_2 rfl hl kk) (fun hl kk => lv_aload_nN X.1.1 X.1.2.1 d_Mo_bus_2 rfl hl kk)) ?_
  refine mx_all_cons (ok_get (C := "HeaderScheduleModel") (T := T_Mo) (N := 40) X (mw_up in_Mo) rfl 34 (by decide) (hm _ w711) (fun _ h9 => h9) d_Mo_bus_3) ?_
  refine mx_all_cons (ok_push (fun kk => lv_iconst X.1.1 X.1.2.1 d_Mo_bus_6 (by decide) kk)) ?_
  refine mx_all_cons (ok_ii (fun kk => lv_isub X.1.1 X.1.2.1 d_Mo_bus_7 kk)) ?_
  refine mx_all_cons (ok_callS X (mx_Zok_Z zz) hz ⟨(Nat.le_of_ble_eq_true rfl), (Nat.le_of_ble_eq_true rfl)⟩ (m_Mo_within l zz) ⟨mx_cwB 3 hm w804 w802 w40 rfl rfl (by decide +kernel) ⟨(Nat.le_of_ble_eq_true rfl), (Nat.le_of_ble_eq_true rfl)⟩, (hm _ w803)⟩ d_Mo_bus_8) ?_
  refine mx_all_cons (ok_if (fun kt kf => lv_if_eq X.1.1 X.1.2.1 d_Mo_bus_11 (by decide) kt kf)) ?_
  refine mx_all_cons (ok_aload (fun hl kk => lv_aload_n X.1.1 X.1.2.1 d_Mo_bus_14 rfl hl kk) (fun hl kk => lv_aload_nN X.1.1 X.1.2.1 d_Mo_bus_14 rfl hl kk)) ?_
  refine mx_all_cons (ok_get (C := "HeaderScheduleModel") (T := T_Mo) (N := 40) X (mw_up in_Mo) rfl 35 (by decide) (hm _ w712) (fun _ h9 => h9) d_Mo_bus_15) ?_
  refine mx_all_cons (ok_iload (fun hl kk => lv_iload_n X.1.1 X.1.2.1 d_Mo_bus_18 rfl hl kk)) ?_
  refine mx_all_cons (ok_iald X d_Mo_bus_19) ?_
  refine mx_all_cons (ok_goto X d_Mo_bus_20 (by decide)) ?_
  refine mx_all_cons (ok_push (fun kk => lv_iconst X.1.1 X.1.2.1 d_Mo_bus_23 (by decide) kk)) ?_
  refine mx_all_cons (ok_iret X hr hlk d_Mo_bus_24) ?_
  exact mx_all_nil
theorem st_Mo_bus_0 (zz : Nat × Nat) (r : mx_T) (ls : mx_L) (st : List Value) (h : mx_H) (c n : Nat) : mx_G r (t_Mo_bus zz) 0 ls st h c n = (o_iload 1 1) r (mx_G r (t_Mo_bus zz)) 0 ls st h c n := mx_G_eq (tm_Mo_bus zz) r 0 ls st h c n
theorem st_Mo_bus_1 (zz : Nat × Nat) (r : mx_T) (ls : mx_L) (st : List Value) (h : mx_H) (c n : Nat) : mx_G r (t_Mo_bus zz) 1 ls st h c n = (o_push 1 (.int 0)) r (mx_G r (t_Mo_bus zz)) 1 ls st h c n := mx_G_eq (tm_Mo_bus zz) r 1 ls st h c n
theorem st_Mo_bus_2 (zz : Nat × Nat) (r : mx_T) (ls : mx_L) (st : List Value) (h : mx_H) (c n : Nat) : mx_G r (t_Mo_bus zz) 2 ls st h c n = (o_aload 1 0) r (mx_G r (t_Mo_bus zz)) 2 ls st h c n := mx_G_eq (tm_Mo_bus zz) r 2 ls st h c n
theorem st_Mo_bus_3 (zz : Nat × Nat) (r : mx_T) (ls : mx_L) (st : List Value) (h : mx_H) (c n : Nat) : mx_G r (t_Mo_bus zz) 3 ls st h c n = (o_get 10 34) r (mx_G r (t_Mo_bus zz)) 3 ls st h c n := mx_G_eq (tm_Mo_bus zz) r 3 ls st h c n
theorem st_Mo_bus_6 (zz : Nat × Nat) (r : mx_T) (ls : mx_L) (st : List Value) (h : mx_H) (c n : Nat) : mx_G r (t_Mo_bus zz) 6 ls st h c n = (o_push 1 (.int 1)) r (mx_G r (t_Mo_bus zz)) 6 ls st h c n := mx_G_eq (tm_Mo_bus zz) r 6 ls st h c n
theorem st_Mo_bus_7 (zz : Nat × Nat) (r : mx_T) (ls : mx_L) (st : List Value) (h : mx_H) (c n : Nat) : mx_G r (t_Mo_bus zz) 7 ls st h c n = (o_ii (fun x y => x - y)) r (mx_G r (t_Mo_bus zz)) 7 ls st h c n := mx_G_eq (tm_Mo_bus zz) r 7 ls st h c n
theorem st_Mo_bus_8 (zz : Nat × Nat) (r : mx_T) (ls : mx_L) (st : List Value) (h : mx_H) (c n : Nat) : mx_G r (t_Mo_bus zz) 8 ls st h c n = (o_call 0 0 3 0 0 (fun _ _ => True) (S_Mo_within zz)) r (mx_G r (t_Mo_bus zz)) 8 ls st h c n := mx_G_eq (tm_Mo_bus zz) r 8 ls st h c n
theorem st_Mo_bus_11 (zz : Nat × Nat) (r : mx_T) (ls : mx_L) (st : List Value) (h : mx_H) (c n : Nat) : mx_G r (t_Mo_bus zz) 11 ls st h c n = (o_if 23 (fun x => x = 0)) r (mx_G r (t_Mo_bus zz)) 11 ls st h c n := mx_G_eq (tm_Mo_bus zz) r 11 ls st h c n
theorem st_Mo_bus_14 (zz : Nat × Nat) (r : mx_T) (ls : mx_L) (st : List Value) (h : mx_H) (c n : Nat) : mx_G r (t_Mo_bus zz) 14 ls st h c n = (o_aload 1 0) r (mx_G r (t_Mo_bus zz)) 14 ls st h c n := mx_G_eq (tm_Mo_bus zz) r 14 ls st h c n
theorem st_Mo_bus_15 (zz : Nat × Nat) (r : mx_T) (ls : mx_L) (st : List Value) (h : mx_H) (c n : Nat) : mx_G r (t_Mo_bus zz) 15 ls st h c n = (o_get 10 35) r (mx_G r (t_Mo_bus zz)) 15 ls st h c n := mx_G_eq (tm_Mo_bus zz) r 15 ls st h c n
theorem st_Mo_bus_18 (zz : Nat × Nat) (r : mx_T) (ls : mx_L) (st : List Value) (h : mx_H) (c n : Nat) : mx_G r (t_Mo_bus zz) 18 ls st h c n = (o_iload 1 1) r (mx_G r (t_Mo_bus zz)) 18 ls st h c n := mx_G_eq (tm_Mo_bus zz) r 18 ls st h c n
theorem st_Mo_bus_19 (zz : Nat × Nat) (r : mx_T) (ls : mx_L) (st : List Value) (h : mx_H) (c n : Nat) : mx_G r (t_Mo_bus zz) 19 ls st h c n = (o_iald .int) r (mx_G r (t_Mo_bus zz)) 19 ls st h c n := mx_G_eq (tm_Mo_bus zz) r 19 ls st h c n
theorem st_Mo_bus_20 (zz : Nat × Nat) (r : mx_T) (ls : mx_L) (st : List Value) (h : mx_H) (c n : Nat) : mx_G r (t_Mo_bus zz) 20 ls st h c n = (o_goto 24) r (mx_G r (t_Mo_bus zz)) 20 ls st h c n := mx_G_eq (tm_Mo_bus zz) r 20 ls st h c n
theorem st_Mo_bus_23 (zz : Nat × Nat) (r : mx_T) (ls : mx_L) (st : List Value) (h : mx_H) (c n : Nat) : mx_G r (t_Mo_bus zz) 23 ls st h c n = (o_push 1 (.int (-1))) r (mx_G r (t_Mo_bus zz)) 23 ls st h c n := mx_G_eq (tm_Mo_bus zz) r 23 ls st h c n
theorem st_Mo_bus_24 (zz : Nat × Nat) (r : mx_T) (ls : mx_L) (st : List Value) (h : mx_H) (c n : Nat) : mx_G r (t_Mo_bus zz) 24 ls st h c n = (o_iret) r (mx_G r (t_Mo_bus zz)) 24 ls st h c n := mx_G_eq (tm_Mo_bus zz) r 24 ls st h c n
theorem d_Mo_count_0 : decode c_Mo_count 0 = .ok (.iload_n 1, 1) := by decide +kernel
theorem d_Mo_count_1 : decode c_Mo_count 1 = .ok (.iconst 1, 1) := by decide +kernel
theorem d_Mo_count_2 : decode c_Mo_count 2 = .ok (.iconst 4, 1) := by decide +kernel
theorem d_Mo_count_3 : decode c_Mo_count 3 = .ok (.invokestatic 91, 3) := by decide +kernel
theorem d_Mo_count_6 : decode c_Mo_count 6 = .ok (.ifCond .eq 12, 3) := by decide +kernel
theorem d_Mo_count_9 : decode c_Mo_count 9 = .ok (.aload_n 0, 1) := by decide +kernel
theorem d_Mo_count_10 : decode c_Mo_count 10 = .ok (.getfield 78, 3) := by decide +kernel
theorem d_Mo_count_13 : decode c_Mo_count 13 = .ok (.iload_n 1, 1) := by decide +kernel
theorem d_Mo_count_14 : decode c_Mo_count 14 = .ok (.iaload, 1) := by decide +kernel
theorem d_Mo_count_15 : decode c_Mo_count 15 = .ok (.goto 4, 3) := by decide +kernel
theorem d_Mo_count_18 : decode c_Mo_count 18 = .ok (.iconst (-1), 1) := by decide +kernel
theorem d_Mo_count_19 : decode c_Mo_count 19 = .ok (.ireturn, 1) := by decide +kernel
def t_Mo_count (zz : Nat × Nat) : List (Nat × mx_O) := [(0, o_iload 1 1),
  (1, o_push 1 (.int 1)),
  (2, o_push 1 (.int 4)),
  (3, o_call 0 0 3 0 0 (fun _ _ => True) (S_Mo_within zz)),
  (6, o_if 18 (fun x => x = 0)),
  (9, o_aload 1 0),
  (10, o_get 10 39),
  (13, o_iload 1 1),
  (14, o_iald .int),
  (15, o_goto 19),
  (18, o_push 1 (.int (-1))),
  (19, o_iret)]
set_option maxRecDepth 100000 in
theorem tm_Mo_count (zz : Nat × Nat) : mx_All (fun _ o => mx_Mono o) (t_Mo_count zz) := by
  refine mx_all_cons (mo_st) ?_
  refine mx_all_cons (mo_st) ?_
  refine mx_all_cons (mo_st) ?_
  refine mx_all_cons (mo_call (sm_Mo_within zz)) ?_
  refine mx_all_cons (mo_br) ?_
  refine mx_all_cons (mo_st) ?_
  refine mx_all_cons (mo_st) ?_
  refine mx_all_cons (mo_st) ?_
  refine mx_all_cons (mo_sc) ?_
  refine mx_all_cons (mo_st) ?_
  refine mx_all_cons (mo_st) ?_
  refine mx_all_cons (mo_ret) ?_
  exact mx_all_nil
def S_Mo_count (zz : Nat × Nat) : mx_Sp := mx_S 2 0 0 (t_Mo_count zz)
theorem sm_Mo_count (zz : Nat × Nat) : mx_SMono (S_Mo_count zz) := mx_S_mono (tm_Mo_count zz)
abbrev rm_Mo_count : Room := { frames := 1, cells := 0, slots := 0, locals := 22 }
set_option maxHeartbeats 4000000 in
set_option maxRecDepth 100000 in
theorem m_Mo_count (l : Launch) (zz : Nat × Nat) : mx_Met l y_Mo_count (wsOf y_Mo_count c_Mo_count 2 (some .int)) rm_Mo_count wcl (mx_Z zz) 0 0 (S_Mo_count zz) := by
  refine mx_met (cc := c_Mo_count) (ret := (some .int)) (by decide) rfl ?_
  intro p e s m args below meth c D A Post X hz hr hlk hnm
  have hm : ∀ w ∈ mw, w.before args s = true := fun w h => X.1.2.2.2.2 w (List.mem_cons_of_mem _ h)
  refine mx_all_cons (ok_iload (fun hl kk => lv_iload_n X.1.1 X.1.2.1 d_Mo_count_0 rfl hl kk)) ?_
  refine mx_all_cons (ok_push (fun kk => lv_iconst X.1.1 X.1.2.1 d_Mo_count_1 (by decide) kk)) ?_
  refine mx_all_cons (ok_push (fun kk => lv_iconst X.1.1 X.1.2.1 d_Mo_count_2 (by decide) kk)) ?_
  refine mx_all_cons (ok_callS X (mx_Zok_Z zz) hz ⟨(Nat.le_of_ble_eq_true rfl), (Nat.le_of_ble_eq_true rfl)⟩ (m_Mo_within l zz) ⟨mx_cwB 3 hm w804 w802 w40 rfl rfl (by decide +kernel) ⟨(Nat.le_of_ble_eq_true rfl), (Nat.le_of_ble_eq_true rfl)⟩, (hm _ w803)⟩ d_Mo_count_3) ?_
  refine mx_all_cons (ok_if (fun kt kf => lv_if_eq X.1.1 X.1.2.1 d_Mo_count_6 (by decide) kt kf)) ?_
  refine mx_all_cons (ok_aload (fun hl kk => lv_aload_n X.1.1 X.1.2.1 d_Mo_count_9 rfl hl kk) (fun hl kk => lv_aload_nN X.1.1 X.1.2.1 d_Mo_count_9 rfl hl kk)) ?_
  refine mx_all_cons (ok_get (C := "HeaderScheduleModel") (T := T_Mo) (N := 40) X (mw_up in_Mo) rfl 39 (by decide) (hm _ w716) (fun _ h9 => h9) d_Mo_count_10) ?_
  refine mx_all_cons (ok_iload (fun hl kk => lv_iload_n X.1.1 X.1.2.1 d_Mo_count_13 rfl hl kk)) ?_
  refine mx_all_cons (ok_iald X d_Mo_count_14) ?_
  refine mx_all_cons (ok_goto X d_Mo_count_15 (by decide)) ?_
  refine mx_all_cons (ok_push (fun kk => lv_iconst X.1.1 X.1.2.1 d_Mo_count_18 (by decide) kk)) ?_
  refine mx_all_cons (ok_iret X hr hlk d_Mo_count_19) ?_
  exact mx_all_nil
theorem st_Mo_count_0 (zz : Nat × Nat) (r : mx_T) (ls : mx_L) (st : List Value) (h : mx_H) (c n : Nat) : mx_G r (t_Mo_count zz) 0 ls st h c n = (o_iload 1 1) r (mx_G r (t_Mo_count zz)) 0 ls st h c n := mx_G_eq (tm_Mo_count zz) r 0 ls st h c n
theorem st_Mo_count_1 (zz : Nat × Nat) (r : mx_T) (ls : mx_L) (st : List Value) (h : mx_H) (c n : Nat) : mx_G r (t_Mo_count zz) 1 ls st h c n = (o_push 1 (.int 1)) r (mx_G r (t_Mo_count zz)) 1 ls st h c n := mx_G_eq (tm_Mo_count zz) r 1 ls st h c n
theorem st_Mo_count_2 (zz : Nat × Nat) (r : mx_T) (ls : mx_L) (st : List Value) (h : mx_H) (c n : Nat) : mx_G r (t_Mo_count zz) 2 ls st h c n = (o_push 1 (.int 4)) r (mx_G r (t_Mo_count zz)) 2 ls st h c n := mx_G_eq (tm_Mo_count zz) r 2 ls st h c n
theorem st_Mo_count_3 (zz : Nat × Nat) (r : mx_T) (ls : mx_L) (st : List Value) (h : mx_H) (c n : Nat) : mx_G r (t_Mo_count zz) 3 ls st h c n = (o_call 0 0 3 0 0 (fun _ _ => True) (S_Mo_within zz)) r (mx_G r (t_Mo_count zz)) 3 ls st h c n := mx_G_eq (tm_Mo_count zz) r 3 ls st h c n
theorem st_Mo_count_6 (zz : Nat × Nat) (r : mx_T) (ls : mx_L) (st : List Value) (h : mx_H) (c n : Nat) : mx_G r (t_Mo_count zz) 6 ls st h c n = (o_if 18 (fun x => x = 0)) r (mx_G r (t_Mo_count zz)) 6 ls st h c n := mx_G_eq (tm_Mo_count zz) r 6 ls st h c n
theorem st_Mo_count_9 (zz : Nat × Nat) (r : mx_T) (ls : mx_L) (st : List Value) (h : mx_H) (c n : Nat) : mx_G r (t_Mo_count zz) 9 ls st h c n = (o_aload 1 0) r (mx_G r (t_Mo_count zz)) 9 ls st h c n := mx_G_eq (tm_Mo_count zz) r 9 ls st h c n
theorem st_Mo_count_10 (zz : Nat × Nat) (r : mx_T) (ls : mx_L) (st : List Value) (h : mx_H) (c n : Nat) : mx_G r (t_Mo_count zz) 10 ls st h c n = (o_get 10 39) r (mx_G r (t_Mo_count zz)) 10 ls st h c n := mx_G_eq (tm_Mo_count zz) r 10 ls st h c n
theorem st_Mo_count_13 (zz : Nat × Nat) (r : mx_T) (ls : mx_L) (st : List Value) (h : mx_H) (c n : Nat) : mx_G r (t_Mo_count zz) 13 ls st h c n = (o_iload 1 1) r (mx_G r (t_Mo_count zz)) 13 ls st h c n := mx_G_eq (tm_Mo_count zz) r 13 ls st h c n
theorem st_Mo_count_14 (zz : Nat × Nat) (r : mx_T) (ls : mx_L) (st : List Value) (h : mx_H) (c n : Nat) : mx_G r (t_Mo_count zz) 14 ls st h c n = (o_iald .int) r (mx_G r (t_Mo_count zz)) 14 ls st h c n := mx_G_eq (tm_Mo_count zz) r 14 ls st h c n
theorem st_Mo_count_15 (zz : Nat × Nat) (r : mx_T) (ls : mx_L) (st : List Value) (h : mx_H) (c n : Nat) : mx_G r (t_Mo_count zz) 15 ls st h c n = (o_goto 19) r (mx_G r (t_Mo_count zz)) 15 ls st h c n := mx_G_eq (tm_Mo_count zz) r 15 ls st h c n
theorem st_Mo_count_18 (zz : Nat × Nat) (r : mx_T) (ls : mx_L) (st : List Value) (h : mx_H) (c n : Nat) : mx_G r (t_Mo_count zz) 18 ls st h c n = (o_push 1 (.int (-1))) r (mx_G r (t_Mo_count zz)) 18 ls st h c n := mx_G_eq (tm_Mo_count zz) r 18 ls st h c n
theorem st_Mo_count_19 (zz : Nat × Nat) (r : mx_T) (ls : mx_L) (st : List Value) (h : mx_H) (c n : Nat) : mx_G r (t_Mo_count zz) 19 ls st h c n = (o_iret) r (mx_G r (t_Mo_count zz)) 19 ls st h c n := mx_G_eq (tm_Mo_count zz) r 19 ls st h c n
theorem d_Mo_position_0 : decode c_Mo_position 0 = .ok (.aload_n 0, 1) := by decide +kernel
theorem d_Mo_position_1 : decode c_Mo_position 1 = .ok (.getfield 87, 3) := by decide +kernel
theorem d_Mo_position_4 : decode c_Mo_position 4 = .ok (.ifCond .eq 32, 3) := by decide +kernel
theorem d_Mo_position_7 : decode c_Mo_position 7 = .ok (.bipush 16, 2) := by decide +kernel
theorem d_Mo_position_9 : decode c_Mo_position 9 = .ok (.aload_n 0, 1) := by decide +kernel
theorem d_Mo_position_10 : decode c_Mo_position 10 = .ok (.getfield 124, 3) := by decide +kernel
theorem d_Mo_position_13 : decode c_Mo_position 13 = .ok (.imul, 1) := by decide +kernel
theorem d_Mo_position_14 : decode c_Mo_position 14 = .ok (.aload_n 0, 1) := by decide +kernel
theorem d_Mo_position_15 : decode c_Mo_position 15 = .ok (.getfield 127, 3) := by decide +kernel
theorem d_Mo_position_18 : decode c_Mo_position 18 = .ok (.iadd, 1) := by decide +kernel
theorem d_Mo_position_19 : decode c_Mo_position 19 = .ok (.aload_n 0, 1) := by decide +kernel
theorem d_Mo_position_20 : decode c_Mo_position 20 = .ok (.getfield 182, 3) := by decide +kernel
theorem d_Mo_position_23 : decode c_Mo_position 23 = .ok (.ifCond .eq 8, 3) := by decide +kernel
theorem d_Mo_position_26 : decode c_Mo_position 26 = .ok (.bipush 64, 2) := by decide +kernel
theorem d_Mo_position_28 : decode c_Mo_position 28 = .ok (.goto 4, 3) := by decide +kernel
theorem d_Mo_position_31 : decode c_Mo_position 31 = .ok (.iconst 0, 1) := by decide +kernel
theorem d_Mo_position_32 : decode c_Mo_position 32 = .ok (.iadd, 1) := by decide +kernel
theorem d_Mo_position_33 : decode c_Mo_position 33 = .ok (.goto 4, 3) := by decide +kernel
theorem d_Mo_position_36 : decode c_Mo_position 36 = .ok (.iconst (-1), 1) := by decide +kernel
theorem d_Mo_position_37 : decode c_Mo_position 37 = .ok (.ireturn, 1) := by decide +kernel
def t_Mo_position (zz : Nat × Nat) : List (Nat × mx_O) := [(0, o_aload 1 0),
  (1, o_get 10 24),
  (4, o_if 36 (fun x => x = 0)),
  (7, o_push 2 (.int 16)),
  (9, o_aload 1 0),
  (10, o_get 10 26),
  (13, o_ii (fun x y => x * y)),
  (14, o_aload 1 0),
  (15, o_get 10 27),
  (18, o_ii (fun x y => x + y)),
  (19, o_aload 1 0),
  (20, o_get 10 29),
  (23, o_if 31 (fun x => x = 0)),
  (26, o_push 2 (.int 64)),
  (28, o_goto 32),
  (31, o_push 1 (.int 0)),
  (32, o_ii (fun x y => x + y)),
  (33, o_goto 37),
  (36, o_push 1 (.int (-1))),
  (37, o_iret)]
set_option maxRecDepth 100000 in
theorem tm_Mo_position (zz : Nat × Nat) : mx_All (fun _ o => mx_Mono o) (t_Mo_position zz) := by
  refine mx_all_cons (mo_st) ?_
  refine mx_all_cons (mo_st) ?_
  refine mx_all_cons (mo_br) ?_
  refine mx_all_cons (mo_st) ?_
  refine mx_all_cons (mo_st) ?_
  refine mx_all_cons (mo_st) ?_
  refine mx_all_cons (mo_st) ?_
  refine mx_all_cons (mo_st) ?_
  refine mx_all_cons (mo_st) ?_
  refine mx_all_cons (mo_st) ?_
  refine mx_all_cons (mo_st) ?_
  refine mx_all_cons (mo_st) ?_
  refine mx_all_cons (mo_br) ?_
  refine mx_all_cons (mo_st) ?_
  refine mx_all_cons (mo_st) ?_
  refine mx_all_cons (mo_st) ?_
  refine mx_all_cons (mo_st) ?_
  refine mx_all_cons (mo_st) ?_
  refine mx_all_cons (mo_st) ?_
  refine mx_all_cons (mo_ret) ?_
  exact mx_all_nil
def S_Mo_position (zz : Nat × Nat) : mx_Sp := mx_S 1 0 0 (t_Mo_position zz)
theorem sm_Mo_position (zz : Nat × Nat) : mx_SMono (S_Mo_position zz) := mx_S_mono (tm_Mo_position zz)
abbrev rm_Mo_position : Room := { frames := 0, cells := 0, slots := 0, locals := 0 }
set_option maxHeartbeats 4000000 in
set_option maxRecDepth 100000 in
theorem m_Mo_position (l : Launch) (zz : Nat × Nat) : mx_Met l y_Mo_position (wsOf y_Mo_position c_Mo_position 1 (some .int)) rm_Mo_position wcl (mx_Z zz) 0 0 (S_Mo_position zz) := by
  refine mx_met (cc := c_Mo_position) (ret := (some .int)) (by decide) rfl ?_
  intro p e s m args below meth c D A Post X hz hr hlk hnm
  have hm : ∀ w ∈ mw, w.before args s = true := fun w h => X.1.2.2.2.2 w (List.mem_cons_of_mem _ h)
  refine mx_all_cons (ok_aload (fun hl kk => lv_aload_n X.1.1 X.1.2.1 d_Mo_position_0 rfl hl kk) (fun hl kk => lv_aload_nN X.1.1 X.1.2.1 d_Mo_position_0 rfl hl kk)) ?_
  refine mx_all_cons (ok_get (C := "HeaderScheduleModel") (T := T_Mo) (N := 40) X (mw_up in_Mo) rfl 24 (by decide) (hm _ w701) (fun _ h9 => h9) d_Mo_position_1) ?_
  refine mx_all_cons (ok_if (fun kt kf => lv_if_eq X.1.1 X.1.2.1 d_Mo_position_4 (by decide) kt kf)) ?_
  refine mx_all_cons (ok_push (fun kk => lv_bipush X.1.1 X.1.2.1 d_Mo_position_7 (by decide) kk)) ?_
  refine mx_all_cons (ok_aload (fun hl kk => lv_aload_n X.1.1 X.1.2.1 d_Mo_position_9 rfl hl kk) (fun hl kk => lv_aload_nN X.1.1 X.1.2.1 d_Mo_position_9 rfl hl kk)) ?_
  refine mx_all_cons (ok_get (C := "HeaderScheduleModel") (T := T_Mo) (N := 40) X (mw_up in_Mo) rfl 26 (by decide) (hm _ w703) (fun _ h9 => h9) d_Mo_position_10) ?_
  refine mx_all_cons (ok_ii (fun kk => lv_imul X.1.1 X.1.2.1 d_Mo_position_13 kk)) ?_
  refine mx_all_cons (ok_aload (fun hl kk => lv_aload_n X.1.1 X.1.2.1 d_Mo_position_14 rfl hl kk) (fun hl kk => lv_aload_nN X.1.1 X.1.2.1 d_Mo_position_14 rfl hl kk)) ?_
  refine mx_all_cons (ok_get (C := "HeaderScheduleModel") (T := T_Mo) (N := 40) X (mw_up in_Mo) rfl 27 (by decide) (hm _ w704) (fun _ h9 => h9) d_Mo_position_15) ?_
  refine mx_all_cons (ok_ii (fun kk => lv_iadd X.1.1 X.1.2.1 d_Mo_position_18 kk)) ?_
  refine mx_all_cons (ok_aload (fun hl kk => lv_aload_n X.1.1 X.1.2.1 d_Mo_position_19 rfl hl kk) (fun hl kk => lv_aload_nN X.1.1 X.1.2.1 d_Mo_position_19 rfl hl kk)) ?_
  refine mx_all_cons (ok_get (C := "HeaderScheduleModel") (T := T_Mo) (N := 40) X (mw_up in_Mo) rfl 29 (by decide) (hm _ w706) (fun _ h9 => h9) d_Mo_position_20) ?_
  refine mx_all_cons (ok_if (fun kt kf => lv_if_eq X.1.1 X.1.2.1 d_Mo_position_23 (by decide) kt kf)) ?_
  refine mx_all_cons (ok_push (fun kk => lv_bipush X.1.1 X.1.2.1 d_Mo_position_26 (by decide) kk)) ?_
  refine mx_all_cons (ok_goto X d_Mo_position_28 (by decide)) ?_
  refine mx_all_cons (ok_push (fun kk => lv_iconst X.1.1 X.1.2.1 d_Mo_position_31 (by decide) kk)) ?_
  refine mx_all_cons (ok_ii (fun kk => lv_iadd X.1.1 X.1.2.1 d_Mo_position_32 kk)) ?_
  refine mx_all_cons (ok_goto X d_Mo_position_33 (by decide)) ?_
  refine mx_all_cons (ok_push (fun kk => lv_iconst X.1.1 X.1.2.1 d_Mo_position_36 (by decide) kk)) ?_
  refine mx_all_cons (ok_iret X hr hlk d_Mo_position_37) ?_
  exact mx_all_nil
theorem st_Mo_position_0 (zz : Nat × Nat) (r : mx_T) (ls : mx_L) (st : List Value) (h : mx_H) (c n : Nat) : mx_G r (t_Mo_position zz) 0 ls st h c n = (o_aload 1 0) r (mx_G r (t_Mo_position zz)) 0 ls st h c n := mx_G_eq (tm_Mo_position zz) r 0 ls st h c n
theorem st_Mo_position_1 (zz : Nat × Nat) (r : mx_T) (ls : mx_L) (st : List Value) (h : mx_H) (c n : Nat) : mx_G r (t_Mo_position zz) 1 ls st h c n = (o_get 10 24) r (mx_G r (t_Mo_position zz)) 1 ls st h c n := mx_G_eq (tm_Mo_position zz) r 1 ls st h c n
theorem st_Mo_position_4 (zz : Nat × Nat) (r : mx_T) (ls : mx_L) (st : List Value) (h : mx_H) (c n : Nat) : mx_G r (t_Mo_position zz) 4 ls st h c n = (o_if 36 (fun x => x = 0)) r (mx_G r (t_Mo_position zz)) 4 ls st h c n := mx_G_eq (tm_Mo_position zz) r 4 ls st h c n
theorem st_Mo_position_7 (zz : Nat × Nat) (r : mx_T) (ls : mx_L) (st : List Value) (h : mx_H) (c n : Nat) : mx_G r (t_Mo_position zz) 7 ls st h c n = (o_push 2 (.int 16)) r (mx_G r (t_Mo_position zz)) 7 ls st h c n := mx_G_eq (tm_Mo_position zz) r 7 ls st h c n
theorem st_Mo_position_9 (zz : Nat × Nat) (r : mx_T) (ls : mx_L) (st : List Value) (h : mx_H) (c n : Nat) : mx_G r (t_Mo_position zz) 9 ls st h c n = (o_aload 1 0) r (mx_G r (t_Mo_position zz)) 9 ls st h c n := mx_G_eq (tm_Mo_position zz) r 9 ls st h c n
theorem st_Mo_position_10 (zz : Nat × Nat) (r : mx_T) (ls : mx_L) (st : List Value) (h : mx_H) (c n : Nat) : mx_G r (t_Mo_position zz) 10 ls st h c n = (o_get 10 26) r (mx_G r (t_Mo_position zz)) 10 ls st h c n := mx_G_eq (tm_Mo_position zz) r 10 ls st h c n
theorem st_Mo_position_13 (zz : Nat × Nat) (r : mx_T) (ls : mx_L) (st : List Value) (h : mx_H) (c n : Nat) : mx_G r (t_Mo_position zz) 13 ls st h c n = (o_ii (fun x y => x * y)) r (mx_G r (t_Mo_position zz)) 13 ls st h c n := mx_G_eq (tm_Mo_position zz) r 13 ls st h c n
theorem st_Mo_position_14 (zz : Nat × Nat) (r : mx_T) (ls : mx_L) (st : List Value) (h : mx_H) (c n : Nat) : mx_G r (t_Mo_position zz) 14 ls st h c n = (o_aload 1 0) r (mx_G r (t_Mo_position zz)) 14 ls st h c n := mx_G_eq (tm_Mo_position zz) r 14 ls st h c n
theorem st_Mo_position_15 (zz : Nat × Nat) (r : mx_T) (ls : mx_L) (st : List Value) (h : mx_H) (c n : Nat) : mx_G r (t_Mo_position zz) 15 ls st h c n = (o_get 10 27) r (mx_G r (t_Mo_position zz)) 15 ls st h c n := mx_G_eq (tm_Mo_position zz) r 15 ls st h c n
theorem st_Mo_position_18 (zz : Nat × Nat) (r : mx_T) (ls : mx_L) (st : List Value) (h : mx_H) (c n : Nat) : mx_G r (t_Mo_position zz) 18 ls st h c n = (o_ii (fun x y => x + y)) r (mx_G r (t_Mo_position zz)) 18 ls st h c n := mx_G_eq (tm_Mo_position zz) r 18 ls st h c n
theorem st_Mo_position_19 (zz : Nat × Nat) (r : mx_T) (ls : mx_L) (st : List Value) (h : mx_H) (c n : Nat) : mx_G r (t_Mo_position zz) 19 ls st h c n = (o_aload 1 0) r (mx_G r (t_Mo_position zz)) 19 ls st h c n := mx_G_eq (tm_Mo_position zz) r 19 ls st h c n
theorem st_Mo_position_20 (zz : Nat × Nat) (r : mx_T) (ls : mx_L) (st : List Value) (h : mx_H) (c n : Nat) : mx_G r (t_Mo_position zz) 20 ls st h c n = (o_get 10 29) r (mx_G r (t_Mo_position zz)) 20 ls st h c n := mx_G_eq (tm_Mo_position zz) r 20 ls st h c n
theorem st_Mo_position_23 (zz : Nat × Nat) (r : mx_T) (ls : mx_L) (st : List Value) (h : mx_H) (c n : Nat) : mx_G r (t_Mo_position zz) 23 ls st h c n = (o_if 31 (fun x => x = 0)) r (mx_G r (t_Mo_position zz)) 23 ls st h c n := mx_G_eq (tm_Mo_position zz) r 23 ls st h c n
theorem st_Mo_position_26 (zz : Nat × Nat) (r : mx_T) (ls : mx_L) (st : List Value) (h : mx_H) (c n : Nat) : mx_G r (t_Mo_position zz) 26 ls st h c n = (o_push 2 (.int 64)) r (mx_G r (t_Mo_position zz)) 26 ls st h c n := mx_G_eq (tm_Mo_position zz) r 26 ls st h c n
theorem st_Mo_position_28 (zz : Nat × Nat) (r : mx_T) (ls : mx_L) (st : List Value) (h : mx_H) (c n : Nat) : mx_G r (t_Mo_position zz) 28 ls st h c n = (o_goto 32) r (mx_G r (t_Mo_position zz)) 28 ls st h c n := mx_G_eq (tm_Mo_position zz) r 28 ls st h c n
theorem st_Mo_position_31 (zz : Nat × Nat) (r : mx_T) (ls : mx_L) (st : List Value) (h : mx_H) (c n : Nat) : mx_G r (t_Mo_position zz) 31 ls st h c n = (o_push 1 (.int 0)) r (mx_G r (t_Mo_position zz)) 31 ls st h c n := mx_G_eq (tm_Mo_position zz) r 31 ls st h c n
theorem st_Mo_position_32 (zz : Nat × Nat) (r : mx_T) (ls : mx_L) (st : List Value) (h : mx_H) (c n : Nat) : mx_G r (t_Mo_position zz) 32 ls st h c n = (o_ii (fun x y => x + y)) r (mx_G r (t_Mo_position zz)) 32 ls st h c n := mx_G_eq (tm_Mo_position zz) r 32 ls st h c n
theorem st_Mo_position_33 (zz : Nat × Nat) (r : mx_T) (ls : mx_L) (st : List Value) (h : mx_H) (c n : Nat) : mx_G r (t_Mo_position zz) 33 ls st h c n = (o_goto 37) r (mx_G r (t_Mo_position zz)) 33 ls st h c n := mx_G_eq (tm_Mo_position zz) r 33 ls st h c n
theorem st_Mo_position_36 (zz : Nat × Nat) (r : mx_T) (ls : mx_L) (st : List Value) (h : mx_H) (c n : Nat) : mx_G r (t_Mo_position zz) 36 ls st h c n = (o_push 1 (.int (-1))) r (mx_G r (t_Mo_position zz)) 36 ls st h c n := mx_G_eq (tm_Mo_position zz) r 36 ls st h c n
theorem st_Mo_position_37 (zz : Nat × Nat) (r : mx_T) (ls : mx_L) (st : List Value) (h : mx_H) (c n : Nat) : mx_G r (t_Mo_position zz) 37 ls st h c n = (o_iret) r (mx_G r (t_Mo_position zz)) 37 ls st h c n := mx_G_eq (tm_Mo_position zz) r 37 ls st h c n
theorem d_Mo_sleep_0 : decode c_Mo_sleep 0 = .ok (.aload_n 0, 1) := by decide +kernel
theorem d_Mo_sleep_1 : decode c_Mo_sleep 1 = .ok (.getfield 87, 3) := by decide +kernel
theorem d_Mo_sleep_4 : decode c_Mo_sleep 4 = .ok (.ifCond .eq 10, 3) := by decide +kernel
theorem d_Mo_sleep_7 : decode c_Mo_sleep 7 = .ok (.aload_n 0, 1) := by decide +kernel
theorem d_Mo_sleep_8 : decode c_Mo_sleep 8 = .ok (.getfield 185, 3) := by decide +kernel
theorem d_Mo_sleep_11 : decode c_Mo_sleep 11 = .ok (.ifCond .eq 5, 3) := by decide +kernel
theorem d_Mo_sleep_14 : decode c_Mo_sleep 14 = .ok (.iconst 0, 1) := by decide +kernel
theorem d_Mo_sleep_15 : decode c_Mo_sleep 15 = .ok (.ireturn, 1) := by decide +kernel
theorem d_Mo_sleep_16 : decode c_Mo_sleep 16 = .ok (.aload_n 0, 1) := by decide +kernel
theorem d_Mo_sleep_17 : decode c_Mo_sleep 17 = .ok (.iconst 1, 1) := by decide +kernel
theorem d_Mo_sleep_18 : decode c_Mo_sleep 18 = .ok (.putfield 185, 3) := by decide +kernel
theorem d_Mo_sleep_21 : decode c_Mo_sleep 21 = .ok (.aload_n 0, 1) := by decide +kernel
theorem d_Mo_sleep_22 : decode c_Mo_sleep 22 = .ok (.iconst 0, 1) := by decide +kernel
theorem d_Mo_sleep_23 : decode c_Mo_sleep 23 = .ok (.putfield 188, 3) := by decide +kernel
theorem d_Mo_sleep_26 : decode c_Mo_sleep 26 = .ok (.iconst 1, 1) := by decide +kernel
theorem d_Mo_sleep_27 : decode c_Mo_sleep 27 = .ok (.ireturn, 1) := by decide +kernel
def t_Mo_sleep (zz : Nat × Nat) : List (Nat × mx_O) := [(0, o_aload 1 0),
  (1, o_get 10 24),
  (4, o_if 14 (fun x => x = 0)),
  (7, o_aload 1 0),
  (8, o_get 10 25),
  (11, o_if 16 (fun x => x = 0)),
  (14, o_push 1 (.int 0)),
  (15, o_zret),
  (16, o_aload 1 0),
  (17, o_push 1 (.int 1)),
  (18, o_put 10 25 mx_vZ),
  (21, o_aload 1 0),
  (22, o_push 1 (.int 0)),
  (23, o_put 10 28 mx_vI),
  (26, o_push 1 (.int 1)),
  (27, o_zret)]
set_option maxRecDepth 100000 in
theorem tm_Mo_sleep (zz : Nat × Nat) : mx_All (fun _ o => mx_Mono o) (t_Mo_sleep zz) := by
  refine mx_all_cons (mo_st) ?_
  refine mx_all_cons (mo_st) ?_
  refine mx_all_cons (mo_br) ?_
  refine mx_all_cons (mo_st) ?_
  refine mx_all_cons (mo_st) ?_
  refine mx_all_cons (mo_br) ?_
  refine mx_all_cons (mo_st) ?_
  refine mx_all_cons (mo_zret) ?_
  refine mx_all_cons (mo_st) ?_
  refine mx_all_cons (mo_st) ?_
  refine mx_all_cons (mo_sc) ?_
  refine mx_all_cons (mo_st) ?_
  refine mx_all_cons (mo_st) ?_
  refine mx_all_cons (mo_sc) ?_
  refine mx_all_cons (mo_st) ?_
  refine mx_all_cons (mo_zret) ?_
  exact mx_all_nil
def S_Mo_sleep (zz : Nat × Nat) : mx_Sp := mx_S 1 0 0 (t_Mo_sleep zz)
theorem sm_Mo_sleep (zz : Nat × Nat) : mx_SMono (S_Mo_sleep zz) := mx_S_mono (tm_Mo_sleep zz)
abbrev rm_Mo_sleep : Room := { frames := 0, cells := 0, slots := 0, locals := 0 }
set_option maxHeartbeats 4000000 in
set_option maxRecDepth 100000 in
theorem m_Mo_sleep (l : Launch) (zz : Nat × Nat) : mx_Met l y_Mo_sleep (wsOf y_Mo_sleep c_Mo_sleep 1 (some .boolean)) rm_Mo_sleep wcl (mx_Z zz) 0 0 (S_Mo_sleep zz) := by
  refine mx_met (cc := c_Mo_sleep) (ret := (some .boolean)) (by decide) rfl ?_
  intro p e s m args below meth c D A Post X hz hr hlk hnm
  have hm : ∀ w ∈ mw, w.before args s = true := fun w h => X.1.2.2.2.2 w (List.mem_cons_of_mem _ h)
  refine mx_all_cons (ok_aload (fun hl kk => lv_aload_n X.1.1 X.1.2.1 d_Mo_sleep_0 rfl hl kk) (fun hl kk => lv_aload_nN X.1.1 X.1.2.1 d_Mo_sleep_0 rfl hl kk)) ?_
  refine mx_all_cons (ok_get (C := "HeaderScheduleModel") (T := T_Mo) (N := 40) X (mw_up in_Mo) rfl 24 (by decide) (hm _ w701) (fun _ h9 => h9) d_Mo_sleep_1) ?_
  refine mx_all_cons (ok_if (fun kt kf => lv_if_eq X.1.1 X.1.2.1 d_Mo_sleep_4 (by decide) kt kf)) ?_
  refine mx_all_cons (ok_aload (fun hl kk => lv_aload_n X.1.1 X.1.2.1 d_Mo_sleep_7 rfl hl kk) (fun hl kk => lv_aload_nN X.1.1 X.1.2.1 d_Mo_sleep_7 rfl hl kk)) ?_
  refine mx_all_cons (ok_get (C := "HeaderScheduleModel") (T := T_Mo) (N := 40) X (mw_up in_Mo) rfl 25 (by decide) (hm _ w702) (fun _ h9 => h9) d_Mo_sleep_8) ?_
  refine mx_all_cons (ok_if (fun kt kf => lv_if_eq X.1.1 X.1.2.1 d_Mo_sleep_11 (by decide) kt kf)) ?_
  refine mx_all_cons (ok_push (fun kk => lv_iconst X.1.1 X.1.2.1 d_Mo_sleep_14 (by decide) kk)) ?_
  refine mx_all_cons (ok_zret X hr hlk d_Mo_sleep_15) ?_
  refine mx_all_cons (ok_aload (fun hl kk => lv_aload_n X.1.1 X.1.2.1 d_Mo_sleep_16 rfl hl kk) (fun hl kk => lv_aload_nN X.1.1 X.1.2.1 d_Mo_sleep_16 rfl hl kk)) ?_
  refine mx_all_cons (ok_push (fun kk => lv_iconst X.1.1 X.1.2.1 d_Mo_sleep_17 (by decide) kk)) ?_
  refine mx_all_cons (ok_put (C := "HeaderScheduleModel") (T := T_Mo) (N := 40) X (mw_up in_Mo) ty_Mo tyok_Mo nm_Mo rfl 25 (by decide) (hm _ w702) (fun _ h9 => h9) rfl (tyok_Mo 25 (by decide)) mx_vZ_ok d_Mo_sleep_18) ?_
  refine mx_all_cons (ok_aload (fun hl kk => lv_aload_n X.1.1 X.1.2.1 d_Mo_sleep_21 rfl hl kk) (fun hl kk => lv_aload_nN X.1.1 X.1.2.1 d_Mo_sleep_21 rfl hl kk)) ?_
  refine mx_all_cons (ok_push (fun kk => lv_iconst X.1.1 X.1.2.1 d_Mo_sleep_22 (by decide) kk)) ?_
  refine mx_all_cons (ok_put (C := "HeaderScheduleModel") (T := T_Mo) (N := 40) X (mw_up in_Mo) ty_Mo tyok_Mo nm_Mo rfl 28 (by decide) (hm _ w705) (fun _ h9 => h9) rfl (tyok_Mo 28 (by decide)) mx_vI_ok d_Mo_sleep_23) ?_
  refine mx_all_cons (ok_push (fun kk => lv_iconst X.1.1 X.1.2.1 d_Mo_sleep_26 (by decide) kk)) ?_
  refine mx_all_cons (ok_zret X hr hlk d_Mo_sleep_27) ?_
  exact mx_all_nil
theorem st_Mo_sleep_0 (zz : Nat × Nat) (r : mx_T) (ls : mx_L) (st : List Value) (h : mx_H) (c n : Nat) : mx_G r (t_Mo_sleep zz) 0 ls st h c n = (o_aload 1 0) r (mx_G r (t_Mo_sleep zz)) 0 ls st h c n := mx_G_eq (tm_Mo_sleep zz) r 0 ls st h c n
theorem st_Mo_sleep_1 (zz : Nat × Nat) (r : mx_T) (ls : mx_L) (st : List Value) (h : mx_H) (c n : Nat) : mx_G r (t_Mo_sleep zz) 1 ls st h c n = (o_get 10 24) r (mx_G r (t_Mo_sleep zz)) 1 ls st h c n := mx_G_eq (tm_Mo_sleep zz) r 1 ls st h c n
theorem st_Mo_sleep_4 (zz : Nat × Nat) (r : mx_T) (ls : mx_L) (st : List Value) (h : mx_H) (c n : Nat) : mx_G r (t_Mo_sleep zz) 4 ls st h c n = (o_if 14 (fun x => x = 0)) r (mx_G r (t_Mo_sleep zz)) 4 ls st h c n := mx_G_eq (tm_Mo_sleep zz) r 4 ls st h c n
theorem st_Mo_sleep_7 (zz : Nat × Nat) (r : mx_T) (ls : mx_L) (st : List Value) (h : mx_H) (c n : Nat) : mx_G r (t_Mo_sleep zz) 7 ls st h c n = (o_aload 1 0) r (mx_G r (t_Mo_sleep zz)) 7 ls st h c n := mx_G_eq (tm_Mo_sleep zz) r 7 ls st h c n
theorem st_Mo_sleep_8 (zz : Nat × Nat) (r : mx_T) (ls : mx_L) (st : List Value) (h : mx_H) (c n : Nat) : mx_G r (t_Mo_sleep zz) 8 ls st h c n = (o_get 10 25) r (mx_G r (t_Mo_sleep zz)) 8 ls st h c n := mx_G_eq (tm_Mo_sleep zz) r 8 ls st h c n
theorem st_Mo_sleep_11 (zz : Nat × Nat) (r : mx_T) (ls : mx_L) (st : List Value) (h : mx_H) (c n : Nat) : mx_G r (t_Mo_sleep zz) 11 ls st h c n = (o_if 16 (fun x => x = 0)) r (mx_G r (t_Mo_sleep zz)) 11 ls st h c n := mx_G_eq (tm_Mo_sleep zz) r 11 ls st h c n
theorem st_Mo_sleep_14 (zz : Nat × Nat) (r : mx_T) (ls : mx_L) (st : List Value) (h : mx_H) (c n : Nat) : mx_G r (t_Mo_sleep zz) 14 ls st h c n = (o_push 1 (.int 0)) r (mx_G r (t_Mo_sleep zz)) 14 ls st h c n := mx_G_eq (tm_Mo_sleep zz) r 14 ls st h c n
theorem st_Mo_sleep_15 (zz : Nat × Nat) (r : mx_T) (ls : mx_L) (st : List Value) (h : mx_H) (c n : Nat) : mx_G r (t_Mo_sleep zz) 15 ls st h c n = (o_zret) r (mx_G r (t_Mo_sleep zz)) 15 ls st h c n := mx_G_eq (tm_Mo_sleep zz) r 15 ls st h c n
theorem st_Mo_sleep_16 (zz : Nat × Nat) (r : mx_T) (ls : mx_L) (st : List Value) (h : mx_H) (c n : Nat) : mx_G r (t_Mo_sleep zz) 16 ls st h c n = (o_aload 1 0) r (mx_G r (t_Mo_sleep zz)) 16 ls st h c n := mx_G_eq (tm_Mo_sleep zz) r 16 ls st h c n
theorem st_Mo_sleep_17 (zz : Nat × Nat) (r : mx_T) (ls : mx_L) (st : List Value) (h : mx_H) (c n : Nat) : mx_G r (t_Mo_sleep zz) 17 ls st h c n = (o_push 1 (.int 1)) r (mx_G r (t_Mo_sleep zz)) 17 ls st h c n := mx_G_eq (tm_Mo_sleep zz) r 17 ls st h c n
theorem st_Mo_sleep_18 (zz : Nat × Nat) (r : mx_T) (ls : mx_L) (st : List Value) (h : mx_H) (c n : Nat) : mx_G r (t_Mo_sleep zz) 18 ls st h c n = (o_put 10 25 mx_vZ) r (mx_G r (t_Mo_sleep zz)) 18 ls st h c n := mx_G_eq (tm_Mo_sleep zz) r 18 ls st h c n
theorem st_Mo_sleep_21 (zz : Nat × Nat) (r : mx_T) (ls : mx_L) (st : List Value) (h : mx_H) (c n : Nat) : mx_G r (t_Mo_sleep zz) 21 ls st h c n = (o_aload 1 0) r (mx_G r (t_Mo_sleep zz)) 21 ls st h c n := mx_G_eq (tm_Mo_sleep zz) r 21 ls st h c n
theorem st_Mo_sleep_22 (zz : Nat × Nat) (r : mx_T) (ls : mx_L) (st : List Value) (h : mx_H) (c n : Nat) : mx_G r (t_Mo_sleep zz) 22 ls st h c n = (o_push 1 (.int 0)) r (mx_G r (t_Mo_sleep zz)) 22 ls st h c n := mx_G_eq (tm_Mo_sleep zz) r 22 ls st h c n
theorem st_Mo_sleep_23 (zz : Nat × Nat) (r : mx_T) (ls : mx_L) (st : List Value) (h : mx_H) (c n : Nat) : mx_G r (t_Mo_sleep zz) 23 ls st h c n = (o_put 10 28 mx_vI) r (mx_G r (t_Mo_sleep zz)) 23 ls st h c n := mx_G_eq (tm_Mo_sleep zz) r 23 ls st h c n
theorem st_Mo_sleep_26 (zz : Nat × Nat) (r : mx_T) (ls : mx_L) (st : List Value) (h : mx_H) (c n : Nat) : mx_G r (t_Mo_sleep zz) 26 ls st h c n = (o_push 1 (.int 1)) r (mx_G r (t_Mo_sleep zz)) 26 ls st h c n := mx_G_eq (tm_Mo_sleep zz) r 26 ls st h c n
theorem st_Mo_sleep_27 (zz : Nat × Nat) (r : mx_T) (ls : mx_L) (st : List Value) (h : mx_H) (c n : Nat) : mx_G r (t_Mo_sleep zz) 27 ls st h c n = (o_zret) r (mx_G r (t_Mo_sleep zz)) 27 ls st h c n := mx_G_eq (tm_Mo_sleep zz) r 27 ls st h c n
theorem d_Mo_wake_0 : decode c_Mo_wake 0 = .ok (.aload_n 0, 1) := by decide +kernel
theorem d_Mo_wake_1 : decode c_Mo_wake 1 = .ok (.getfield 185, 3) := by decide +kernel
theorem d_Mo_wake_4 : decode c_Mo_wake 4 = .ok (.ifCond .ne 5, 3) := by decide +kernel
theorem d_Mo_wake_7 : decode c_Mo_wake 7 = .ok (.iconst 0, 1) := by decide +kernel
theorem d_Mo_wake_8 : decode c_Mo_wake 8 = .ok (.ireturn, 1) := by decide +kernel
theorem d_Mo_wake_9 : decode c_Mo_wake 9 = .ok (.aload_n 0, 1) := by decide +kernel
theorem d_Mo_wake_10 : decode c_Mo_wake 10 = .ok (.iconst 0, 1) := by decide +kernel
theorem d_Mo_wake_11 : decode c_Mo_wake 11 = .ok (.putfield 185, 3) := by decide +kernel
theorem d_Mo_wake_14 : decode c_Mo_wake 14 = .ok (.iconst 1, 1) := by decide +kernel
theorem d_Mo_wake_15 : decode c_Mo_wake 15 = .ok (.ireturn, 1) := by decide +kernel
def t_Mo_wake (zz : Nat × Nat) : List (Nat × mx_O) := [(0, o_aload 1 0),
  (1, o_get 10 25),
  (4, o_if 9 (fun x => ¬ x = 0)),
  (7, o_push 1 (.int 0)),
  (8, o_zret),
  (9, o_aload 1 0),
  (10, o_push 1 (.int 0)),
  (11, o_put 10 25 mx_vZ),
  (14, o_push 1 (.int 1)),
  (15, o_zret)]
set_option maxRecDepth 100000 in
theorem tm_Mo_wake (zz : Nat × Nat) : mx_All (fun _ o => mx_Mono o) (t_Mo_wake zz) := by
  refine mx_all_cons (mo_st) ?_
  refine mx_all_cons (mo_st) ?_
  refine mx_all_cons (mo_br) ?_
  refine mx_all_cons (mo_st) ?_
  refine mx_all_cons (mo_zret) ?_
  refine mx_all_cons (mo_st) ?_
  refine mx_all_cons (mo_st) ?_
  refine mx_all_cons (mo_sc) ?_
  refine mx_all_cons (mo_st) ?_
  refine mx_all_cons (mo_zret) ?_
  exact mx_all_nil
def S_Mo_wake (zz : Nat × Nat) : mx_Sp := mx_S 1 0 0 (t_Mo_wake zz)
theorem sm_Mo_wake (zz : Nat × Nat) : mx_SMono (S_Mo_wake zz) := mx_S_mono (tm_Mo_wake zz)
abbrev rm_Mo_wake : Room := { frames := 0, cells := 0, slots := 0, locals := 0 }
set_option maxHeartbeats 4000000 in
set_option maxRecDepth 100000 in
theorem m_Mo_wake (l : Launch) (zz : Nat × Nat) : mx_Met l y_Mo_wake (wsOf y_Mo_wake c_Mo_wake 1 (some .boolean)) rm_Mo_wake wcl (mx_Z zz) 0 0 (S_Mo_wake zz) := by
  refine mx_met (cc := c_Mo_wake) (ret := (some .boolean)) (by decide) rfl ?_
  intro p e s m args below meth c D A Post X hz hr hlk hnm
  have hm : ∀ w ∈ mw, w.before args s = true := fun w h => X.1.2.2.2.2 w (List.mem_cons_of_mem _ h)
  refine mx_all_cons (ok_aload (fun hl kk => lv_aload_n X.1.1 X.1.2.1 d_Mo_wake_0 rfl hl kk) (fun hl kk => lv_aload_nN X.1.1 X.1.2.1 d_Mo_wake_0 rfl hl kk)) ?_
  refine mx_all_cons (ok_get (C := "HeaderScheduleModel") (T := T_Mo) (N := 40) X (mw_up in_Mo) rfl 25 (by decide) (hm _ w702) (fun _ h9 => h9) d_Mo_wake_1) ?_
  refine mx_all_cons (ok_if (fun kt kf => lv_if_ne X.1.1 X.1.2.1 d_Mo_wake_4 (by decide) kt (fun z => kf (fun g => g z)))) ?_
  refine mx_all_cons (ok_push (fun kk => lv_iconst X.1.1 X.1.2.1 d_Mo_wake_7 (by decide) kk)) ?_
  refine mx_all_cons (ok_zret X hr hlk d_Mo_wake_8) ?_
  refine mx_all_cons (ok_aload (fun hl kk => lv_aload_n X.1.1 X.1.2.1 d_Mo_wake_9 rfl hl kk) (fun hl kk => lv_aload_nN X.1.1 X.1.2.1 d_Mo_wake_9 rfl hl kk)) ?_
  refine mx_all_cons (ok_push (fun kk => lv_iconst X.1.1 X.1.2.1 d_Mo_wake_10 (by decide) kk)) ?_
  refine mx_all_cons (ok_put (C := "HeaderScheduleModel") (T := T_Mo) (N := 40) X (mw_up in_Mo) ty_Mo tyok_Mo nm_Mo rfl 25 (by decide) (hm _ w702) (fun _ h9 => h9) rfl (tyok_Mo 25 (by decide)) mx_vZ_ok d_Mo_wake_11) ?_
  refine mx_all_cons (ok_push (fun kk => lv_iconst X.1.1 X.1.2.1 d_Mo_wake_14 (by decide) kk)) ?_
  refine mx_all_cons (ok_zret X hr hlk d_Mo_wake_15) ?_
  exact mx_all_nil
theorem st_Mo_wake_0 (zz : Nat × Nat) (r : mx_T) (ls : mx_L) (st : List Value) (h : mx_H) (c n : Nat) : mx_G r (t_Mo_wake zz) 0 ls st h c n = (o_aload 1 0) r (mx_G r (t_Mo_wake zz)) 0 ls st h c n := mx_G_eq (tm_Mo_wake zz) r 0 ls st h c n
theorem st_Mo_wake_1 (zz : Nat × Nat) (r : mx_T) (ls : mx_L) (st : List Value) (h : mx_H) (c n : Nat) : mx_G r (t_Mo_wake zz) 1 ls st h c n = (o_get 10 25) r (mx_G r (t_Mo_wake zz)) 1 ls st h c n := mx_G_eq (tm_Mo_wake zz) r 1 ls st h c n
theorem st_Mo_wake_4 (zz : Nat × Nat) (r : mx_T) (ls : mx_L) (st : List Value) (h : mx_H) (c n : Nat) : mx_G r (t_Mo_wake zz) 4 ls st h c n = (o_if 9 (fun x => ¬ x = 0)) r (mx_G r (t_Mo_wake zz)) 4 ls st h c n := mx_G_eq (tm_Mo_wake zz) r 4 ls st h c n
theorem st_Mo_wake_7 (zz : Nat × Nat) (r : mx_T) (ls : mx_L) (st : List Value) (h : mx_H) (c n : Nat) : mx_G r (t_Mo_wake zz) 7 ls st h c n = (o_push 1 (.int 0)) r (mx_G r (t_Mo_wake zz)) 7 ls st h c n := mx_G_eq (tm_Mo_wake zz) r 7 ls st h c n
theorem st_Mo_wake_8 (zz : Nat × Nat) (r : mx_T) (ls : mx_L) (st : List Value) (h : mx_H) (c n : Nat) : mx_G r (t_Mo_wake zz) 8 ls st h c n = (o_zret) r (mx_G r (t_Mo_wake zz)) 8 ls st h c n := mx_G_eq (tm_Mo_wake zz) r 8 ls st h c n
theorem st_Mo_wake_9 (zz : Nat × Nat) (r : mx_T) (ls : mx_L) (st : List Value) (h : mx_H) (c n : Nat) : mx_G r (t_Mo_wake zz) 9 ls st h c n = (o_aload 1 0) r (mx_G r (t_Mo_wake zz)) 9 ls st h c n := mx_G_eq (tm_Mo_wake zz) r 9 ls st h c n
theorem st_Mo_wake_10 (zz : Nat × Nat) (r : mx_T) (ls : mx_L) (st : List Value) (h : mx_H) (c n : Nat) : mx_G r (t_Mo_wake zz) 10 ls st h c n = (o_push 1 (.int 0)) r (mx_G r (t_Mo_wake zz)) 10 ls st h c n := mx_G_eq (tm_Mo_wake zz) r 10 ls st h c n
theorem st_Mo_wake_11 (zz : Nat × Nat) (r : mx_T) (ls : mx_L) (st : List Value) (h : mx_H) (c n : Nat) : mx_G r (t_Mo_wake zz) 11 ls st h c n = (o_put 10 25 mx_vZ) r (mx_G r (t_Mo_wake zz)) 11 ls st h c n := mx_G_eq (tm_Mo_wake zz) r 11 ls st h c n
theorem st_Mo_wake_14 (zz : Nat × Nat) (r : mx_T) (ls : mx_L) (st : List Value) (h : mx_H) (c n : Nat) : mx_G r (t_Mo_wake zz) 14 ls st h c n = (o_push 1 (.int 1)) r (mx_G r (t_Mo_wake zz)) 14 ls st h c n := mx_G_eq (tm_Mo_wake zz) r 14 ls st h c n
theorem st_Mo_wake_15 (zz : Nat × Nat) (r : mx_T) (ls : mx_L) (st : List Value) (h : mx_H) (c n : Nat) : mx_G r (t_Mo_wake zz) 15 ls st h c n = (o_zret) r (mx_G r (t_Mo_wake zz)) 15 ls st h c n := mx_G_eq (tm_Mo_wake zz) r 15 ls st h c n
