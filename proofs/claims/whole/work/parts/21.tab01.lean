theorem d_Hs_frame_0 : decode c_Hs_frame 0 = .ok (.aload_n 0, 1) := by decide +kernel
theorem d_Hs_frame_1 : decode c_Hs_frame 1 = .ok (.getfield 47, 3) := by decide +kernel
theorem d_Hs_frame_4 : decode c_Hs_frame 4 = .ok (.ifCond .ne 23, 3) := by decide +kernel
theorem d_Hs_frame_7 : decode c_Hs_frame 7 = .ok (.aload_n 0, 1) := by decide +kernel
theorem d_Hs_frame_8 : decode c_Hs_frame 8 = .ok (.getfield 10, 3) := by decide +kernel
theorem d_Hs_frame_11 : decode c_Hs_frame 11 = .ok (.invokevirtual 58, 3) := by decide +kernel
theorem d_Hs_frame_14 : decode c_Hs_frame 14 = .ok (.bipush 8, 2) := by decide +kernel
theorem d_Hs_frame_16 : decode c_Hs_frame 16 = .ok (.if_icmp .ge 11, 3) := by decide +kernel
theorem d_Hs_frame_19 : decode c_Hs_frame 19 = .ok (.aload_n 0, 1) := by decide +kernel
theorem d_Hs_frame_20 : decode c_Hs_frame 20 = .ok (.iload_n 1, 1) := by decide +kernel
theorem d_Hs_frame_21 : decode c_Hs_frame 21 = .ok (.invokevirtual 62, 3) := by decide +kernel
theorem d_Hs_frame_24 : decode c_Hs_frame 24 = .ok (.ifCond .ne 5, 3) := by decide +kernel
theorem d_Hs_frame_27 : decode c_Hs_frame 27 = .ok (.iconst (-1), 1) := by decide +kernel
theorem d_Hs_frame_28 : decode c_Hs_frame 28 = .ok (.ireturn, 1) := by decide +kernel
theorem d_Hs_frame_29 : decode c_Hs_frame 29 = .ok (.iload_n 2, 1) := by decide +kernel
theorem d_Hs_frame_30 : decode c_Hs_frame 30 = .ok (.iconst 0, 1) := by decide +kernel
theorem d_Hs_frame_31 : decode c_Hs_frame 31 = .ok (.iconst 3, 1) := by decide +kernel
theorem d_Hs_frame_32 : decode c_Hs_frame 32 = .ok (.invokestatic 66, 3) := by decide +kernel
theorem d_Hs_frame_35 : decode c_Hs_frame 35 = .ok (.ifCond .eq 13, 3) := by decide +kernel
theorem d_Hs_frame_38 : decode c_Hs_frame 38 = .ok (.iload_n 3, 1) := by decide +kernel
theorem d_Hs_frame_39 : decode c_Hs_frame 39 = .ok (.iconst 1, 1) := by decide +kernel
theorem d_Hs_frame_40 : decode c_Hs_frame 40 = .ok (.bipush 8, 2) := by decide +kernel
theorem d_Hs_frame_42 : decode c_Hs_frame 42 = .ok (.invokestatic 66, 3) := by decide +kernel
theorem d_Hs_frame_45 : decode c_Hs_frame 45 = .ok (.ifCond .ne 5, 3) := by decide +kernel
theorem d_Hs_frame_48 : decode c_Hs_frame 48 = .ok (.iconst (-1), 1) := by decide +kernel
theorem d_Hs_frame_49 : decode c_Hs_frame 49 = .ok (.ireturn, 1) := by decide +kernel
theorem d_Hs_frame_50 : decode c_Hs_frame 50 = .ok (.aload_n 0, 1) := by decide +kernel
theorem d_Hs_frame_51 : decode c_Hs_frame 51 = .ok (.getfield 10, 3) := by decide +kernel
theorem d_Hs_frame_54 : decode c_Hs_frame 54 = .ok (.invokevirtual 58, 3) := by decide +kernel
theorem d_Hs_frame_57 : decode c_Hs_frame 57 = .ok (.istore 5, 2) := by decide +kernel
theorem d_Hs_frame_59 : decode c_Hs_frame 59 = .ok (.aload_n 0, 1) := by decide +kernel
theorem d_Hs_frame_60 : decode c_Hs_frame 60 = .ok (.getfield 10, 3) := by decide +kernel
theorem d_Hs_frame_63 : decode c_Hs_frame 63 = .ok (.new 70, 3) := by decide +kernel
theorem d_Hs_frame_66 : decode c_Hs_frame 66 = .ok (.dup, 1) := by decide +kernel
theorem d_Hs_frame_67 : decode c_Hs_frame 67 = .ok (.iload 5, 2) := by decide +kernel
theorem d_Hs_frame_69 : decode c_Hs_frame 69 = .ok (.iload_n 1, 1) := by decide +kernel
theorem d_Hs_frame_70 : decode c_Hs_frame 70 = .ok (.invokestatic 72, 3) := by decide +kernel
theorem d_Hs_frame_73 : decode c_Hs_frame 73 = .ok (.iload_n 2, 1) := by decide +kernel
theorem d_Hs_frame_74 : decode c_Hs_frame 74 = .ok (.iload_n 3, 1) := by decide +kernel
theorem d_Hs_frame_75 : decode c_Hs_frame 75 = .ok (.iload 4, 2) := by decide +kernel
theorem d_Hs_frame_77 : decode c_Hs_frame 77 = .ok (.invokespecial 76, 3) := by decide +kernel
theorem d_Hs_frame_80 : decode c_Hs_frame 80 = .ok (.invokevirtual 79, 3) := by decide +kernel
theorem d_Hs_frame_83 : decode c_Hs_frame 83 = .ok (.pop, 1) := by decide +kernel
theorem d_Hs_frame_84 : decode c_Hs_frame 84 = .ok (.aload_n 0, 1) := by decide +kernel
theorem d_Hs_frame_85 : decode c_Hs_frame 85 = .ok (.getfield 25, 3) := by decide +kernel
theorem d_Hs_frame_88 : decode c_Hs_frame 88 = .ok (.iload_n 1, 1) := by decide +kernel
theorem d_Hs_frame_89 : decode c_Hs_frame 89 = .ok (.iconst 1, 1) := by decide +kernel
theorem d_Hs_frame_90 : decode c_Hs_frame 90 = .ok (.bastore, 1) := by decide +kernel
theorem d_Hs_frame_91 : decode c_Hs_frame 91 = .ok (.iload 5, 2) := by decide +kernel
theorem d_Hs_frame_93 : decode c_Hs_frame 93 = .ok (.ireturn, 1) := by decide +kernel
def t_Hs_frame (zz : Nat × Nat) : List (Nat × mx_O) := [(0, o_aload 1 0),
  (1, o_get 0 8),
  (4, o_if 27 (fun x => ¬ x = 0)),
  (7, o_aload 1 0),
  (8, o_get 0 0),
  (11, o_call 3 136 1 0 0 (mx_rv 9) (S_Al_size zz)),
  (14, o_push 2 (.int 8)),
  (16, o_icmp 27 (fun x y => y ≤ x)),
  (19, o_aload 1 0),
  (20, o_iload 1 1),
  (21, o_call 3 136 2 0 0 (mx_rv 0) (S_Hs_isFree zz)),
  (24, o_if 29 (fun x => ¬ x = 0)),
  (27, o_push 1 (.int (-1))),
  (28, o_iret),
  (29, o_iload 1 2),
  (30, o_push 1 (.int 0)),
  (31, o_push 1 (.int 3)),
  (32, o_call 3 136 3 0 0 (fun _ _ => True) (S_Hs_isWithin zz)),
  (35, o_if 48 (fun x => x = 0)),
  (38, o_iload 1 3),
  (39, o_push 1 (.int 1)),
  (40, o_push 2 (.int 8)),
  (42, o_call 3 136 3 0 0 (fun _ _ => True) (S_Hs_isWithin zz)),
  (45, o_if 50 (fun x => ¬ x = 0)),
  (48, o_push 1 (.int (-1))),
  (49, o_iret),
  (50, o_aload 1 0),
  (51, o_get 0 0),
  (54, o_call 3 136 1 0 0 (mx_rv 9) (S_Al_size zz)),
  (57, o_istore 2 5),
  (59, o_aload 1 0),
  (60, o_get 0 0),
  (63, o_new 3 136 1 8 [.int 0, .int 0, .int 0, .int 0, .int 0, .long 0, .long 0, .int 0]),
  (66, o_dup),
  (67, o_iload 2 5),
  (69, o_iload 1 1),
  (70, o_call 3 136 1 0 0 (fun _ _ => True) (S_Hs_protect zz)),
  (73, o_iload 1 2),
  (74, o_iload 1 3),
  (75, o_iload 2 4),
  (77, o_call 3 136 6 0 0 mx_rr (S_Fr_init zz)),
  (80, o_call 3 136 2 2 128 (mx_rv 9) (S_Al_add zz)),
  (83, o_pop),
  (84, o_aload 1 0),
  (85, o_get 0 4),
  (88, o_iload 1 1),
  (89, o_push 1 (.int 1)),
  (90, o_iast .boolean (vp_nar .boolean)),
  (91, o_iload 2 5),
  (93, o_iret)]
set_option maxRecDepth 100000 in
theorem tm_Hs_frame (zz : Nat × Nat) : mx_All (fun _ o => mx_Mono o) (t_Hs_frame zz) := by
  refine mx_all_cons (mo_st) ?_
  refine mx_all_cons (mo_st) ?_
  refine mx_all_cons (mo_br) ?_
  refine mx_all_cons (mo_st) ?_
  refine mx_all_cons (mo_st) ?_
  refine mx_all_cons (mo_call (sm_Al_size zz)) ?_
  refine mx_all_cons (mo_st) ?_
  refine mx_all_cons (mo_br) ?_
  refine mx_all_cons (mo_st) ?_
  refine mx_all_cons (mo_st) ?_
  refine mx_all_cons (mo_call (sm_Hs_isFree zz)) ?_
  refine mx_all_cons (mo_br) ?_
  refine mx_all_cons (mo_st) ?_
  refine mx_all_cons (mo_ret) ?_
  refine mx_all_cons (mo_st) ?_
  refine mx_all_cons (mo_st) ?_
  refine mx_all_cons (mo_st) ?_
  refine mx_all_cons (mo_call (sm_Hs_isWithin zz)) ?_
  refine mx_all_cons (mo_br) ?_
  refine mx_all_cons (mo_st) ?_
  refine mx_all_cons (mo_st) ?_
  refine mx_all_cons (mo_st) ?_
  refine mx_all_cons (mo_call (sm_Hs_isWithin zz)) ?_
  refine mx_all_cons (mo_br) ?_
  refine mx_all_cons (mo_st) ?_
  refine mx_all_cons (mo_ret) ?_
  refine mx_all_cons (mo_st) ?_
  refine mx_all_cons (mo_st) ?_
  refine mx_all_cons (mo_call (sm_Al_size zz)) ?_
  refine mx_all_cons (mo_st) ?_
  refine mx_all_cons (mo_st) ?_
  refine mx_all_cons (mo_st) ?_
  refine mx_all_cons (mo_al) ?_
  refine mx_all_cons (mo_st) ?_
  refine mx_all_cons (mo_st) ?_
  refine mx_all_cons (mo_st) ?_
  refine mx_all_cons (mo_call (sm_Hs_protect zz)) ?_
  refine mx_all_cons (mo_st) ?_
  refine mx_all_cons (mo_st) ?_
  refine mx_all_cons (mo_st) ?_
  refine mx_all_cons (mo_call (sm_Fr_init zz)) ?_
  refine mx_all_cons (mo_call (sm_Al_add zz)) ?_
  refine mx_all_cons (mo_st) ?_
  refine mx_all_cons (mo_st) ?_
  refine mx_all_cons (mo_st) ?_
  refine mx_all_cons (mo_st) ?_
  refine mx_all_cons (mo_st) ?_
  refine mx_all_cons (mo_sc) ?_
  refine mx_all_cons (mo_st) ?_
  refine mx_all_cons (mo_ret) ?_
  exact mx_all_nil
def S_Hs_frame (zz : Nat × Nat) : mx_Sp := mx_S 6 3 136 (t_Hs_frame zz)
theorem sm_Hs_frame (zz : Nat × Nat) : mx_SMono (S_Hs_frame zz) := mx_S_mono (tm_Hs_frame zz)
abbrev rm_Hs_frame : Room := { frames := 7, cells := 3, slots := 136, locals := 191 }
set_option maxHeartbeats 4000000 in
set_option maxRecDepth 100000 in
theorem m_Hs_frame (l : Launch) (zz : Nat × Nat) : mx_Met l y_Hs_frame (wsOf y_Hs_frame c_Hs_frame 6 (some .int)) rm_Hs_frame wcl (mx_Z zz) 3 136 (S_Hs_frame zz) := by
  refine mx_met (cc := c_Hs_frame) (ret := (some .int)) (by decide) rfl ?_
  intro p e s m args below meth c D A Post X hz hr hlk hnm
  have hm : ∀ w ∈ mw, w.before args s = true := fun w h => X.1.2.2.2.2 w (List.mem_cons_of_mem _ h)
  refine mx_all_cons (ok_aload (fun hl kk => lv_aload_n X.1.1 X.1.2.1 d_Hs_frame_0 rfl hl kk) (fun hl kk => lv_aload_nN X.1.1 X.1.2.1 d_Hs_frame_0 rfl hl kk)) ?_
  refine mx_all_cons (ok_get (C := "HeaderSchedule") (T := T_Hs) (N := 11) X (mw_up in_Hs) rfl 8 (by decide) (hm _ w166) (fun _ h9 => h9) d_Hs_frame_1) ?_
  refine mx_all_cons (ok_if (fun kt kf => lv_if_ne X.1.1 X.1.2.1 d_Hs_frame_4 (by decide) kt (fun z => kf (fun g => g z)))) ?_
  refine mx_all_cons (ok_aload (fun hl kk => lv_aload_n X.1.1 X.1.2.1 d_Hs_frame_7 rfl hl kk) (fun hl kk => lv_aload_nN X.1.1 X.1.2.1 d_Hs_frame_7 rfl hl kk)) ?_
  refine mx_all_cons (ok_get (C := "HeaderSchedule") (T := T_Hs) (N := 11) X (mw_up in_Hs) rfl 0 (by decide) (hm _ w158) (fun _ h9 => h9) d_Hs_frame_8) ?_
  refine mx_all_cons (ok_callV (C := "java/util/ArrayList") (T := T_Al) (N := 3) X (mx_Zok_Z zz) hz ⟨(Nat.le_of_ble_eq_true rfl), (Nat.le_of_ble_eq_true rfl)⟩ (m_Al_size l zz) ⟨mx_cwB 0 hm w199 w196 w36 rfl rfl (by decide +kernel) ⟨(Nat.le_of_ble_eq_true rfl), (Nat.le_of_ble_eq_true rfl)⟩, (hm _ w197), hm _ w198⟩ rfl d_Hs_frame_11) ?_
  refine mx_all_cons (ok_push (fun kk => lv_bipush X.1.1 X.1.2.1 d_Hs_frame_14 (by decide) kk)) ?_
  refine mx_all_cons (ok_icmp (fun kt kf => lv_icmp_ge X.1.1 X.1.2.1 d_Hs_frame_16 (by decide) kt kf)) ?_
  refine mx_all_cons (ok_aload (fun hl kk => lv_aload_n X.1.1 X.1.2.1 d_Hs_frame_19 rfl hl kk) (fun hl kk => lv_aload_nN X.1.1 X.1.2.1 d_Hs_frame_19 rfl hl kk)) ?_
  refine mx_all_cons (ok_iload (fun hl kk => lv_iload_n X.1.1 X.1.2.1 d_Hs_frame_20 rfl hl kk)) ?_
  refine mx_all_cons (ok_callV (C := "HeaderSchedule") (T := T_Hs) (N := 11) X (mx_Zok_Z zz) hz ⟨(Nat.le_of_ble_eq_true rfl), (Nat.le_of_ble_eq_true rfl)⟩ (m_Hs_isFree l zz) ⟨mx_cwB 1 hm w203 w200 w33 rfl rfl (by decide +kernel) ⟨(Nat.le_of_ble_eq_true rfl), (Nat.le_of_ble_eq_true rfl)⟩, (hm _ w202), hm _ w0⟩ rfl d_Hs_frame_21) ?_
  refine mx_all_cons (ok_if (fun kt kf => lv_if_ne X.1.1 X.1.2.1 d_Hs_frame_24 (by decide) kt (fun z => kf (fun g => g z)))) ?_
  refine mx_all_cons (ok_push (fun kk => lv_iconst X.1.1 X.1.2.1 d_Hs_frame_27 (by decide) kk)) ?_
  refine mx_all_cons (ok_iret X hr hlk d_Hs_frame_28) ?_
  refine mx_all_cons (ok_iload (fun hl kk => lv_iload_n X.1.1 X.1.2.1 d_Hs_frame_29 rfl hl kk)) ?_
  refine mx_all_cons (ok_push (fun kk => lv_iconst X.1.1 X.1.2.1 d_Hs_frame_30 (by decide) kk)) ?_
  refine mx_all_cons (ok_push (fun kk => lv_iconst X.1.1 X.1.2.1 d_Hs_frame_31 (by decide) kk)) ?_
  refine mx_all_cons (ok_callS X (mx_Zok_Z zz) hz ⟨(Nat.le_of_ble_eq_true rfl), (Nat.le_of_ble_eq_true rfl)⟩ (m_Hs_isWithin l zz) ⟨mx_cwB 3 hm w206 w204 w33 rfl rfl (by decide +kernel) ⟨(Nat.le_of_ble_eq_true rfl), (Nat.le_of_ble_eq_true rfl)⟩, (hm _ w205)⟩ d_Hs_frame_32) ?_
  refine mx_all_cons (ok_if (fun kt kf => lv_if_eq X.1.1 X.1.2.1 d_Hs_frame_35 (by decide) kt kf)) ?_
  refine mx_all_cons (ok_iload (fun hl kk => lv_iload_n X.1.1 X.1.2.1 d_Hs_frame_38 rfl hl kk)) ?_
  refine mx_all_cons (ok_push (fun kk => lv_iconst X.1.1 X.1.2.1 d_Hs_frame_39 (by decide) kk)) ?_
  refine mx_all_cons (ok_push (fun kk => lv_bipush X.1.1 X.1.2.1 d_Hs_frame_40 (by decide) kk)) ?_
  refine mx_all_cons (ok_callS X (mx_Zok_Z zz) hz ⟨(Nat.le_of_ble_eq_true rfl), (Nat.le_of_ble_eq_true rfl)⟩ (m_Hs_isWithin l zz) ⟨mx_cwB 3 hm w206 w204 w33 rfl rfl (by decide +kernel) ⟨(Nat.le_of_ble_eq_true rfl), (Nat.le_of_ble_eq_true rfl)⟩, (hm _ w205)⟩ d_Hs_frame_42) ?_
  refine mx_all_cons (ok_if (fun kt kf => lv_if_ne X.1.1 X.1.2.1 d_Hs_frame_45 (by decide) kt (fun z => kf (fun g => g z)))) ?_
  refine mx_all_cons (ok_push (fun kk => lv_iconst X.1.1 X.1.2.1 d_Hs_frame_48 (by decide) kk)) ?_
  refine mx_all_cons (ok_iret X hr hlk d_Hs_frame_49) ?_
  refine mx_all_cons (ok_aload (fun hl kk => lv_aload_n X.1.1 X.1.2.1 d_Hs_frame_50 rfl hl kk) (fun hl kk => lv_aload_nN X.1.1 X.1.2.1 d_Hs_frame_50 rfl hl kk)) ?_
  refine mx_all_cons (ok_get (C := "HeaderSchedule") (T := T_Hs) (N := 11) X (mw_up in_Hs) rfl 0 (by decide) (hm _ w158) (fun _ h9 => h9) d_Hs_frame_51) ?_
  refine mx_all_cons (ok_callV (C := "java/util/ArrayList") (T := T_Al) (N := 3) X (mx_Zok_Z zz) hz ⟨(Nat.le_of_ble_eq_true rfl), (Nat.le_of_ble_eq_true rfl)⟩ (m_Al_size l zz) ⟨mx_cwB 0 hm w199 w196 w36 rfl rfl (by decide +kernel) ⟨(Nat.le_of_ble_eq_true rfl), (Nat.le_of_ble_eq_true rfl)⟩, (hm _ w197), hm _ w198⟩ rfl d_Hs_frame_54) ?_
  refine mx_all_cons (ok_istore (fun hl kk => lv_istore X.1.1 X.1.2.1 d_Hs_frame_57 hl (by decide) rfl kk)) ?_
  refine mx_all_cons (ok_aload (fun hl kk => lv_aload_n X.1.1 X.1.2.1 d_Hs_frame_59 rfl hl kk) (fun hl kk => lv_aload_nN X.1.1 X.1.2.1 d_Hs_frame_59 rfl hl kk)) ?_
  refine mx_all_cons (ok_get (C := "HeaderSchedule") (T := T_Hs) (N := 11) X (mw_up in_Hs) rfl 0 (by decide) (hm _ w158) (fun _ h9 => h9) d_Hs_frame_60) ?_
  refine mx_all_cons (ok_new (C := "HeaderSchedule$Frame") (T := T_Fr) X ⟨(Nat.le_of_ble_eq_true rfl), (Nat.le_of_ble_eq_true rfl)⟩ (mw_up in_Fr) ty_Fr tyok_Fr rfl (hm _ w207) (hm _ w208) (hm _ w41) (by decide) d_Hs_frame_63) ?_
  refine mx_all_cons (ok_dup X d_Hs_frame_66) ?_
  refine mx_all_cons (ok_iload (fun hl kk => lv_iload X.1.1 X.1.2.1 d_Hs_frame_67 hl kk)) ?_
  refine mx_all_cons (ok_iload (fun hl kk => lv_iload_n X.1.1 X.1.2.1 d_Hs_frame_69 rfl hl kk)) ?_
  refine mx_all_cons (ok_callS X (mx_Zok_Z zz) hz ⟨(Nat.le_of_ble_eq_true rfl), (Nat.le_of_ble_eq_true rfl)⟩ (m_Hs_protect l zz) ⟨mx_cwB 1 hm w211 w209 w33 rfl rfl (by decide +kernel) ⟨(Nat.le_of_ble_eq_true rfl), (Nat.le_of_ble_eq_true rfl)⟩, (hm _ w210)⟩ d_Hs_frame_70) ?_
  refine mx_all_cons (ok_iload (fun hl kk => lv_iload_n X.1.1 X.1.2.1 d_Hs_frame_73 rfl hl kk)) ?_
  refine mx_all_cons (ok_iload (fun hl kk => lv_iload_n X.1.1 X.1.2.1 d_Hs_frame_74 rfl hl kk)) ?_
  refine mx_all_cons (ok_iload (fun hl kk => lv_iload X.1.1 X.1.2.1 d_Hs_frame_75 hl kk)) ?_
  refine mx_all_cons (ok_callI X (mx_Zok_Z zz) hz ⟨(Nat.le_of_ble_eq_true rfl), (Nat.le_of_ble_eq_true rfl)⟩ (m_Fr_init l zz) ⟨mx_cwB 5 hm w217 w215 w41 rfl rfl (by decide +kernel) ⟨(Nat.le_of_ble_eq_true rfl), (Nat.le_of_ble_eq_true rfl)⟩, rfl, (hm _ w216)⟩ d_Hs_frame_77) ?_
  refine mx_all_cons (ok_callV (C := "java/util/ArrayList") (T := T_Al) (N := 3) X (mx_Zok_Z zz) hz ⟨(Nat.le_of_ble_eq_true rfl), (Nat.le_of_ble_eq_true rfl)⟩ (m_Al_add l zz) ⟨mx_cwB 1 hm w260 w257 w36 rfl rfl (by decide +kernel) ⟨(Nat.le_of_ble_eq_true rfl), (Nat.le_of_ble_eq_true rfl)⟩, (hm _ w258), hm _ w259⟩ rfl d_Hs_frame_80) ?_
  refine mx_all_cons (ok_pop X d_Hs_frame_83) ?_
  refine mx_all_cons (ok_aload (fun hl kk => lv_aload_n X.1.1 X.1.2.1 d_Hs_frame_84 rfl hl kk) (fun hl kk => lv_aload_nN X.1.1 X.1.2.1 d_Hs_frame_84 rfl hl kk)) ?_
  refine mx_all_cons (ok_get (C := "HeaderSchedule") (T := T_Hs) (N := 11) X (mw_up in_Hs) rfl 4 (by decide) (hm _ w162) (fun _ h9 => h9) d_Hs_frame_85) ?_
  refine mx_all_cons (ok_iload (fun hl kk => lv_iload_n X.1.1 X.1.2.1 d_Hs_frame_88 rfl hl kk)) ?_
  refine mx_all_cons (ok_push (fun kk => lv_iconst X.1.1 X.1.2.1 d_Hs_frame_89 (by decide) kk)) ?_
  refine mx_all_cons (ok_zast X d_Hs_frame_90) ?_
  refine mx_all_cons (ok_iload (fun hl kk => lv_iload X.1.1 X.1.2.1 d_Hs_frame_91 hl kk)) ?_
  refine mx_all_cons (ok_iret X hr hlk d_Hs_frame_93) ?_
  exact mx_all_nil
theorem st_Hs_frame_0 (zz : Nat × Nat) (r : mx_T) (ls : mx_L) (st : List Value) (h : mx_H) (c n : Nat) : mx_G r (t_Hs_frame zz) 0 ls st h c n = (o_aload 1 0) r (mx_G r (t_Hs_frame zz)) 0 ls st h c n := mx_G_eq (tm_Hs_frame zz) r 0 ls st h c n
theorem st_Hs_frame_1 (zz : Nat × Nat) (r : mx_T) (ls : mx_L) (st : List Value) (h : mx_H) (c n : Nat) : mx_G r (t_Hs_frame zz) 1 ls st h c n = (o_get 0 8) r (mx_G r (t_Hs_frame zz)) 1 ls st h c n := mx_G_eq (tm_Hs_frame zz) r 1 ls st h c n
theorem st_Hs_frame_4 (zz : Nat × Nat) (r : mx_T) (ls : mx_L) (st : List Value) (h : mx_H) (c n : Nat) : mx_G r (t_Hs_frame zz) 4 ls st h c n = (o_if 27 (fun x => ¬ x = 0)) r (mx_G r (t_Hs_frame zz)) 4 ls st h c n := mx_G_eq (tm_Hs_frame zz) r 4 ls st h c n
theorem st_Hs_frame_7 (zz : Nat × Nat) (r : mx_T) (ls : mx_L) (st : List Value) (h : mx_H) (c n : Nat) : mx_G r (t_Hs_frame zz) 7 ls st h c n = (o_aload 1 0) r (mx_G r (t_Hs_frame zz)) 7 ls st h c n := mx_G_eq (tm_Hs_frame zz) r 7 ls st h c n
theorem st_Hs_frame_8 (zz : Nat × Nat) (r : mx_T) (ls : mx_L) (st : List Value) (h : mx_H) (c n : Nat) : mx_G r (t_Hs_frame zz) 8 ls st h c n = (o_get 0 0) r (mx_G r (t_Hs_frame zz)) 8 ls st h c n := mx_G_eq (tm_Hs_frame zz) r 8 ls st h c n
theorem st_Hs_frame_11 (zz : Nat × Nat) (r : mx_T) (ls : mx_L) (st : List Value) (h : mx_H) (c n : Nat) : mx_G r (t_Hs_frame zz) 11 ls st h c n = (o_call 3 136 1 0 0 (mx_rv 9) (S_Al_size zz)) r (mx_G r (t_Hs_frame zz)) 11 ls st h c n := mx_G_eq (tm_Hs_frame zz) r 11 ls st h c n
theorem st_Hs_frame_14 (zz : Nat × Nat) (r : mx_T) (ls : mx_L) (st : List Value) (h : mx_H) (c n : Nat) : mx_G r (t_Hs_frame zz) 14 ls st h c n = (o_push 2 (.int 8)) r (mx_G r (t_Hs_frame zz)) 14 ls st h c n := mx_G_eq (tm_Hs_frame zz) r 14 ls st h c n
theorem st_Hs_frame_16 (zz : Nat × Nat) (r : mx_T) (ls : mx_L) (st : List Value) (h : mx_H) (c n : Nat) : mx_G r (t_Hs_frame zz) 16 ls st h c n = (o_icmp 27 (fun x y => y ≤ x)) r (mx_G r (t_Hs_frame zz)) 16 ls st h c n := mx_G_eq (tm_Hs_frame zz) r 16 ls st h c n
theorem st_Hs_frame_19 (zz : Nat × Nat) (r : mx_T) (ls : mx_L) (st : List Value) (h : mx_H) (c n : Nat) : mx_G r (t_Hs_frame zz) 19 ls st h c n = (o_aload 1 0) r (mx_G r (t_Hs_frame zz)) 19 ls st h c n := mx_G_eq (tm_Hs_frame zz) r 19 ls st h c n
theorem st_Hs_frame_20 (zz : Nat × Nat) (r : mx_T) (ls : mx_L) (st : List Value) (h : mx_H) (c n : Nat) : mx_G r (t_Hs_frame zz) 20 ls st h c n = (o_iload 1 1) r (mx_G r (t_Hs_frame zz)) 20 ls st h c n := mx_G_eq (tm_Hs_frame zz) r 20 ls st h c n
theorem st_Hs_frame_21 (zz : Nat × Nat) (r : mx_T) (ls : mx_L) (st : List Value) (h : mx_H) (c n : Nat) : mx_G r (t_Hs_frame zz) 21 ls st h c n = (o_call 3 136 2 0 0 (mx_rv 0) (S_Hs_isFree zz)) r (mx_G r (t_Hs_frame zz)) 21 ls st h c n := mx_G_eq (tm_Hs_frame zz) r 21 ls st h c n
theorem st_Hs_frame_24 (zz : Nat × Nat) (r : mx_T) (ls : mx_L) (st : List Value) (h : mx_H) (c n : Nat) : mx_G r (t_Hs_frame zz) 24 ls st h c n = (o_if 29 (fun x => ¬ x = 0)) r (mx_G r (t_Hs_frame zz)) 24 ls st h c n := mx_G_eq (tm_Hs_frame zz) r 24 ls st h c n
theorem st_Hs_frame_27 (zz : Nat × Nat) (r : mx_T) (ls : mx_L) (st : List Value) (h : mx_H) (c n : Nat) : mx_G r (t_Hs_frame zz) 27 ls st h c n = (o_push 1 (.int (-1))) r (mx_G r (t_Hs_frame zz)) 27 ls st h c n := mx_G_eq (tm_Hs_frame zz) r 27 ls st h c n
theorem st_Hs_frame_28 (zz : Nat × Nat) (r : mx_T) (ls : mx_L) (st : List Value) (h : mx_H) (c n : Nat) : mx_G r (t_Hs_frame zz) 28 ls st h c n = (o_iret) r (mx_G r (t_Hs_frame zz)) 28 ls st h c n := mx_G_eq (tm_Hs_frame zz) r 28 ls st h c n
theorem st_Hs_frame_29 (zz : Nat × Nat) (r : mx_T) (ls : mx_L) (st : List Value) (h : mx_H) (c n : Nat) : mx_G r (t_Hs_frame zz) 29 ls st h c n = (o_iload 1 2) r (mx_G r (t_Hs_frame zz)) 29 ls st h c n := mx_G_eq (tm_Hs_frame zz) r 29 ls st h c n
theorem st_Hs_frame_30 (zz : Nat × Nat) (r : mx_T) (ls : mx_L) (st : List Value) (h : mx_H) (c n : Nat) : mx_G r (t_Hs_frame zz) 30 ls st h c n = (o_push 1 (.int 0)) r (mx_G r (t_Hs_frame zz)) 30 ls st h c n := mx_G_eq (tm_Hs_frame zz) r 30 ls st h c n
theorem st_Hs_frame_31 (zz : Nat × Nat) (r : mx_T) (ls : mx_L) (st : List Value) (h : mx_H) (c n : Nat) : mx_G r (t_Hs_frame zz) 31 ls st h c n = (o_push 1 (.int 3)) r (mx_G r (t_Hs_frame zz)) 31 ls st h c n := mx_G_eq (tm_Hs_frame zz) r 31 ls st h c n
theorem st_Hs_frame_32 (zz : Nat × Nat) (r : mx_T) (ls : mx_L) (st : List Value) (h : mx_H) (c n : Nat) : mx_G r (t_Hs_frame zz) 32 ls st h c n = (o_call 3 136 3 0 0 (fun _ _ => True) (S_Hs_isWithin zz)) r (mx_G r (t_Hs_frame zz)) 32 ls st h c n := mx_G_eq (tm_Hs_frame zz) r 32 ls st h c n
theorem st_Hs_frame_35 (zz : Nat × Nat) (r : mx_T) (ls : mx_L) (st : List Value) (h : mx_H) (c n : Nat) : mx_G r (t_Hs_frame zz) 35 ls st h c n = (o_if 48 (fun x => x = 0)) r (mx_G r (t_Hs_frame zz)) 35 ls st h c n := mx_G_eq (tm_Hs_frame zz) r 35 ls st h c n
theorem st_Hs_frame_38 (zz : Nat × Nat) (r : mx_T) (ls : mx_L) (st : List Value) (h : mx_H) (c n : Nat) : mx_G r (t_Hs_frame zz) 38 ls st h c n = (o_iload 1 3) r (mx_G r (t_Hs_frame zz)) 38 ls st h c n := mx_G_eq (tm_Hs_frame zz) r 38 ls st h c n
theorem st_Hs_frame_39 (zz : Nat × Nat) (r : mx_T) (ls : mx_L) (st : List Value) (h : mx_H) (c n : Nat) : mx_G r (t_Hs_frame zz) 39 ls st h c n = (o_push 1 (.int 1)) r (mx_G r (t_Hs_frame zz)) 39 ls st h c n := mx_G_eq (tm_Hs_frame zz) r 39 ls st h c n
theorem st_Hs_frame_40 (zz : Nat × Nat) (r : mx_T) (ls : mx_L) (st : List Value) (h : mx_H) (c n : Nat) : mx_G r (t_Hs_frame zz) 40 ls st h c n = (o_push 2 (.int 8)) r (mx_G r (t_Hs_frame zz)) 40 ls st h c n := mx_G_eq (tm_Hs_frame zz) r 40 ls st h c n
theorem st_Hs_frame_42 (zz : Nat × Nat) (r : mx_T) (ls : mx_L) (st : List Value) (h : mx_H) (c n : Nat) : mx_G r (t_Hs_frame zz) 42 ls st h c n = (o_call 3 136 3 0 0 (fun _ _ => True) (S_Hs_isWithin zz)) r (mx_G r (t_Hs_frame zz)) 42 ls st h c n := mx_G_eq (tm_Hs_frame zz) r 42 ls st h c n
theorem st_Hs_frame_45 (zz : Nat × Nat) (r : mx_T) (ls : mx_L) (st : List Value) (h : mx_H) (c n : Nat) : mx_G r (t_Hs_frame zz) 45 ls st h c n = (o_if 50 (fun x => ¬ x = 0)) r (mx_G r (t_Hs_frame zz)) 45 ls st h c n := mx_G_eq (tm_Hs_frame zz) r 45 ls st h c n
theorem st_Hs_frame_48 (zz : Nat × Nat) (r : mx_T) (ls : mx_L) (st : List Value) (h : mx_H) (c n : Nat) : mx_G r (t_Hs_frame zz) 48 ls st h c n = (o_push 1 (.int (-1))) r (mx_G r (t_Hs_frame zz)) 48 ls st h c n := mx_G_eq (tm_Hs_frame zz) r 48 ls st h c n
theorem st_Hs_frame_49 (zz : Nat × Nat) (r : mx_T) (ls : mx_L) (st : List Value) (h : mx_H) (c n : Nat) : mx_G r (t_Hs_frame zz) 49 ls st h c n = (o_iret) r (mx_G r (t_Hs_frame zz)) 49 ls st h c n := mx_G_eq (tm_Hs_frame zz) r 49 ls st h c n
theorem st_Hs_frame_50 (zz : Nat × Nat) (r : mx_T) (ls : mx_L) (st : List Value) (h : mx_H) (c n : Nat) : mx_G r (t_Hs_frame zz) 50 ls st h c n = (o_aload 1 0) r (mx_G r (t_Hs_frame zz)) 50 ls st h c n := mx_G_eq (tm_Hs_frame zz) r 50 ls st h c n
theorem st_Hs_frame_51 (zz : Nat × Nat) (r : mx_T) (ls : mx_L) (st : List Value) (h : mx_H) (c n : Nat) : mx_G r (t_Hs_frame zz) 51 ls st h c n = (o_get 0 0) r (mx_G r (t_Hs_frame zz)) 51 ls st h c n := mx_G_eq (tm_Hs_frame zz) r 51 ls st h c n
theorem st_Hs_frame_54 (zz : Nat × Nat) (r : mx_T) (ls : mx_L) (st : List Value) (h : mx_H) (c n : Nat) : mx_G r (t_Hs_frame zz) 54 ls st h c n = (o_call 3 136 1 0 0 (mx_rv 9) (S_Al_size zz)) r (mx_G r (t_Hs_frame zz)) 54 ls st h c n := mx_G_eq (tm_Hs_frame zz) r 54 ls st h c n
theorem st_Hs_frame_57 (zz : Nat × Nat) (r : mx_T) (ls : mx_L) (st : List Value) (h : mx_H) (c n : Nat) : mx_G r (t_Hs_frame zz) 57 ls st h c n = (o_istore 2 5) r (mx_G r (t_Hs_frame zz)) 57 ls st h c n := mx_G_eq (tm_Hs_frame zz) r 57 ls st h c n
theorem st_Hs_frame_59 (zz : Nat × Nat) (r : mx_T) (ls : mx_L) (st : List Value) (h : mx_H) (c n : Nat) : mx_G r (t_Hs_frame zz) 59 ls st h c n = (o_aload 1 0) r (mx_G r (t_Hs_frame zz)) 59 ls st h c n := mx_G_eq (tm_Hs_frame zz) r 59 ls st h c n
theorem st_Hs_frame_60 (zz : Nat × Nat) (r : mx_T) (ls : mx_L) (st : List Value) (h : mx_H) (c n : Nat) : mx_G r (t_Hs_frame zz) 60 ls st h c n = (o_get 0 0) r (mx_G r (t_Hs_frame zz)) 60 ls st h c n := mx_G_eq (tm_Hs_frame zz) r 60 ls st h c n
theorem st_Hs_frame_63 (zz : Nat × Nat) (r : mx_T) (ls : mx_L) (st : List Value) (h : mx_H) (c n : Nat) : mx_G r (t_Hs_frame zz) 63 ls st h c n = (o_new 3 136 1 8 [.int 0, .int 0, .int 0, .int 0, .int 0, .long 0, .long 0, .int 0]) r (mx_G r (t_Hs_frame zz)) 63 ls st h c n := mx_G_eq (tm_Hs_frame zz) r 63 ls st h c n
theorem st_Hs_frame_66 (zz : Nat × Nat) (r : mx_T) (ls : mx_L) (st : List Value) (h : mx_H) (c n : Nat) : mx_G r (t_Hs_frame zz) 66 ls st h c n = (o_dup) r (mx_G r (t_Hs_frame zz)) 66 ls st h c n := mx_G_eq (tm_Hs_frame zz) r 66 ls st h c n
theorem st_Hs_frame_67 (zz : Nat × Nat) (r : mx_T) (ls : mx_L) (st : List Value) (h : mx_H) (c n : Nat) : mx_G r (t_Hs_frame zz) 67 ls st h c n = (o_iload 2 5) r (mx_G r (t_Hs_frame zz)) 67 ls st h c n := mx_G_eq (tm_Hs_frame zz) r 67 ls st h c n
theorem st_Hs_frame_69 (zz : Nat × Nat) (r : mx_T) (ls : mx_L) (st : List Value) (h : mx_H) (c n : Nat) : mx_G r (t_Hs_frame zz) 69 ls st h c n = (o_iload 1 1) r (mx_G r (t_Hs_frame zz)) 69 ls st h c n := mx_G_eq (tm_Hs_frame zz) r 69 ls st h c n
theorem st_Hs_frame_70 (zz : Nat × Nat) (r : mx_T) (ls : mx_L) (st : List Value) (h : mx_H) (c n : Nat) : mx_G r (t_Hs_frame zz) 70 ls st h c n = (o_call 3 136 1 0 0 (fun _ _ => True) (S_Hs_protect zz)) r (mx_G r (t_Hs_frame zz)) 70 ls st h c n := mx_G_eq (tm_Hs_frame zz) r 70 ls st h c n
theorem st_Hs_frame_73 (zz : Nat × Nat) (r : mx_T) (ls : mx_L) (st : List Value) (h : mx_H) (c n : Nat) : mx_G r (t_Hs_frame zz) 73 ls st h c n = (o_iload 1 2) r (mx_G r (t_Hs_frame zz)) 73 ls st h c n := mx_G_eq (tm_Hs_frame zz) r 73 ls st h c n
theorem st_Hs_frame_74 (zz : Nat × Nat) (r : mx_T) (ls : mx_L) (st : List Value) (h : mx_H) (c n : Nat) : mx_G r (t_Hs_frame zz) 74 ls st h c n = (o_iload 1 3) r (mx_G r (t_Hs_frame zz)) 74 ls st h c n := mx_G_eq (tm_Hs_frame zz) r 74 ls st h c n
theorem st_Hs_frame_75 (zz : Nat × Nat) (r : mx_T) (ls : mx_L) (st : List Value) (h : mx_H) (c n : Nat) : mx_G r (t_Hs_frame zz) 75 ls st h c n = (o_iload 2 4) r (mx_G r (t_Hs_frame zz)) 75 ls st h c n := mx_G_eq (tm_Hs_frame zz) r 75 ls st h c n
theorem st_Hs_frame_77 (zz : Nat × Nat) (r : mx_T) (ls : mx_L) (st : List Value) (h : mx_H) (c n : Nat) : mx_G r (t_Hs_frame zz) 77 ls st h c n = (o_call 3 136 6 0 0 mx_rr (S_Fr_init zz)) r (mx_G r (t_Hs_frame zz)) 77 ls st h c n := mx_G_eq (tm_Hs_frame zz) r 77 ls st h c n
theorem st_Hs_frame_80 (zz : Nat × Nat) (r : mx_T) (ls : mx_L) (st : List Value) (h : mx_H) (c n : Nat) : mx_G r (t_Hs_frame zz) 80 ls st h c n = (o_call 3 136 2 2 128 (mx_rv 9) (S_Al_add zz)) r (mx_G r (t_Hs_frame zz)) 80 ls st h c n := mx_G_eq (tm_Hs_frame zz) r 80 ls st h c n
theorem st_Hs_frame_83 (zz : Nat × Nat) (r : mx_T) (ls : mx_L) (st : List Value) (h : mx_H) (c n : Nat) : mx_G r (t_Hs_frame zz) 83 ls st h c n = (o_pop) r (mx_G r (t_Hs_frame zz)) 83 ls st h c n := mx_G_eq (tm_Hs_frame zz) r 83 ls st h c n
theorem st_Hs_frame_84 (zz : Nat × Nat) (r : mx_T) (ls : mx_L) (st : List Value) (h : mx_H) (c n : Nat) : mx_G r (t_Hs_frame zz) 84 ls st h c n = (o_aload 1 0) r (mx_G r (t_Hs_frame zz)) 84 ls st h c n := mx_G_eq (tm_Hs_frame zz) r 84 ls st h c n
theorem st_Hs_frame_85 (zz : Nat × Nat) (r : mx_T) (ls : mx_L) (st : List Value) (h : mx_H) (c n : Nat) : mx_G r (t_Hs_frame zz) 85 ls st h c n = (o_get 0 4) r (mx_G r (t_Hs_frame zz)) 85 ls st h c n := mx_G_eq (tm_Hs_frame zz) r 85 ls st h c n
theorem st_Hs_frame_88 (zz : Nat × Nat) (r : mx_T) (ls : mx_L) (st : List Value) (h : mx_H) (c n : Nat) : mx_G r (t_Hs_frame zz) 88 ls st h c n = (o_iload 1 1) r (mx_G r (t_Hs_frame zz)) 88 ls st h c n := mx_G_eq (tm_Hs_frame zz) r 88 ls st h c n
theorem st_Hs_frame_89 (zz : Nat × Nat) (r : mx_T) (ls : mx_L) (st : List Value) (h : mx_H) (c n : Nat) : mx_G r (t_Hs_frame zz) 89 ls st h c n = (o_push 1 (.int 1)) r (mx_G r (t_Hs_frame zz)) 89 ls st h c n := mx_G_eq (tm_Hs_frame zz) r 89 ls st h c n
theorem st_Hs_frame_90 (zz : Nat × Nat) (r : mx_T) (ls : mx_L) (st : List Value) (h : mx_H) (c n : Nat) : mx_G r (t_Hs_frame zz) 90 ls st h c n = (o_iast .boolean (vp_nar .boolean)) r (mx_G r (t_Hs_frame zz)) 90 ls st h c n := mx_G_eq (tm_Hs_frame zz) r 90 ls st h c n
theorem st_Hs_frame_91 (zz : Nat × Nat) (r : mx_T) (ls : mx_L) (st : List Value) (h : mx_H) (c n : Nat) : mx_G r (t_Hs_frame zz) 91 ls st h c n = (o_iload 2 5) r (mx_G r (t_Hs_frame zz)) 91 ls st h c n := mx_G_eq (tm_Hs_frame zz) r 91 ls st h c n
theorem st_Hs_frame_93 (zz : Nat × Nat) (r : mx_T) (ls : mx_L) (st : List Value) (h : mx_H) (c n : Nat) : mx_G r (t_Hs_frame zz) 93 ls st h c n = (o_iret) r (mx_G r (t_Hs_frame zz)) 93 ls st h c n := mx_G_eq (tm_Hs_frame zz) r 93 ls st h c n
theorem d_Pr_checkIndex_0 : decode c_Pr_checkIndex 0 = .ok (.iload_n 0, 1) := by decide +kernel
theorem d_Pr_checkIndex_1 : decode c_Pr_checkIndex 1 = .ok (.ifCond .lt 8, 3) := by decide +kernel
theorem d_Pr_checkIndex_4 : decode c_Pr_checkIndex 4 = .ok (.iload_n 0, 1) := by decide +kernel
theorem d_Pr_checkIndex_5 : decode c_Pr_checkIndex 5 = .ok (.iload_n 1, 1) := by decide +kernel
theorem d_Pr_checkIndex_6 : decode c_Pr_checkIndex 6 = .ok (.if_icmp .lt 10, 3) := by decide +kernel
theorem d_Pr_checkIndex_9 : decode c_Pr_checkIndex 9 = .ok (.aload_n 2, 1) := by decide +kernel
theorem d_Pr_checkIndex_10 : decode c_Pr_checkIndex 10 = .ok (.iload_n 0, 1) := by decide +kernel
theorem d_Pr_checkIndex_11 : decode c_Pr_checkIndex 11 = .ok (.iload_n 1, 1) := by decide +kernel
theorem d_Pr_checkIndex_16 : decode c_Pr_checkIndex 16 = .ok (.iload_n 0, 1) := by decide +kernel
theorem d_Pr_checkIndex_17 : decode c_Pr_checkIndex 17 = .ok (.ireturn, 1) := by decide +kernel
def t_Pr_checkIndex (zz : Nat × Nat) : List (Nat × mx_O) := [(0, o_iload 1 0),
  (1, o_if 9 (fun x => x < 0)),
  (4, o_iload 1 0),
  (5, o_iload 1 1),
  (6, o_icmp 16 (fun x y => x < y)),
  (9, o_aload 1 2),
  (10, o_iload 1 0),
  (11, o_iload 1 1),
  (16, o_iload 1 0),
  (17, o_iret)]
set_option maxRecDepth 100000 in
theorem tm_Pr_checkIndex (zz : Nat × Nat) : mx_All (fun _ o => mx_Mono o) (t_Pr_checkIndex zz) := by
  refine mx_all_cons (mo_st) ?_
  refine mx_all_cons (mo_br) ?_
  refine mx_all_cons (mo_st) ?_
  refine mx_all_cons (mo_st) ?_
  refine mx_all_cons (mo_br) ?_
  refine mx_all_cons (mo_st) ?_
  refine mx_all_cons (mo_st) ?_
  refine mx_all_cons (mo_st) ?_
  refine mx_all_cons (mo_st) ?_
  refine mx_all_cons (mo_ret) ?_
  exact mx_all_nil
def S_Pr_checkIndex (zz : Nat × Nat) : mx_Sp := mx_S 3 0 0 (t_Pr_checkIndex zz)
theorem sm_Pr_checkIndex (zz : Nat × Nat) : mx_SMono (S_Pr_checkIndex zz) := mx_S_mono (tm_Pr_checkIndex zz)
abbrev rm_Pr_checkIndex : Room := { frames := 0, cells := 0, slots := 0, locals := 0 }
set_option maxHeartbeats 4000000 in
set_option maxRecDepth 100000 in
theorem m_Pr_checkIndex (l : Launch) (zz : Nat × Nat) : mx_Met l y_Pr_checkIndex (wsOf y_Pr_checkIndex c_Pr_checkIndex 3 (some .int)) rm_Pr_checkIndex wcl (mx_Z zz) 0 0 (S_Pr_checkIndex zz) := by
  refine mx_met (cc := c_Pr_checkIndex) (ret := (some .int)) (by decide) rfl ?_
  intro p e s m args below meth c D A Post X hz hr hlk hnm
  have hm : ∀ w ∈ mw, w.before args s = true := fun w h => X.1.2.2.2.2 w (List.mem_cons_of_mem _ h)
  refine mx_all_cons (ok_iload (fun hl kk => lv_iload_n X.1.1 X.1.2.1 d_Pr_checkIndex_0 rfl hl kk)) ?_
  refine mx_all_cons (ok_if (fun kt kf => lv_if_lt X.1.1 X.1.2.1 d_Pr_checkIndex_1 (by decide) kt kf)) ?_
  refine mx_all_cons (ok_iload (fun hl kk => lv_iload_n X.1.1 X.1.2.1 d_Pr_checkIndex_4 rfl hl kk)) ?_
  refine mx_all_cons (ok_iload (fun hl kk => lv_iload_n X.1.1 X.1.2.1 d_Pr_checkIndex_5 rfl hl kk)) ?_
  refine mx_all_cons (ok_icmp (fun kt kf => lv_icmp_lt X.1.1 X.1.2.1 d_Pr_checkIndex_6 (by decide) kt kf)) ?_
  refine mx_all_cons (ok_aload (fun hl kk => lv_aload_n X.1.1 X.1.2.1 d_Pr_checkIndex_9 rfl hl kk) (fun hl kk => lv_aload_nN X.1.1 X.1.2.1 d_Pr_checkIndex_9 rfl hl kk)) ?_
  refine mx_all_cons (ok_iload (fun hl kk => lv_iload_n X.1.1 X.1.2.1 d_Pr_checkIndex_10 rfl hl kk)) ?_
  refine mx_all_cons (ok_iload (fun hl kk => lv_iload_n X.1.1 X.1.2.1 d_Pr_checkIndex_11 rfl hl kk)) ?_
  refine mx_all_cons (ok_iload (fun hl kk => lv_iload_n X.1.1 X.1.2.1 d_Pr_checkIndex_16 rfl hl kk)) ?_
  refine mx_all_cons (ok_iret X hr hlk d_Pr_checkIndex_17) ?_
  exact mx_all_nil
theorem st_Pr_checkIndex_0 (zz : Nat × Nat) (r : mx_T) (ls : mx_L) (st : List Value) (h : mx_H) (c n : Nat) : mx_G r (t_Pr_checkIndex zz) 0 ls st h c n = (o_iload 1 0) r (mx_G r (t_Pr_checkIndex zz)) 0 ls st h c n := mx_G_eq (tm_Pr_checkIndex zz) r 0 ls st h c n
theorem st_Pr_checkIndex_1 (zz : Nat × Nat) (r : mx_T) (ls : mx_L) (st : List Value) (h : mx_H) (c n : Nat) : mx_G r (t_Pr_checkIndex zz) 1 ls st h c n = (o_if 9 (fun x => x < 0)) r (mx_G r (t_Pr_checkIndex zz)) 1 ls st h c n := mx_G_eq (tm_Pr_checkIndex zz) r 1 ls st h c n
theorem st_Pr_checkIndex_4 (zz : Nat × Nat) (r : mx_T) (ls : mx_L) (st : List Value) (h : mx_H) (c n : Nat) : mx_G r (t_Pr_checkIndex zz) 4 ls st h c n = (o_iload 1 0) r (mx_G r (t_Pr_checkIndex zz)) 4 ls st h c n := mx_G_eq (tm_Pr_checkIndex zz) r 4 ls st h c n
theorem st_Pr_checkIndex_5 (zz : Nat × Nat) (r : mx_T) (ls : mx_L) (st : List Value) (h : mx_H) (c n : Nat) : mx_G r (t_Pr_checkIndex zz) 5 ls st h c n = (o_iload 1 1) r (mx_G r (t_Pr_checkIndex zz)) 5 ls st h c n := mx_G_eq (tm_Pr_checkIndex zz) r 5 ls st h c n
theorem st_Pr_checkIndex_6 (zz : Nat × Nat) (r : mx_T) (ls : mx_L) (st : List Value) (h : mx_H) (c n : Nat) : mx_G r (t_Pr_checkIndex zz) 6 ls st h c n = (o_icmp 16 (fun x y => x < y)) r (mx_G r (t_Pr_checkIndex zz)) 6 ls st h c n := mx_G_eq (tm_Pr_checkIndex zz) r 6 ls st h c n
theorem st_Pr_checkIndex_9 (zz : Nat × Nat) (r : mx_T) (ls : mx_L) (st : List Value) (h : mx_H) (c n : Nat) : mx_G r (t_Pr_checkIndex zz) 9 ls st h c n = (o_aload 1 2) r (mx_G r (t_Pr_checkIndex zz)) 9 ls st h c n := mx_G_eq (tm_Pr_checkIndex zz) r 9 ls st h c n
theorem st_Pr_checkIndex_10 (zz : Nat × Nat) (r : mx_T) (ls : mx_L) (st : List Value) (h : mx_H) (c n : Nat) : mx_G r (t_Pr_checkIndex zz) 10 ls st h c n = (o_iload 1 0) r (mx_G r (t_Pr_checkIndex zz)) 10 ls st h c n := mx_G_eq (tm_Pr_checkIndex zz) r 10 ls st h c n
theorem st_Pr_checkIndex_11 (zz : Nat × Nat) (r : mx_T) (ls : mx_L) (st : List Value) (h : mx_H) (c n : Nat) : mx_G r (t_Pr_checkIndex zz) 11 ls st h c n = (o_iload 1 1) r (mx_G r (t_Pr_checkIndex zz)) 11 ls st h c n := mx_G_eq (tm_Pr_checkIndex zz) r 11 ls st h c n
theorem st_Pr_checkIndex_16 (zz : Nat × Nat) (r : mx_T) (ls : mx_L) (st : List Value) (h : mx_H) (c n : Nat) : mx_G r (t_Pr_checkIndex zz) 16 ls st h c n = (o_iload 1 0) r (mx_G r (t_Pr_checkIndex zz)) 16 ls st h c n := mx_G_eq (tm_Pr_checkIndex zz) r 16 ls st h c n
theorem st_Pr_checkIndex_17 (zz : Nat × Nat) (r : mx_T) (ls : mx_L) (st : List Value) (h : mx_H) (c n : Nat) : mx_G r (t_Pr_checkIndex zz) 17 ls st h c n = (o_iret) r (mx_G r (t_Pr_checkIndex zz)) 17 ls st h c n := mx_G_eq (tm_Pr_checkIndex zz) r 17 ls st h c n
theorem d_Ob_checkIndex_0 : decode c_Ob_checkIndex 0 = .ok (.iload_n 0, 1) := by decide +kernel
theorem d_Ob_checkIndex_1 : decode c_Ob_checkIndex 1 = .ok (.iload_n 1, 1) := by decide +kernel
theorem d_Ob_checkIndex_2 : decode c_Ob_checkIndex 2 = .ok (.aconst_null, 1) := by decide +kernel
theorem d_Ob_checkIndex_3 : decode c_Ob_checkIndex 3 = .ok (.invokestatic 105, 3) := by decide +kernel
theorem d_Ob_checkIndex_6 : decode c_Ob_checkIndex 6 = .ok (.ireturn, 1) := by decide +kernel
def t_Ob_checkIndex (zz : Nat × Nat) : List (Nat × mx_O) := [(0, o_iload 1 0),
  (1, o_iload 1 1),
  (2, o_push 1 .null),
  (3, o_call 0 0 3 0 0 (fun _ _ => True) (S_Pr_checkIndex zz)),
  (6, o_iret)]
set_option maxRecDepth 100000 in
theorem tm_Ob_checkIndex (zz : Nat × Nat) : mx_All (fun _ o => mx_Mono o) (t_Ob_checkIndex zz) := by
  refine mx_all_cons (mo_st) ?_
  refine mx_all_cons (mo_st) ?_
  refine mx_all_cons (mo_st) ?_
  refine mx_all_cons (mo_call (sm_Pr_checkIndex zz)) ?_
  refine mx_all_cons (mo_ret) ?_
  exact mx_all_nil
def S_Ob_checkIndex (zz : Nat × Nat) : mx_Sp := mx_S 2 0 0 (t_Ob_checkIndex zz)
theorem sm_Ob_checkIndex (zz : Nat × Nat) : mx_SMono (S_Ob_checkIndex zz) := mx_S_mono (tm_Ob_checkIndex zz)
abbrev rm_Ob_checkIndex : Room := { frames := 1, cells := 0, slots := 0, locals := 22 }
set_option maxHeartbeats 4000000 in
set_option maxRecDepth 100000 in
theorem m_Ob_checkIndex (l : Launch) (zz : Nat × Nat) : mx_Met l y_Ob_checkIndex (wsOf y_Ob_checkIndex c_Ob_checkIndex 2 (some .int)) rm_Ob_checkIndex wcl (mx_Z zz) 0 0 (S_Ob_checkIndex zz) := by
  refine mx_met (cc := c_Ob_checkIndex) (ret := (some .int)) (by decide) rfl ?_
  intro p e s m args below meth c D A Post X hz hr hlk hnm
  have hm : ∀ w ∈ mw, w.before args s = true := fun w h => X.1.2.2.2.2 w (List.mem_cons_of_mem _ h)
  refine mx_all_cons (ok_iload (fun hl kk => lv_iload_n X.1.1 X.1.2.1 d_Ob_checkIndex_0 rfl hl kk)) ?_
  refine mx_all_cons (ok_iload (fun hl kk => lv_iload_n X.1.1 X.1.2.1 d_Ob_checkIndex_1 rfl hl kk)) ?_
  refine mx_all_cons (ok_push (fun kk => lv_null X.1.1 X.1.2.1 d_Ob_checkIndex_2 kk)) ?_
  refine mx_all_cons (ok_callS X (mx_Zok_Z zz) hz ⟨(Nat.le_of_ble_eq_true rfl), (Nat.le_of_ble_eq_true rfl)⟩ (m_Pr_checkIndex l zz) ⟨mx_cwB 3 hm w332 w330 w47 rfl rfl (by decide +kernel) ⟨(Nat.le_of_ble_eq_true rfl), (Nat.le_of_ble_eq_true rfl)⟩, (hm _ w331)⟩ d_Ob_checkIndex_3) ?_
  refine mx_all_cons (ok_iret X hr hlk d_Ob_checkIndex_6) ?_
  exact mx_all_nil
theorem st_Ob_checkIndex_0 (zz : Nat × Nat) (r : mx_T) (ls : mx_L) (st : List Value) (h : mx_H) (c n : Nat) : mx_G r (t_Ob_checkIndex zz) 0 ls st h c n = (o_iload 1 0) r (mx_G r (t_Ob_checkIndex zz)) 0 ls st h c n := mx_G_eq (tm_Ob_checkIndex zz) r 0 ls st h c n
theorem st_Ob_checkIndex_1 (zz : Nat × Nat) (r : mx_T) (ls : mx_L) (st : List Value) (h : mx_H) (c n : Nat) : mx_G r (t_Ob_checkIndex zz) 1 ls st h c n = (o_iload 1 1) r (mx_G r (t_Ob_checkIndex zz)) 1 ls st h c n := mx_G_eq (tm_Ob_checkIndex zz) r 1 ls st h c n
theorem st_Ob_checkIndex_2 (zz : Nat × Nat) (r : mx_T) (ls : mx_L) (st : List Value) (h : mx_H) (c n : Nat) : mx_G r (t_Ob_checkIndex zz) 2 ls st h c n = (o_push 1 .null) r (mx_G r (t_Ob_checkIndex zz)) 2 ls st h c n := mx_G_eq (tm_Ob_checkIndex zz) r 2 ls st h c n
theorem st_Ob_checkIndex_3 (zz : Nat × Nat) (r : mx_T) (ls : mx_L) (st : List Value) (h : mx_H) (c n : Nat) : mx_G r (t_Ob_checkIndex zz) 3 ls st h c n = (o_call 0 0 3 0 0 (fun _ _ => True) (S_Pr_checkIndex zz)) r (mx_G r (t_Ob_checkIndex zz)) 3 ls st h c n := mx_G_eq (tm_Ob_checkIndex zz) r 3 ls st h c n
theorem st_Ob_checkIndex_6 (zz : Nat × Nat) (r : mx_T) (ls : mx_L) (st : List Value) (h : mx_H) (c n : Nat) : mx_G r (t_Ob_checkIndex zz) 6 ls st h c n = (o_iret) r (mx_G r (t_Ob_checkIndex zz)) 6 ls st h c n := mx_G_eq (tm_Ob_checkIndex zz) r 6 ls st h c n
theorem d_Al_elementData_0 : decode c_Al_elementData 0 = .ok (.aload_n 0, 1) := by decide +kernel
theorem d_Al_elementData_1 : decode c_Al_elementData 1 = .ok (.getfield 9, 3) := by decide +kernel
theorem d_Al_elementData_4 : decode c_Al_elementData 4 = .ok (.iload_n 1, 1) := by decide +kernel
theorem d_Al_elementData_5 : decode c_Al_elementData 5 = .ok (.aaload, 1) := by decide +kernel
theorem d_Al_elementData_6 : decode c_Al_elementData 6 = .ok (.areturn, 1) := by decide +kernel
def t_Al_elementData (zz : Nat × Nat) : List (Nat × mx_O) := [(0, o_aload 1 0),
  (1, o_get 9 1),
  (4, o_iload 1 1),
  (5, o_aald),
  (6, o_aret)]
set_option maxRecDepth 100000 in
theorem tm_Al_elementData (zz : Nat × Nat) : mx_All (fun _ o => mx_Mono o) (t_Al_elementData zz) := by
  refine mx_all_cons (mo_st) ?_
  refine mx_all_cons (mo_st) ?_
  refine mx_all_cons (mo_st) ?_
  refine mx_all_cons (mo_sc) ?_
  refine mx_all_cons (mo_ret) ?_
  exact mx_all_nil
def S_Al_elementData (zz : Nat × Nat) : mx_Sp := mx_S 2 0 0 (t_Al_elementData zz)
theorem sm_Al_elementData (zz : Nat × Nat) : mx_SMono (S_Al_elementData zz) := mx_S_mono (tm_Al_elementData zz)
abbrev rm_Al_elementData : Room := { frames := 0, cells := 0, slots := 0, locals := 0 }
set_option maxHeartbeats 4000000 in
set_option maxRecDepth 100000 in
theorem m_Al_elementData (l : Launch) (zz : Nat × Nat) : mx_Met l y_Al_elementData (wsOf y_Al_elementData c_Al_elementData 2 (some (.object "java/lang/Object"))) rm_Al_elementData wcl (mx_Z zz) 0 0 (S_Al_elementData zz) := by
  refine mx_met (cc := c_Al_elementData) (ret := (some (.object "java/lang/Object"))) (by decide) rfl ?_
  intro p e s m args below meth c D A Post X hz hr hlk hnm
  have hm : ∀ w ∈ mw, w.before args s = true := fun w h => X.1.2.2.2.2 w (List.mem_cons_of_mem _ h)
  refine mx_all_cons (ok_aload (fun hl kk => lv_aload_n X.1.1 X.1.2.1 d_Al_elementData_0 rfl hl kk) (fun hl kk => lv_aload_nN X.1.1 X.1.2.1 d_Al_elementData_0 rfl hl kk)) ?_
  refine mx_all_cons (ok_get (C := "java/util/ArrayList") (T := T_Al) (N := 3) X (mw_up in_Al) rfl 1 (by decide) (hm _ w74) (fun _ h9 => h9) d_Al_elementData_1) ?_
  refine mx_all_cons (ok_iload (fun hl kk => lv_iload_n X.1.1 X.1.2.1 d_Al_elementData_4 rfl hl kk)) ?_
  refine mx_all_cons (ok_aald X d_Al_elementData_5) ?_
  refine mx_all_cons (ok_aret X hr (by first | exact Or.inl ⟨_, rfl⟩ | exact Or.inr ⟨_, rfl⟩) hlk d_Al_elementData_6) ?_
  exact mx_all_nil
theorem st_Al_elementData_0 (zz : Nat × Nat) (r : mx_T) (ls : mx_L) (st : List Value) (h : mx_H) (c n : Nat) : mx_G r (t_Al_elementData zz) 0 ls st h c n = (o_aload 1 0) r (mx_G r (t_Al_elementData zz)) 0 ls st h c n := mx_G_eq (tm_Al_elementData zz) r 0 ls st h c n
theorem st_Al_elementData_1 (zz : Nat × Nat) (r : mx_T) (ls : mx_L) (st : List Value) (h : mx_H) (c n : Nat) : mx_G r (t_Al_elementData zz) 1 ls st h c n = (o_get 9 1) r (mx_G r (t_Al_elementData zz)) 1 ls st h c n := mx_G_eq (tm_Al_elementData zz) r 1 ls st h c n
theorem st_Al_elementData_4 (zz : Nat × Nat) (r : mx_T) (ls : mx_L) (st : List Value) (h : mx_H) (c n : Nat) : mx_G r (t_Al_elementData zz) 4 ls st h c n = (o_iload 1 1) r (mx_G r (t_Al_elementData zz)) 4 ls st h c n := mx_G_eq (tm_Al_elementData zz) r 4 ls st h c n
theorem st_Al_elementData_5 (zz : Nat × Nat) (r : mx_T) (ls : mx_L) (st : List Value) (h : mx_H) (c n : Nat) : mx_G r (t_Al_elementData zz) 5 ls st h c n = (o_aald) r (mx_G r (t_Al_elementData zz)) 5 ls st h c n := mx_G_eq (tm_Al_elementData zz) r 5 ls st h c n
theorem st_Al_elementData_6 (zz : Nat × Nat) (r : mx_T) (ls : mx_L) (st : List Value) (h : mx_H) (c n : Nat) : mx_G r (t_Al_elementData zz) 6 ls st h c n = (o_aret) r (mx_G r (t_Al_elementData zz)) 6 ls st h c n := mx_G_eq (tm_Al_elementData zz) r 6 ls st h c n
theorem d_Al_get_0 : decode c_Al_get 0 = .ok (.iload_n 1, 1) := by decide +kernel
theorem d_Al_get_1 : decode c_Al_get 1 = .ok (.aload_n 0, 1) := by decide +kernel
theorem d_Al_get_2 : decode c_Al_get 2 = .ok (.getfield 48, 3) := by decide +kernel
theorem d_Al_get_5 : decode c_Al_get 5 = .ok (.invokestatic 118, 3) := by decide +kernel
theorem d_Al_get_8 : decode c_Al_get 8 = .ok (.pop, 1) := by decide +kernel
theorem d_Al_get_9 : decode c_Al_get 9 = .ok (.aload_n 0, 1) := by decide +kernel
theorem d_Al_get_10 : decode c_Al_get 10 = .ok (.iload_n 1, 1) := by decide +kernel
theorem d_Al_get_11 : decode c_Al_get 11 = .ok (.invokevirtual 123, 3) := by decide +kernel
theorem d_Al_get_14 : decode c_Al_get 14 = .ok (.areturn, 1) := by decide +kernel
def t_Al_get (zz : Nat × Nat) : List (Nat × mx_O) := [(0, o_iload 1 1),
  (1, o_aload 1 0),
  (2, o_get 9 2),
  (5, o_call 0 0 2 0 0 (fun _ _ => True) (S_Ob_checkIndex zz)),
  (8, o_pop),
  (9, o_aload 1 0),
  (10, o_iload 1 1),
  (11, o_call 0 0 2 0 0 (mx_rv 9) (S_Al_elementData zz)),
  (14, o_aret)]
set_option maxRecDepth 100000 in
theorem tm_Al_get (zz : Nat × Nat) : mx_All (fun _ o => mx_Mono o) (t_Al_get zz) := by
  refine mx_all_cons (mo_st) ?_
  refine mx_all_cons (mo_st) ?_
  refine mx_all_cons (mo_st) ?_
  refine mx_all_cons (mo_call (sm_Ob_checkIndex zz)) ?_
  refine mx_all_cons (mo_st) ?_
  refine mx_all_cons (mo_st) ?_
  refine mx_all_cons (mo_st) ?_
  refine mx_all_cons (mo_call (sm_Al_elementData zz)) ?_
  refine mx_all_cons (mo_ret) ?_
  exact mx_all_nil
def S_Al_get (zz : Nat × Nat) : mx_Sp := mx_S 2 0 0 (t_Al_get zz)
theorem sm_Al_get (zz : Nat × Nat) : mx_SMono (S_Al_get zz) := mx_S_mono (tm_Al_get zz)
abbrev rm_Al_get : Room := { frames := 2, cells := 0, slots := 0, locals := 43 }
set_option maxHeartbeats 4000000 in
set_option maxRecDepth 100000 in
theorem m_Al_get (l : Launch) (zz : Nat × Nat) : mx_Met l y_Al_get (wsOf y_Al_get c_Al_get 2 (some (.object "java/lang/Object"))) rm_Al_get wcl (mx_Z zz) 0 0 (S_Al_get zz) := by
  refine mx_met (cc := c_Al_get) (ret := (some (.object "java/lang/Object"))) (by decide) rfl ?_
  intro p e s m args below meth c D A Post X hz hr hlk hnm
  have hm : ∀ w ∈ mw, w.before args s = true := fun w h => X.1.2.2.2.2 w (List.mem_cons_of_mem _ h)
  refine mx_all_cons (ok_iload (fun hl kk => lv_iload_n X.1.1 X.1.2.1 d_Al_get_0 rfl hl kk)) ?_
  refine mx_all_cons (ok_aload (fun hl kk => lv_aload_n X.1.1 X.1.2.1 d_Al_get_1 rfl hl kk) (fun hl kk => lv_aload_nN X.1.1 X.1.2.1 d_Al_get_1 rfl hl kk)) ?_
  refine mx_all_cons (ok_get (C := "java/util/ArrayList") (T := T_Al) (N := 3) X (mw_up in_Al) rfl 2 (by decide) (hm _ w75) (fun _ h9 => h9) d_Al_get_2) ?_
  refine mx_all_cons (ok_callS X (mx_Zok_Z zz) hz ⟨(Nat.le_of_ble_eq_true rfl), (Nat.le_of_ble_eq_true rfl)⟩ (m_Ob_checkIndex l zz) ⟨mx_cwB 2 hm w329 w327 w46 rfl rfl (by decide +kernel) ⟨(Nat.le_of_ble_eq_true rfl), (Nat.le_of_ble_eq_true rfl)⟩, (hm _ w328)⟩ d_Al_get_5) ?_
  refine mx_all_cons (ok_pop X d_Al_get_8) ?_
  refine mx_all_cons (ok_aload (fun hl kk => lv_aload_n X.1.1 X.1.2.1 d_Al_get_9 rfl hl kk) (fun hl kk => lv_aload_nN X.1.1 X.1.2.1 d_Al_get_9 rfl hl kk)) ?_
  refine mx_all_cons (ok_iload (fun hl kk => lv_iload_n X.1.1 X.1.2.1 d_Al_get_10 rfl hl kk)) ?_
  refine mx_all_cons (ok_callV (C := "java/util/ArrayList") (T := T_Al) (N := 3) X (mx_Zok_Z zz) hz ⟨(Nat.le_of_ble_eq_true rfl), (Nat.le_of_ble_eq_true rfl)⟩ (m_Al_elementData l zz) ⟨mx_cwB 1 hm w336 w333 w36 rfl rfl (by decide +kernel) ⟨(Nat.le_of_ble_eq_true rfl), (Nat.le_of_ble_eq_true rfl)⟩, (hm _ w334), hm _ w335⟩ rfl d_Al_get_11) ?_
  refine mx_all_cons (ok_aret X hr (by first | exact Or.inl ⟨_, rfl⟩ | exact Or.inr ⟨_, rfl⟩) hlk d_Al_get_14) ?_
  exact mx_all_nil
theorem st_Al_get_0 (zz : Nat × Nat) (r : mx_T) (ls : mx_L) (st : List Value) (h : mx_H) (c n : Nat) : mx_G r (t_Al_get zz) 0 ls st h c n = (o_iload 1 1) r (mx_G r (t_Al_get zz)) 0 ls st h c n := mx_G_eq (tm_Al_get zz) r 0 ls st h c n
theorem st_Al_get_1 (zz : Nat × Nat) (r : mx_T) (ls : mx_L) (st : List Value) (h : mx_H) (c n : Nat) : mx_G r (t_Al_get zz) 1 ls st h c n = (o_aload 1 0) r (mx_G r (t_Al_get zz)) 1 ls st h c n := mx_G_eq (tm_Al_get zz) r 1 ls st h c n
theorem st_Al_get_2 (zz : Nat × Nat) (r : mx_T) (ls : mx_L) (st : List Value) (h : mx_H) (c n : Nat) : mx_G r (t_Al_get zz) 2 ls st h c n = (o_get 9 2) r (mx_G r (t_Al_get zz)) 2 ls st h c n := mx_G_eq (tm_Al_get zz) r 2 ls st h c n
theorem st_Al_get_5 (zz : Nat × Nat) (r : mx_T) (ls : mx_L) (st : List Value) (h : mx_H) (c n : Nat) : mx_G r (t_Al_get zz) 5 ls st h c n = (o_call 0 0 2 0 0 (fun _ _ => True) (S_Ob_checkIndex zz)) r (mx_G r (t_Al_get zz)) 5 ls st h c n := mx_G_eq (tm_Al_get zz) r 5 ls st h c n
theorem st_Al_get_8 (zz : Nat × Nat) (r : mx_T) (ls : mx_L) (st : List Value) (h : mx_H) (c n : Nat) : mx_G r (t_Al_get zz) 8 ls st h c n = (o_pop) r (mx_G r (t_Al_get zz)) 8 ls st h c n := mx_G_eq (tm_Al_get zz) r 8 ls st h c n
theorem st_Al_get_9 (zz : Nat × Nat) (r : mx_T) (ls : mx_L) (st : List Value) (h : mx_H) (c n : Nat) : mx_G r (t_Al_get zz) 9 ls st h c n = (o_aload 1 0) r (mx_G r (t_Al_get zz)) 9 ls st h c n := mx_G_eq (tm_Al_get zz) r 9 ls st h c n
theorem st_Al_get_10 (zz : Nat × Nat) (r : mx_T) (ls : mx_L) (st : List Value) (h : mx_H) (c n : Nat) : mx_G r (t_Al_get zz) 10 ls st h c n = (o_iload 1 1) r (mx_G r (t_Al_get zz)) 10 ls st h c n := mx_G_eq (tm_Al_get zz) r 10 ls st h c n
theorem st_Al_get_11 (zz : Nat × Nat) (r : mx_T) (ls : mx_L) (st : List Value) (h : mx_H) (c n : Nat) : mx_G r (t_Al_get zz) 11 ls st h c n = (o_call 0 0 2 0 0 (mx_rv 9) (S_Al_elementData zz)) r (mx_G r (t_Al_get zz)) 11 ls st h c n := mx_G_eq (tm_Al_get zz) r 11 ls st h c n
theorem st_Al_get_14 (zz : Nat × Nat) (r : mx_T) (ls : mx_L) (st : List Value) (h : mx_H) (c n : Nat) : mx_G r (t_Al_get zz) 14 ls st h c n = (o_aret) r (mx_G r (t_Al_get zz)) 14 ls st h c n := mx_G_eq (tm_Al_get zz) r 14 ls st h c n
theorem d_Hs_frameAt_0 : decode c_Hs_frameAt 0 = .ok (.iload_n 1, 1) := by decide +kernel
theorem d_Hs_frameAt_1 : decode c_Hs_frameAt 1 = .ok (.iconst 0, 1) := by decide +kernel
theorem d_Hs_frameAt_2 : decode c_Hs_frameAt 2 = .ok (.aload_n 0, 1) := by decide +kernel
theorem d_Hs_frameAt_3 : decode c_Hs_frameAt 3 = .ok (.getfield 10, 3) := by decide +kernel
theorem d_Hs_frameAt_6 : decode c_Hs_frameAt 6 = .ok (.invokevirtual 58, 3) := by decide +kernel
theorem d_Hs_frameAt_9 : decode c_Hs_frameAt 9 = .ok (.iconst 1, 1) := by decide +kernel
theorem d_Hs_frameAt_10 : decode c_Hs_frameAt 10 = .ok (.isub, 1) := by decide +kernel
theorem d_Hs_frameAt_11 : decode c_Hs_frameAt 11 = .ok (.invokestatic 66, 3) := by decide +kernel
theorem d_Hs_frameAt_14 : decode c_Hs_frameAt 14 = .ok (.ifCond .eq 17, 3) := by decide +kernel
theorem d_Hs_frameAt_17 : decode c_Hs_frameAt 17 = .ok (.aload_n 0, 1) := by decide +kernel
theorem d_Hs_frameAt_18 : decode c_Hs_frameAt 18 = .ok (.getfield 10, 3) := by decide +kernel
theorem d_Hs_frameAt_21 : decode c_Hs_frameAt 21 = .ok (.iload_n 1, 1) := by decide +kernel
theorem d_Hs_frameAt_22 : decode c_Hs_frameAt 22 = .ok (.invokevirtual 213, 3) := by decide +kernel
theorem d_Hs_frameAt_25 : decode c_Hs_frameAt 25 = .ok (.checkcast 70, 3) := by decide +kernel
theorem d_Hs_frameAt_28 : decode c_Hs_frameAt 28 = .ok (.goto 4, 3) := by decide +kernel
theorem d_Hs_frameAt_31 : decode c_Hs_frameAt 31 = .ok (.aconst_null, 1) := by decide +kernel
theorem d_Hs_frameAt_32 : decode c_Hs_frameAt 32 = .ok (.areturn, 1) := by decide +kernel
def t_Hs_frameAt (zz : Nat × Nat) : List (Nat × mx_O) := [(0, o_iload 1 1),
  (1, o_push 1 (.int 0)),
  (2, o_aload 1 0),
  (3, o_get 0 0),
  (6, o_call 0 0 1 0 0 (mx_rv 9) (S_Al_size zz)),
  (9, o_push 1 (.int 1)),
  (10, o_ii (fun x y => x - y)),
  (11, o_call 0 0 3 0 0 (fun _ _ => True) (S_Hs_isWithin zz)),
  (14, o_if 31 (fun x => x = 0)),
  (17, o_aload 1 0),
  (18, o_get 0 0),
  (21, o_iload 1 1),
  (22, o_call 0 0 2 0 0 (mx_rv 9) (S_Al_get zz)),
  (25, o_cast 1),
  (28, o_goto 32),
  (31, o_push 1 .null),
  (32, o_aret)]
set_option maxRecDepth 100000 in
theorem tm_Hs_frameAt (zz : Nat × Nat) : mx_All (fun _ o => mx_Mono o) (t_Hs_frameAt zz) := by
  refine mx_all_cons (mo_st) ?_
  refine mx_all_cons (mo_st) ?_
  refine mx_all_cons (mo_st) ?_
  refine mx_all_cons (mo_st) ?_
  refine mx_all_cons (mo_call (sm_Al_size zz)) ?_
  refine mx_all_cons (mo_st) ?_
  refine mx_all_cons (mo_st) ?_
  refine mx_all_cons (mo_call (sm_Hs_isWithin zz)) ?_
  refine mx_all_cons (mo_br) ?_
  refine mx_all_cons (mo_st) ?_
  refine mx_all_cons (mo_st) ?_
  refine mx_all_cons (mo_st) ?_
  refine mx_all_cons (mo_call (sm_Al_get zz)) ?_
  refine mx_all_cons (mo_sc) ?_
  refine mx_all_cons (mo_st) ?_
  refine mx_all_cons (mo_st) ?_
  refine mx_all_cons (mo_ret) ?_
  exact mx_all_nil
def S_Hs_frameAt (zz : Nat × Nat) : mx_Sp := mx_S 2 0 0 (t_Hs_frameAt zz)
theorem sm_Hs_frameAt (zz : Nat × Nat) : mx_SMono (S_Hs_frameAt zz) := mx_S_mono (tm_Hs_frameAt zz)
abbrev rm_Hs_frameAt : Room := { frames := 3, cells := 0, slots := 0, locals := 64 }
set_option maxHeartbeats 4000000 in
set_option maxRecDepth 100000 in
theorem m_Hs_frameAt (l : Launch) (zz : Nat × Nat) : mx_Met l y_Hs_frameAt (wsOf y_Hs_frameAt c_Hs_frameAt 2 (some (.object "HeaderSchedule$Frame"))) rm_Hs_frameAt wcl (mx_Z zz) 0 0 (S_Hs_frameAt zz) := by
  refine mx_met (cc := c_Hs_frameAt) (ret := (some (.object "HeaderSchedule$Frame"))) (by decide) rfl ?_
  intro p e s m args below meth c D A Post X hz hr hlk hnm
  have hm : ∀ w ∈ mw, w.before args s = true := fun w h => X.1.2.2.2.2 w (List.mem_cons_of_mem _ h)
  refine mx_all_cons (ok_iload (fun hl kk => lv_iload_n X.1.1 X.1.2.1 d_Hs_frameAt_0 rfl hl kk)) ?_
  refine mx_all_cons (ok_push (fun kk => lv_iconst X.1.1 X.1.2.1 d_Hs_frameAt_1 (by decide) kk)) ?_
  refine mx_all_cons (ok_aload (fun hl kk => lv_aload_n X.1.1 X.1.2.1 d_Hs_frameAt_2 rfl hl kk) (fun hl kk => lv_aload_nN X.1.1 X.1.2.1 d_Hs_frameAt_2 rfl hl kk)) ?_
  refine mx_all_cons (ok_get (C := "HeaderSchedule") (T := T_Hs) (N := 11) X (mw_up in_Hs) rfl 0 (by decide) (hm _ w158) (fun _ h9 => h9) d_Hs_frameAt_3) ?_
  refine mx_all_cons (ok_callV (C := "java/util/ArrayList") (T := T_Al) (N := 3) X (mx_Zok_Z zz) hz ⟨(Nat.le_of_ble_eq_true rfl), (Nat.le_of_ble_eq_true rfl)⟩ (m_Al_size l zz) ⟨mx_cwB 0 hm w199 w196 w36 rfl rfl (by decide +kernel) ⟨(Nat.le_of_ble_eq_true rfl), (Nat.le_of_ble_eq_true rfl)⟩, (hm _ w197), hm _ w198⟩ rfl d_Hs_frameAt_6) ?_
  refine mx_all_cons (ok_push (fun kk => lv_iconst X.1.1 X.1.2.1 d_Hs_frameAt_9 (by decide) kk)) ?_
  refine mx_all_cons (ok_ii (fun kk => lv_isub X.1.1 X.1.2.1 d_Hs_frameAt_10 kk)) ?_
  refine mx_all_cons (ok_callS X (mx_Zok_Z zz) hz ⟨(Nat.le_of_ble_eq_true rfl), (Nat.le_of_ble_eq_true rfl)⟩ (m_Hs_isWithin l zz) ⟨mx_cwB 3 hm w206 w204 w33 rfl rfl (by decide +kernel) ⟨(Nat.le_of_ble_eq_true rfl), (Nat.le_of_ble_eq_true rfl)⟩, (hm _ w205)⟩ d_Hs_frameAt_11) ?_
  refine mx_all_cons (ok_if (fun kt kf => lv_if_eq X.1.1 X.1.2.1 d_Hs_frameAt_14 (by decide) kt kf)) ?_
  refine mx_all_cons (ok_aload (fun hl kk => lv_aload_n X.1.1 X.1.2.1 d_Hs_frameAt_17 rfl hl kk) (fun hl kk => lv_aload_nN X.1.1 X.1.2.1 d_Hs_frameAt_17 rfl hl kk)) ?_
  refine mx_all_cons (ok_get (C := "HeaderSchedule") (T := T_Hs) (N := 11) X (mw_up in_Hs) rfl 0 (by decide) (hm _ w158) (fun _ h9 => h9) d_Hs_frameAt_18) ?_
  refine mx_all_cons (ok_iload (fun hl kk => lv_iload_n X.1.1 X.1.2.1 d_Hs_frameAt_21 rfl hl kk)) ?_
  refine mx_all_cons (ok_callV (C := "java/util/ArrayList") (T := T_Al) (N := 3) X (mx_Zok_Z zz) hz ⟨(Nat.le_of_ble_eq_true rfl), (Nat.le_of_ble_eq_true rfl)⟩ (m_Al_get l zz) ⟨mx_cwB 1 hm w326 w323 w36 rfl rfl (by decide +kernel) ⟨(Nat.le_of_ble_eq_true rfl), (Nat.le_of_ble_eq_true rfl)⟩, (hm _ w324), hm _ w325⟩ rfl d_Hs_frameAt_22) ?_
  refine mx_all_cons (ok_cast (C := "HeaderSchedule$Frame") (T := T_Fr) (N := 8) X rfl (hm _ w207) d_Hs_frameAt_25) ?_
  refine mx_all_cons (ok_goto X d_Hs_frameAt_28 (by decide)) ?_
  refine mx_all_cons (ok_push (fun kk => lv_null X.1.1 X.1.2.1 d_Hs_frameAt_31 kk)) ?_
  refine mx_all_cons (ok_aret X hr (by first | exact Or.inl ⟨_, rfl⟩ | exact Or.inr ⟨_, rfl⟩) hlk d_Hs_frameAt_32) ?_
  exact mx_all_nil
theorem st_Hs_frameAt_0 (zz : Nat × Nat) (r : mx_T) (ls : mx_L) (st : List Value) (h : mx_H) (c n : Nat) : mx_G r (t_Hs_frameAt zz) 0 ls st h c n = (o_iload 1 1) r (mx_G r (t_Hs_frameAt zz)) 0 ls st h c n := mx_G_eq (tm_Hs_frameAt zz) r 0 ls st h c n
theorem st_Hs_frameAt_1 (zz : Nat × Nat) (r : mx_T) (ls : mx_L) (st : List Value) (h : mx_H) (c n : Nat) : mx_G r (t_Hs_frameAt zz) 1 ls st h c n = (o_push 1 (.int 0)) r (mx_G r (t_Hs_frameAt zz)) 1 ls st h c n := mx_G_eq (tm_Hs_frameAt zz) r 1 ls st h c n
theorem st_Hs_frameAt_2 (zz : Nat × Nat) (r : mx_T) (ls : mx_L) (st : List Value) (h : mx_H) (c n : Nat) : mx_G r (t_Hs_frameAt zz) 2 ls st h c n = (o_aload 1 0) r (mx_G r (t_Hs_frameAt zz)) 2 ls st h c n := mx_G_eq (tm_Hs_frameAt zz) r 2 ls st h c n
theorem st_Hs_frameAt_3 (zz : Nat × Nat) (r : mx_T) (ls : mx_L) (st : List Value) (h : mx_H) (c n : Nat) : mx_G r (t_Hs_frameAt zz) 3 ls st h c n = (o_get 0 0) r (mx_G r (t_Hs_frameAt zz)) 3 ls st h c n := mx_G_eq (tm_Hs_frameAt zz) r 3 ls st h c n
theorem st_Hs_frameAt_6 (zz : Nat × Nat) (r : mx_T) (ls : mx_L) (st : List Value) (h : mx_H) (c n : Nat) : mx_G r (t_Hs_frameAt zz) 6 ls st h c n = (o_call 0 0 1 0 0 (mx_rv 9) (S_Al_size zz)) r (mx_G r (t_Hs_frameAt zz)) 6 ls st h c n := mx_G_eq (tm_Hs_frameAt zz) r 6 ls st h c n
theorem st_Hs_frameAt_9 (zz : Nat × Nat) (r : mx_T) (ls : mx_L) (st : List Value) (h : mx_H) (c n : Nat) : mx_G r (t_Hs_frameAt zz) 9 ls st h c n = (o_push 1 (.int 1)) r (mx_G r (t_Hs_frameAt zz)) 9 ls st h c n := mx_G_eq (tm_Hs_frameAt zz) r 9 ls st h c n
theorem st_Hs_frameAt_10 (zz : Nat × Nat) (r : mx_T) (ls : mx_L) (st : List Value) (h : mx_H) (c n : Nat) : mx_G r (t_Hs_frameAt zz) 10 ls st h c n = (o_ii (fun x y => x - y)) r (mx_G r (t_Hs_frameAt zz)) 10 ls st h c n := mx_G_eq (tm_Hs_frameAt zz) r 10 ls st h c n
theorem st_Hs_frameAt_11 (zz : Nat × Nat) (r : mx_T) (ls : mx_L) (st : List Value) (h : mx_H) (c n : Nat) : mx_G r (t_Hs_frameAt zz) 11 ls st h c n = (o_call 0 0 3 0 0 (fun _ _ => True) (S_Hs_isWithin zz)) r (mx_G r (t_Hs_frameAt zz)) 11 ls st h c n := mx_G_eq (tm_Hs_frameAt zz) r 11 ls st h c n
theorem st_Hs_frameAt_14 (zz : Nat × Nat) (r : mx_T) (ls : mx_L) (st : List Value) (h : mx_H) (c n : Nat) : mx_G r (t_Hs_frameAt zz) 14 ls st h c n = (o_if 31 (fun x => x = 0)) r (mx_G r (t_Hs_frameAt zz)) 14 ls st h c n := mx_G_eq (tm_Hs_frameAt zz) r 14 ls st h c n
theorem st_Hs_frameAt_17 (zz : Nat × Nat) (r : mx_T) (ls : mx_L) (st : List Value) (h : mx_H) (c n : Nat) : mx_G r (t_Hs_frameAt zz) 17 ls st h c n = (o_aload 1 0) r (mx_G r (t_Hs_frameAt zz)) 17 ls st h c n := mx_G_eq (tm_Hs_frameAt zz) r 17 ls st h c n
theorem st_Hs_frameAt_18 (zz : Nat × Nat) (r : mx_T) (ls : mx_L) (st : List Value) (h : mx_H) (c n : Nat) : mx_G r (t_Hs_frameAt zz) 18 ls st h c n = (o_get 0 0) r (mx_G r (t_Hs_frameAt zz)) 18 ls st h c n := mx_G_eq (tm_Hs_frameAt zz) r 18 ls st h c n
theorem st_Hs_frameAt_21 (zz : Nat × Nat) (r : mx_T) (ls : mx_L) (st : List Value) (h : mx_H) (c n : Nat) : mx_G r (t_Hs_frameAt zz) 21 ls st h c n = (o_iload 1 1) r (mx_G r (t_Hs_frameAt zz)) 21 ls st h c n := mx_G_eq (tm_Hs_frameAt zz) r 21 ls st h c n
theorem st_Hs_frameAt_22 (zz : Nat × Nat) (r : mx_T) (ls : mx_L) (st : List Value) (h : mx_H) (c n : Nat) : mx_G r (t_Hs_frameAt zz) 22 ls st h c n = (o_call 0 0 2 0 0 (mx_rv 9) (S_Al_get zz)) r (mx_G r (t_Hs_frameAt zz)) 22 ls st h c n := mx_G_eq (tm_Hs_frameAt zz) r 22 ls st h c n
theorem st_Hs_frameAt_25 (zz : Nat × Nat) (r : mx_T) (ls : mx_L) (st : List Value) (h : mx_H) (c n : Nat) : mx_G r (t_Hs_frameAt zz) 25 ls st h c n = (o_cast 1) r (mx_G r (t_Hs_frameAt zz)) 25 ls st h c n := mx_G_eq (tm_Hs_frameAt zz) r 25 ls st h c n
theorem st_Hs_frameAt_28 (zz : Nat × Nat) (r : mx_T) (ls : mx_L) (st : List Value) (h : mx_H) (c n : Nat) : mx_G r (t_Hs_frameAt zz) 28 ls st h c n = (o_goto 32) r (mx_G r (t_Hs_frameAt zz)) 28 ls st h c n := mx_G_eq (tm_Hs_frameAt zz) r 28 ls st h c n
theorem st_Hs_frameAt_31 (zz : Nat × Nat) (r : mx_T) (ls : mx_L) (st : List Value) (h : mx_H) (c n : Nat) : mx_G r (t_Hs_frameAt zz) 31 ls st h c n = (o_push 1 .null) r (mx_G r (t_Hs_frameAt zz)) 31 ls st h c n := mx_G_eq (tm_Hs_frameAt zz) r 31 ls st h c n
theorem st_Hs_frameAt_32 (zz : Nat × Nat) (r : mx_T) (ls : mx_L) (st : List Value) (h : mx_H) (c n : Nat) : mx_G r (t_Hs_frameAt zz) 32 ls st h c n = (o_aret) r (mx_G r (t_Hs_frameAt zz)) 32 ls st h c n := mx_G_eq (tm_Hs_frameAt zz) r 32 ls st h c n
theorem d_Sg_init_0 : decode c_Sg_init 0 = .ok (.aload_n 0, 1) := by decide +kernel
theorem d_Sg_init_1 : decode c_Sg_init 1 = .ok (.invokespecial 1, 3) := by decide +kernel
theorem d_Sg_init_4 : decode c_Sg_init 4 = .ok (.aload_n 0, 1) := by decide +kernel
theorem d_Sg_init_5 : decode c_Sg_init 5 = .ok (.iconst 0, 1) := by decide +kernel
theorem d_Sg_init_6 : decode c_Sg_init 6 = .ok (.putfield 7, 3) := by decide +kernel
theorem d_Sg_init_9 : decode c_Sg_init 9 = .ok (.aload_n 0, 1) := by decide +kernel
theorem d_Sg_init_10 : decode c_Sg_init 10 = .ok (.aload_n 1, 1) := by decide +kernel
theorem d_Sg_init_11 : decode c_Sg_init 11 = .ok (.putfield 13, 3) := by decide +kernel
theorem d_Sg_init_14 : decode c_Sg_init 14 = .ok (.aload_n 0, 1) := by decide +kernel
theorem d_Sg_init_15 : decode c_Sg_init 15 = .ok (.iload_n 2, 1) := by decide +kernel
theorem d_Sg_init_16 : decode c_Sg_init 16 = .ok (.putfield 17, 3) := by decide +kernel
theorem d_Sg_init_19 : decode c_Sg_init 19 = .ok (.aload_n 0, 1) := by decide +kernel
theorem d_Sg_init_20 : decode c_Sg_init 20 = .ok (.iload_n 3, 1) := by decide +kernel
theorem d_Sg_init_21 : decode c_Sg_init 21 = .ok (.putfield 21, 3) := by decide +kernel
theorem d_Sg_init_24 : decode c_Sg_init 24 = .ok (.aload_n 0, 1) := by decide +kernel
theorem d_Sg_init_25 : decode c_Sg_init 25 = .ok (.iload 4, 2) := by decide +kernel
theorem d_Sg_init_27 : decode c_Sg_init 27 = .ok (.putfield 24, 3) := by decide +kernel
theorem d_Sg_init_30 : decode c_Sg_init 30 = .ok (.return_, 1) := by decide +kernel
def t_Sg_init (zz : Nat × Nat) : List (Nat × mx_O) := [(0, o_aload 1 0),
  (1, o_objinit),
  (4, o_aload 1 0),
  (5, o_push 1 (.int 0)),
  (6, o_put 2 4 mx_vZ),
  (9, o_aload 1 0),
  (10, o_aload 1 1),
  (11, o_put 2 0 mx_vA),
  (14, o_aload 1 0),
  (15, o_iload 1 2),
  (16, o_put 2 1 mx_vI),
  (19, o_aload 1 0),
  (20, o_iload 1 3),
  (21, o_put 2 2 mx_vI),
  (24, o_aload 1 0),
  (25, o_iload 2 4),
  (27, o_put 2 3 mx_vI),
  (30, o_vret)]
set_option maxRecDepth 100000 in
theorem tm_Sg_init (zz : Nat × Nat) : mx_All (fun _ o => mx_Mono o) (t_Sg_init zz) := by
  refine mx_all_cons (mo_st) ?_
  refine mx_all_cons (mo_sc) ?_
  refine mx_all_cons (mo_st) ?_
  refine mx_all_cons (mo_st) ?_
  refine mx_all_cons (mo_sc) ?_
  refine mx_all_cons (mo_st) ?_
  refine mx_all_cons (mo_st) ?_
  refine mx_all_cons (mo_sc) ?_
  refine mx_all_cons (mo_st) ?_
  refine mx_all_cons (mo_st) ?_
  refine mx_all_cons (mo_sc) ?_
  refine mx_all_cons (mo_st) ?_
  refine mx_all_cons (mo_st) ?_
  refine mx_all_cons (mo_sc) ?_
  refine mx_all_cons (mo_st) ?_
  refine mx_all_cons (mo_st) ?_
  refine mx_all_cons (mo_sc) ?_
  refine mx_all_cons (mo_ret) ?_
  exact mx_all_nil
def S_Sg_init (zz : Nat × Nat) : mx_Sp := mx_S 5 0 0 (t_Sg_init zz)
theorem sm_Sg_init (zz : Nat × Nat) : mx_SMono (S_Sg_init zz) := mx_S_mono (tm_Sg_init zz)
abbrev rm_Sg_init : Room := { frames := 1, cells := 0, slots := 0, locals := 20 }
set_option maxHeartbeats 4000000 in
set_option maxRecDepth 100000 in
theorem m_Sg_init (l : Launch) (zz : Nat × Nat) : mx_Met l y_Sg_init (wsOf y_Sg_init c_Sg_init 5 none) rm_Sg_init wcl (mx_Z zz) 0 0 (S_Sg_init zz) := by
  refine mx_met (cc := c_Sg_init) (ret := none) (by decide) rfl ?_
  intro p e s m args below meth c D A Post X hz hr hlk hnm
  have hm : ∀ w ∈ mw, w.before args s = true := fun w h => X.1.2.2.2.2 w (List.mem_cons_of_mem _ h)
  refine mx_all_cons (ok_aload (fun hl kk => lv_aload_n X.1.1 X.1.2.1 d_Sg_init_0 rfl hl kk) (fun hl kk => lv_aload_nN X.1.1 X.1.2.1 d_Sg_init_0 rfl hl kk)) ?_
  refine mx_all_cons (ok_objinit X ⟨(Nat.le_of_ble_eq_true rfl), (Nat.le_of_ble_eq_true rfl)⟩ (hm _ w342) (hm _ w58) (hm _ w_oic) d_Sg_init_1) ?_
  refine mx_all_cons (ok_aload (fun hl kk => lv_aload_n X.1.1 X.1.2.1 d_Sg_init_4 rfl hl kk) (fun hl kk => lv_aload_nN X.1.1 X.1.2.1 d_Sg_init_4 rfl hl kk)) ?_
  refine mx_all_cons (ok_push (fun kk => lv_iconst X.1.1 X.1.2.1 d_Sg_init_5 (by decide) kk)) ?_
  refine mx_all_cons (ok_put (C := "HeaderSchedule$Signal") (T := T_Sg) (N := 5) X (mw_up in_Sg) ty_Sg tyok_Sg nm_Sg rfl 4 (by decide) (hm _ w349) (fun _ h9 => h9) rfl (tyok_Sg 4 (by decide)) mx_vZ_ok d_Sg_init_6) ?_
  refine mx_all_cons (ok_aload (fun hl kk => lv_aload_n X.1.1 X.1.2.1 d_Sg_init_9 rfl hl kk) (fun hl kk => lv_aload_nN X.1.1 X.1.2.1 d_Sg_init_9 rfl hl kk)) ?_
  refine mx_all_cons (ok_aload (fun hl kk => lv_aload_n X.1.1 X.1.2.1 d_Sg_init_10 rfl hl kk) (fun hl kk => lv_aload_nN X.1.1 X.1.2.1 d_Sg_init_10 rfl hl kk)) ?_
  refine mx_all_cons (ok_putF (C := "HeaderSchedule$Signal") (T := T_Sg) (N := 5) X (mw_up in_Sg) ty_Sg tyok_Sg nm_Sg rfl 0 (by decide) (hm _ w343) (fun _ h9 => h9) rfl hnm rfl (tyok_Sg 0 (by decide)) mx_vA_ok d_Sg_init_11) ?_
  refine mx_all_cons (ok_aload (fun hl kk => lv_aload_n X.1.1 X.1.2.1 d_Sg_init_14 rfl hl kk) (fun hl kk => lv_aload_nN X.1.1 X.1.2.1 d_Sg_init_14 rfl hl kk)) ?_
  refine mx_all_cons (ok_iload (fun hl kk => lv_iload_n X.1.1 X.1.2.1 d_Sg_init_15 rfl hl kk)) ?_
  refine mx_all_cons (ok_putF (C := "HeaderSchedule$Signal") (T := T_Sg) (N := 5) X (mw_up in_Sg) ty_Sg tyok_Sg nm_Sg rfl 1 (by decide) (hm _ w345) (fun _ h9 => h9) rfl hnm rfl (tyok_Sg 1 (by decide)) mx_vI_ok d_Sg_init_16) ?_
  refine mx_all_cons (ok_aload (fun hl kk => lv_aload_n X.1.1 X.1.2.1 d_Sg_init_19 rfl hl kk) (fun hl kk => lv_aload_nN X.1.1 X.1.2.1 d_Sg_init_19 rfl hl kk)) ?_
  refine mx_all_cons (ok_iload (fun hl kk => lv_iload_n X.1.1 X.1.2.1 d_Sg_init_20 rfl hl kk)) ?_
  refine mx_all_cons (ok_putF (C := "HeaderSchedule$Signal") (T := T_Sg) (N := 5) X (mw_up in_Sg) ty_Sg tyok_Sg nm_Sg rfl 2 (by decide) (hm _ w346) (fun _ h9 => h9) rfl hnm rfl (tyok_Sg 2 (by decide)) mx_vI_ok d_Sg_init_21) ?_
  refine mx_all_cons (ok_aload (fun hl kk => lv_aload_n X.1.1 X.1.2.1 d_Sg_init_24 rfl hl kk) (fun hl kk => lv_aload_nN X.1.1 X.1.2.1 d_Sg_init_24 rfl hl kk)) ?_
  refine mx_all_cons (ok_iload (fun hl kk => lv_iload X.1.1 X.1.2.1 d_Sg_init_25 hl kk)) ?_
  refine mx_all_cons (ok_put (C := "HeaderSchedule$Signal") (T := T_Sg) (N := 5) X (mw_up in_Sg) ty_Sg tyok_Sg nm_Sg rfl 3 (by decide) (hm _ w347) (fun _ h9 => h9) rfl (tyok_Sg 3 (by decide)) mx_vI_ok d_Sg_init_27) ?_
  refine mx_all_cons (ok_vret X hr hlk d_Sg_init_30) ?_
  exact mx_all_nil
theorem st_Sg_init_0 (zz : Nat × Nat) (r : mx_T) (ls : mx_L) (st : List Value) (h : mx_H) (c n : Nat) : mx_G r (t_Sg_init zz) 0 ls st h c n = (o_aload 1 0) r (mx_G r (t_Sg_init zz)) 0 ls st h c n := mx_G_eq (tm_Sg_init zz) r 0 ls st h c n
theorem st_Sg_init_1 (zz : Nat × Nat) (r : mx_T) (ls : mx_L) (st : List Value) (h : mx_H) (c n : Nat) : mx_G r (t_Sg_init zz) 1 ls st h c n = (o_objinit) r (mx_G r (t_Sg_init zz)) 1 ls st h c n := mx_G_eq (tm_Sg_init zz) r 1 ls st h c n
theorem st_Sg_init_4 (zz : Nat × Nat) (r : mx_T) (ls : mx_L) (st : List Value) (h : mx_H) (c n : Nat) : mx_G r (t_Sg_init zz) 4 ls st h c n = (o_aload 1 0) r (mx_G r (t_Sg_init zz)) 4 ls st h c n := mx_G_eq (tm_Sg_init zz) r 4 ls st h c n
theorem st_Sg_init_5 (zz : Nat × Nat) (r : mx_T) (ls : mx_L) (st : List Value) (h : mx_H) (c n : Nat) : mx_G r (t_Sg_init zz) 5 ls st h c n = (o_push 1 (.int 0)) r (mx_G r (t_Sg_init zz)) 5 ls st h c n := mx_G_eq (tm_Sg_init zz) r 5 ls st h c n
theorem st_Sg_init_6 (zz : Nat × Nat) (r : mx_T) (ls : mx_L) (st : List Value) (h : mx_H) (c n : Nat) : mx_G r (t_Sg_init zz) 6 ls st h c n = (o_put 2 4 mx_vZ) r (mx_G r (t_Sg_init zz)) 6 ls st h c n := mx_G_eq (tm_Sg_init zz) r 6 ls st h c n
theorem st_Sg_init_9 (zz : Nat × Nat) (r : mx_T) (ls : mx_L) (st : List Value) (h : mx_H) (c n : Nat) : mx_G r (t_Sg_init zz) 9 ls st h c n = (o_aload 1 0) r (mx_G r (t_Sg_init zz)) 9 ls st h c n := mx_G_eq (tm_Sg_init zz) r 9 ls st h c n
theorem st_Sg_init_10 (zz : Nat × Nat) (r : mx_T) (ls : mx_L) (st : List Value) (h : mx_H) (c n : Nat) : mx_G r (t_Sg_init zz) 10 ls st h c n = (o_aload 1 1) r (mx_G r (t_Sg_init zz)) 10 ls st h c n := mx_G_eq (tm_Sg_init zz) r 10 ls st h c n
theorem st_Sg_init_11 (zz : Nat × Nat) (r : mx_T) (ls : mx_L) (st : List Value) (h : mx_H) (c n : Nat) : mx_G r (t_Sg_init zz) 11 ls st h c n = (o_put 2 0 mx_vA) r (mx_G r (t_Sg_init zz)) 11 ls st h c n := mx_G_eq (tm_Sg_init zz) r 11 ls st h c n
theorem st_Sg_init_14 (zz : Nat × Nat) (r : mx_T) (ls : mx_L) (st : List Value) (h : mx_H) (c n : Nat) : mx_G r (t_Sg_init zz) 14 ls st h c n = (o_aload 1 0) r (mx_G r (t_Sg_init zz)) 14 ls st h c n := mx_G_eq (tm_Sg_init zz) r 14 ls st h c n
theorem st_Sg_init_15 (zz : Nat × Nat) (r : mx_T) (ls : mx_L) (st : List Value) (h : mx_H) (c n : Nat) : mx_G r (t_Sg_init zz) 15 ls st h c n = (o_iload 1 2) r (mx_G r (t_Sg_init zz)) 15 ls st h c n := mx_G_eq (tm_Sg_init zz) r 15 ls st h c n
theorem st_Sg_init_16 (zz : Nat × Nat) (r : mx_T) (ls : mx_L) (st : List Value) (h : mx_H) (c n : Nat) : mx_G r (t_Sg_init zz) 16 ls st h c n = (o_put 2 1 mx_vI) r (mx_G r (t_Sg_init zz)) 16 ls st h c n := mx_G_eq (tm_Sg_init zz) r 16 ls st h c n
theorem st_Sg_init_19 (zz : Nat × Nat) (r : mx_T) (ls : mx_L) (st : List Value) (h : mx_H) (c n : Nat) : mx_G r (t_Sg_init zz) 19 ls st h c n = (o_aload 1 0) r (mx_G r (t_Sg_init zz)) 19 ls st h c n := mx_G_eq (tm_Sg_init zz) r 19 ls st h c n
theorem st_Sg_init_20 (zz : Nat × Nat) (r : mx_T) (ls : mx_L) (st : List Value) (h : mx_H) (c n : Nat) : mx_G r (t_Sg_init zz) 20 ls st h c n = (o_iload 1 3) r (mx_G r (t_Sg_init zz)) 20 ls st h c n := mx_G_eq (tm_Sg_init zz) r 20 ls st h c n
theorem st_Sg_init_21 (zz : Nat × Nat) (r : mx_T) (ls : mx_L) (st : List Value) (h : mx_H) (c n : Nat) : mx_G r (t_Sg_init zz) 21 ls st h c n = (o_put 2 2 mx_vI) r (mx_G r (t_Sg_init zz)) 21 ls st h c n := mx_G_eq (tm_Sg_init zz) r 21 ls st h c n
theorem st_Sg_init_24 (zz : Nat × Nat) (r : mx_T) (ls : mx_L) (st : List Value) (h : mx_H) (c n : Nat) : mx_G r (t_Sg_init zz) 24 ls st h c n = (o_aload 1 0) r (mx_G r (t_Sg_init zz)) 24 ls st h c n := mx_G_eq (tm_Sg_init zz) r 24 ls st h c n
theorem st_Sg_init_25 (zz : Nat × Nat) (r : mx_T) (ls : mx_L) (st : List Value) (h : mx_H) (c n : Nat) : mx_G r (t_Sg_init zz) 25 ls st h c n = (o_iload 2 4) r (mx_G r (t_Sg_init zz)) 25 ls st h c n := mx_G_eq (tm_Sg_init zz) r 25 ls st h c n
theorem st_Sg_init_27 (zz : Nat × Nat) (r : mx_T) (ls : mx_L) (st : List Value) (h : mx_H) (c n : Nat) : mx_G r (t_Sg_init zz) 27 ls st h c n = (o_put 2 3 mx_vI) r (mx_G r (t_Sg_init zz)) 27 ls st h c n := mx_G_eq (tm_Sg_init zz) r 27 ls st h c n
theorem st_Sg_init_30 (zz : Nat × Nat) (r : mx_T) (ls : mx_L) (st : List Value) (h : mx_H) (c n : Nat) : mx_G r (t_Sg_init zz) 30 ls st h c n = (o_vret) r (mx_G r (t_Sg_init zz)) 30 ls st h c n := mx_G_eq (tm_Sg_init zz) r 30 ls st h c n
theorem d_Sg_most_0 : decode c_Sg_most 0 = .ok (.lconst 1, 1) := by decide +kernel
theorem d_Sg_most_1 : decode c_Sg_most 1 = .ok (.aload_n 0, 1) := by decide +kernel
theorem d_Sg_most_2 : decode c_Sg_most 2 = .ok (.getfield 21, 3) := by decide +kernel
theorem d_Sg_most_5 : decode c_Sg_most 5 = .ok (.lshl, 1) := by decide +kernel
theorem d_Sg_most_6 : decode c_Sg_most 6 = .ok (.lconst 1, 1) := by decide +kernel
theorem d_Sg_most_7 : decode c_Sg_most 7 = .ok (.lsub, 1) := by decide +kernel
theorem d_Sg_most_8 : decode c_Sg_most 8 = .ok (.lreturn, 1) := by decide +kernel
def t_Sg_most (zz : Nat × Nat) : List (Nat × mx_O) := [(0, o_push 1 (.long 1)),
  (1, o_aload 1 0),
  (2, o_get 2 2),
  (5, o_li (fun x y => x <<< (y.toInt64 &&& 63))),
  (6, o_push 1 (.long 1)),
  (7, o_ll (fun x y => .long (x - y))),
  (8, o_lret)]
set_option maxRecDepth 100000 in
theorem tm_Sg_most (zz : Nat × Nat) : mx_All (fun _ o => mx_Mono o) (t_Sg_most zz) := by
  refine mx_all_cons (mo_st) ?_
  refine mx_all_cons (mo_st) ?_
  refine mx_all_cons (mo_st) ?_
  refine mx_all_cons (mo_st) ?_
  refine mx_all_cons (mo_st) ?_
  refine mx_all_cons (mo_st) ?_
  refine mx_all_cons (mo_ret) ?_
  exact mx_all_nil
def S_Sg_most (zz : Nat × Nat) : mx_Sp := mx_S 1 0 0 (t_Sg_most zz)
theorem sm_Sg_most (zz : Nat × Nat) : mx_SMono (S_Sg_most zz) := mx_S_mono (tm_Sg_most zz)
abbrev rm_Sg_most : Room := { frames := 0, cells := 0, slots := 0, locals := 0 }
set_option maxHeartbeats 4000000 in
set_option maxRecDepth 100000 in
theorem m_Sg_most (l : Launch) (zz : Nat × Nat) : mx_Met l y_Sg_most (wsOf y_Sg_most c_Sg_most 1 (some .long)) rm_Sg_most wcl (mx_Z zz) 0 0 (S_Sg_most zz) := by
  refine mx_met (cc := c_Sg_most) (ret := (some .long)) (by decide) rfl ?_
  intro p e s m args below meth c D A Post X hz hr hlk hnm
  have hm : ∀ w ∈ mw, w.before args s = true := fun w h => X.1.2.2.2.2 w (List.mem_cons_of_mem _ h)
  refine mx_all_cons (ok_push (fun kk => lv_lconst X.1.1 X.1.2.1 d_Sg_most_0 (by decide) kk)) ?_
  refine mx_all_cons (ok_aload (fun hl kk => lv_aload_n X.1.1 X.1.2.1 d_Sg_most_1 rfl hl kk) (fun hl kk => lv_aload_nN X.1.1 X.1.2.1 d_Sg_most_1 rfl hl kk)) ?_
  refine mx_all_cons (ok_get (C := "HeaderSchedule$Signal") (T := T_Sg) (N := 5) X (mw_up in_Sg) rfl 2 (by decide) (hm _ w346) (fun _ h9 => h9) d_Sg_most_2) ?_
  refine mx_all_cons (ok_li (fun kk => lv_lshl X.1.1 X.1.2.1 d_Sg_most_5 rfl kk)) ?_
  refine mx_all_cons (ok_push (fun kk => lv_lconst X.1.1 X.1.2.1 d_Sg_most_6 (by decide) kk)) ?_
  refine mx_all_cons (ok_ll (fun kk => lv_lsub X.1.1 X.1.2.1 d_Sg_most_7 kk)) ?_
  refine mx_all_cons (ok_lret X hr hlk d_Sg_most_8) ?_
  exact mx_all_nil
theorem st_Sg_most_0 (zz : Nat × Nat) (r : mx_T) (ls : mx_L) (st : List Value) (h : mx_H) (c n : Nat) : mx_G r (t_Sg_most zz) 0 ls st h c n = (o_push 1 (.long 1)) r (mx_G r (t_Sg_most zz)) 0 ls st h c n := mx_G_eq (tm_Sg_most zz) r 0 ls st h c n
theorem st_Sg_most_1 (zz : Nat × Nat) (r : mx_T) (ls : mx_L) (st : List Value) (h : mx_H) (c n : Nat) : mx_G r (t_Sg_most zz) 1 ls st h c n = (o_aload 1 0) r (mx_G r (t_Sg_most zz)) 1 ls st h c n := mx_G_eq (tm_Sg_most zz) r 1 ls st h c n
theorem st_Sg_most_2 (zz : Nat × Nat) (r : mx_T) (ls : mx_L) (st : List Value) (h : mx_H) (c n : Nat) : mx_G r (t_Sg_most zz) 2 ls st h c n = (o_get 2 2) r (mx_G r (t_Sg_most zz)) 2 ls st h c n := mx_G_eq (tm_Sg_most zz) r 2 ls st h c n
theorem st_Sg_most_5 (zz : Nat × Nat) (r : mx_T) (ls : mx_L) (st : List Value) (h : mx_H) (c n : Nat) : mx_G r (t_Sg_most zz) 5 ls st h c n = (o_li (fun x y => x <<< (y.toInt64 &&& 63))) r (mx_G r (t_Sg_most zz)) 5 ls st h c n := mx_G_eq (tm_Sg_most zz) r 5 ls st h c n
theorem st_Sg_most_6 (zz : Nat × Nat) (r : mx_T) (ls : mx_L) (st : List Value) (h : mx_H) (c n : Nat) : mx_G r (t_Sg_most zz) 6 ls st h c n = (o_push 1 (.long 1)) r (mx_G r (t_Sg_most zz)) 6 ls st h c n := mx_G_eq (tm_Sg_most zz) r 6 ls st h c n
theorem st_Sg_most_7 (zz : Nat × Nat) (r : mx_T) (ls : mx_L) (st : List Value) (h : mx_H) (c n : Nat) : mx_G r (t_Sg_most zz) 7 ls st h c n = (o_ll (fun x y => .long (x - y))) r (mx_G r (t_Sg_most zz)) 7 ls st h c n := mx_G_eq (tm_Sg_most zz) r 7 ls st h c n
theorem st_Sg_most_8 (zz : Nat × Nat) (r : mx_T) (ls : mx_L) (st : List Value) (h : mx_H) (c n : Nat) : mx_G r (t_Sg_most zz) 8 ls st h c n = (o_lret) r (mx_G r (t_Sg_most zz)) 8 ls st h c n := mx_G_eq (tm_Sg_most zz) r 8 ls st h c n
theorem d_Sg_bits_0 : decode c_Sg_bits 0 = .ok (.aload_n 0, 1) := by decide +kernel
theorem d_Sg_bits_1 : decode c_Sg_bits 1 = .ok (.invokevirtual 27, 3) := by decide +kernel
theorem d_Sg_bits_4 : decode c_Sg_bits 4 = .ok (.aload_n 0, 1) := by decide +kernel
theorem d_Sg_bits_5 : decode c_Sg_bits 5 = .ok (.getfield 17, 3) := by decide +kernel
theorem d_Sg_bits_8 : decode c_Sg_bits 8 = .ok (.lshl, 1) := by decide +kernel
theorem d_Sg_bits_9 : decode c_Sg_bits 9 = .ok (.lreturn, 1) := by decide +kernel
def t_Sg_bits (zz : Nat × Nat) : List (Nat × mx_O) := [(0, o_aload 1 0),
  (1, o_call 0 0 1 0 0 (mx_rv 2) (S_Sg_most zz)),
  (4, o_aload 1 0),
  (5, o_get 2 1),
  (8, o_li (fun x y => x <<< (y.toInt64 &&& 63))),
  (9, o_lret)]
set_option maxRecDepth 100000 in
theorem tm_Sg_bits (zz : Nat × Nat) : mx_All (fun _ o => mx_Mono o) (t_Sg_bits zz) := by
  refine mx_all_cons (mo_st) ?_
  refine mx_all_cons (mo_call (sm_Sg_most zz)) ?_
  refine mx_all_cons (mo_st) ?_
  refine mx_all_cons (mo_st) ?_
  refine mx_all_cons (mo_st) ?_
  refine mx_all_cons (mo_ret) ?_
  exact mx_all_nil
def S_Sg_bits (zz : Nat × Nat) : mx_Sp := mx_S 1 0 0 (t_Sg_bits zz)
theorem sm_Sg_bits (zz : Nat × Nat) : mx_SMono (S_Sg_bits zz) := mx_S_mono (tm_Sg_bits zz)
abbrev rm_Sg_bits : Room := { frames := 1, cells := 0, slots := 0, locals := 20 }
set_option maxHeartbeats 4000000 in
set_option maxRecDepth 100000 in
theorem m_Sg_bits (l : Launch) (zz : Nat × Nat) : mx_Met l y_Sg_bits (wsOf y_Sg_bits c_Sg_bits 1 (some .long)) rm_Sg_bits wcl (mx_Z zz) 0 0 (S_Sg_bits zz) := by
  refine mx_met (cc := c_Sg_bits) (ret := (some .long)) (by decide) rfl ?_
  intro p e s m args below meth c D A Post X hz hr hlk hnm
  have hm : ∀ w ∈ mw, w.before args s = true := fun w h => X.1.2.2.2.2 w (List.mem_cons_of_mem _ h)
  refine mx_all_cons (ok_aload (fun hl kk => lv_aload_n X.1.1 X.1.2.1 d_Sg_bits_0 rfl hl kk) (fun hl kk => lv_aload_nN X.1.1 X.1.2.1 d_Sg_bits_0 rfl hl kk)) ?_
  refine mx_all_cons (ok_callV (C := "HeaderSchedule$Signal") (T := T_Sg) (N := 5) X (mx_Zok_Z zz) hz ⟨(Nat.le_of_ble_eq_true rfl), (Nat.le_of_ble_eq_true rfl)⟩ (m_Sg_most l zz) ⟨mx_cwB 0 hm w369 w366 w48 rfl rfl (by decide +kernel) ⟨(Nat.le_of_ble_eq_true rfl), (Nat.le_of_ble_eq_true rfl)⟩, (hm _ w367), hm _ w368⟩ rfl d_Sg_bits_1) ?_
  refine mx_all_cons (ok_aload (fun hl kk => lv_aload_n X.1.1 X.1.2.1 d_Sg_bits_4 rfl hl kk) (fun hl kk => lv_aload_nN X.1.1 X.1.2.1 d_Sg_bits_4 rfl hl kk)) ?_
  refine mx_all_cons (ok_get (C := "HeaderSchedule$Signal") (T := T_Sg) (N := 5) X (mw_up in_Sg) rfl 1 (by decide) (hm _ w345) (fun _ h9 => h9) d_Sg_bits_5) ?_
  refine mx_all_cons (ok_li (fun kk => lv_lshl X.1.1 X.1.2.1 d_Sg_bits_8 rfl kk)) ?_
  refine mx_all_cons (ok_lret X hr hlk d_Sg_bits_9) ?_
  exact mx_all_nil
theorem st_Sg_bits_0 (zz : Nat × Nat) (r : mx_T) (ls : mx_L) (st : List Value) (h : mx_H) (c n : Nat) : mx_G r (t_Sg_bits zz) 0 ls st h c n = (o_aload 1 0) r (mx_G r (t_Sg_bits zz)) 0 ls st h c n := mx_G_eq (tm_Sg_bits zz) r 0 ls st h c n
theorem st_Sg_bits_1 (zz : Nat × Nat) (r : mx_T) (ls : mx_L) (st : List Value) (h : mx_H) (c n : Nat) : mx_G r (t_Sg_bits zz) 1 ls st h c n = (o_call 0 0 1 0 0 (mx_rv 2) (S_Sg_most zz)) r (mx_G r (t_Sg_bits zz)) 1 ls st h c n := mx_G_eq (tm_Sg_bits zz) r 1 ls st h c n
theorem st_Sg_bits_4 (zz : Nat × Nat) (r : mx_T) (ls : mx_L) (st : List Value) (h : mx_H) (c n : Nat) : mx_G r (t_Sg_bits zz) 4 ls st h c n = (o_aload 1 0) r (mx_G r (t_Sg_bits zz)) 4 ls st h c n := mx_G_eq (tm_Sg_bits zz) r 4 ls st h c n
theorem st_Sg_bits_5 (zz : Nat × Nat) (r : mx_T) (ls : mx_L) (st : List Value) (h : mx_H) (c n : Nat) : mx_G r (t_Sg_bits zz) 5 ls st h c n = (o_get 2 1) r (mx_G r (t_Sg_bits zz)) 5 ls st h c n := mx_G_eq (tm_Sg_bits zz) r 5 ls st h c n
theorem st_Sg_bits_8 (zz : Nat × Nat) (r : mx_T) (ls : mx_L) (st : List Value) (h : mx_H) (c n : Nat) : mx_G r (t_Sg_bits zz) 8 ls st h c n = (o_li (fun x y => x <<< (y.toInt64 &&& 63))) r (mx_G r (t_Sg_bits zz)) 8 ls st h c n := mx_G_eq (tm_Sg_bits zz) r 8 ls st h c n
theorem st_Sg_bits_9 (zz : Nat × Nat) (r : mx_T) (ls : mx_L) (st : List Value) (h : mx_H) (c n : Nat) : mx_G r (t_Sg_bits zz) 9 ls st h c n = (o_lret) r (mx_G r (t_Sg_bits zz)) 9 ls st h c n := mx_G_eq (tm_Sg_bits zz) r 9 ls st h c n
theorem d_Sg_canHold_0 : decode c_Sg_canHold 0 = .ok (.iload_n 1, 1) := by decide +kernel
theorem d_Sg_canHold_1 : decode c_Sg_canHold 1 = .ok (.ifCond .lt 17, 3) := by decide +kernel
theorem d_Sg_canHold_4 : decode c_Sg_canHold 4 = .ok (.iload_n 1, 1) := by decide +kernel
theorem d_Sg_canHold_5 : decode c_Sg_canHold 5 = .ok (.i2l, 1) := by decide +kernel
theorem d_Sg_canHold_6 : decode c_Sg_canHold 6 = .ok (.aload_n 0, 1) := by decide +kernel
theorem d_Sg_canHold_7 : decode c_Sg_canHold 7 = .ok (.invokevirtual 27, 3) := by decide +kernel
theorem d_Sg_canHold_10 : decode c_Sg_canHold 10 = .ok (.lcmp, 1) := by decide +kernel
theorem d_Sg_canHold_11 : decode c_Sg_canHold 11 = .ok (.ifCond .gt 7, 3) := by decide +kernel
theorem d_Sg_canHold_14 : decode c_Sg_canHold 14 = .ok (.iconst 1, 1) := by decide +kernel
theorem d_Sg_canHold_15 : decode c_Sg_canHold 15 = .ok (.goto 4, 3) := by decide +kernel
theorem d_Sg_canHold_18 : decode c_Sg_canHold 18 = .ok (.iconst 0, 1) := by decide +kernel
theorem d_Sg_canHold_19 : decode c_Sg_canHold 19 = .ok (.ireturn, 1) := by decide +kernel
def t_Sg_canHold (zz : Nat × Nat) : List (Nat × mx_O) := [(0, o_iload 1 1),
  (1, o_if 18 (fun x => x < 0)),
  (4, o_iload 1 1),
  (5, o_i1 (fun x => .long x.toInt64)),
  (6, o_aload 1 0),
  (7, o_call 0 0 1 0 0 (mx_rv 2) (S_Sg_most zz)),
  (10, o_ll (fun x y => .int (lg_cmp x y))),
  (11, o_if 18 (fun x => 0 < x)),
  (14, o_push 1 (.int 1)),
  (15, o_goto 19),
  (18, o_push 1 (.int 0)),
  (19, o_zret)]
set_option maxRecDepth 100000 in
theorem tm_Sg_canHold (zz : Nat × Nat) : mx_All (fun _ o => mx_Mono o) (t_Sg_canHold zz) := by
  refine mx_all_cons (mo_st) ?_
  refine mx_all_cons (mo_br) ?_
  refine mx_all_cons (mo_st) ?_
  refine mx_all_cons (mo_st) ?_
  refine mx_all_cons (mo_st) ?_
  refine mx_all_cons (mo_call (sm_Sg_most zz)) ?_
  refine mx_all_cons (mo_st) ?_
  refine mx_all_cons (mo_br) ?_
  refine mx_all_cons (mo_st) ?_
  refine mx_all_cons (mo_st) ?_
  refine mx_all_cons (mo_st) ?_
  refine mx_all_cons (mo_zret) ?_
  exact mx_all_nil
def S_Sg_canHold (zz : Nat × Nat) : mx_Sp := mx_S 2 0 0 (t_Sg_canHold zz)
theorem sm_Sg_canHold (zz : Nat × Nat) : mx_SMono (S_Sg_canHold zz) := mx_S_mono (tm_Sg_canHold zz)
abbrev rm_Sg_canHold : Room := { frames := 1, cells := 0, slots := 0, locals := 20 }
set_option maxHeartbeats 4000000 in
set_option maxRecDepth 100000 in
theorem m_Sg_canHold (l : Launch) (zz : Nat × Nat) : mx_Met l y_Sg_canHold (wsOf y_Sg_canHold c_Sg_canHold 2 (some .boolean)) rm_Sg_canHold wcl (mx_Z zz) 0 0 (S_Sg_canHold zz) := by
  refine mx_met (cc := c_Sg_canHold) (ret := (some .boolean)) (by decide) rfl ?_
  intro p e s m args below meth c D A Post X hz hr hlk hnm
  have hm : ∀ w ∈ mw, w.before args s = true := fun w h => X.1.2.2.2.2 w (List.mem_cons_of_mem _ h)
  refine mx_all_cons (ok_iload (fun hl kk => lv_iload_n X.1.1 X.1.2.1 d_Sg_canHold_0 rfl hl kk)) ?_
  refine mx_all_cons (ok_if (fun kt kf => lv_if_lt X.1.1 X.1.2.1 d_Sg_canHold_1 (by decide) kt kf)) ?_
  refine mx_all_cons (ok_iload (fun hl kk => lv_iload_n X.1.1 X.1.2.1 d_Sg_canHold_4 rfl hl kk)) ?_
  refine mx_all_cons (ok_i1 (fun kk => lv_i2l X.1.1 X.1.2.1 d_Sg_canHold_5 rfl kk)) ?_
  refine mx_all_cons (ok_aload (fun hl kk => lv_aload_n X.1.1 X.1.2.1 d_Sg_canHold_6 rfl hl kk) (fun hl kk => lv_aload_nN X.1.1 X.1.2.1 d_Sg_canHold_6 rfl hl kk)) ?_
  refine mx_all_cons (ok_callV (C := "HeaderSchedule$Signal") (T := T_Sg) (N := 5) X (mx_Zok_Z zz) hz ⟨(Nat.le_of_ble_eq_true rfl), (Nat.le_of_ble_eq_true rfl)⟩ (m_Sg_most l zz) ⟨mx_cwB 0 hm w369 w366 w48 rfl rfl (by decide +kernel) ⟨(Nat.le_of_ble_eq_true rfl), (Nat.le_of_ble_eq_true rfl)⟩, (hm _ w367), hm _ w368⟩ rfl d_Sg_canHold_7) ?_
  refine mx_all_cons (ok_ll (fun kk => W.lcmp X.1.1 X.1.2.1 d_Sg_canHold_10 kk)) ?_
  refine mx_all_cons (ok_if (fun kt kf => lv_if_gt X.1.1 X.1.2.1 d_Sg_canHold_11 (by decide) kt kf)) ?_
  refine mx_all_cons (ok_push (fun kk => lv_iconst X.1.1 X.1.2.1 d_Sg_canHold_14 (by decide) kk)) ?_
  refine mx_all_cons (ok_goto X d_Sg_canHold_15 (by decide)) ?_
  refine mx_all_cons (ok_push (fun kk => lv_iconst X.1.1 X.1.2.1 d_Sg_canHold_18 (by decide) kk)) ?_
  refine mx_all_cons (ok_zret X hr hlk d_Sg_canHold_19) ?_
  exact mx_all_nil
theorem st_Sg_canHold_0 (zz : Nat × Nat) (r : mx_T) (ls : mx_L) (st : List Value) (h : mx_H) (c n : Nat) : mx_G r (t_Sg_canHold zz) 0 ls st h c n = (o_iload 1 1) r (mx_G r (t_Sg_canHold zz)) 0 ls st h c n := mx_G_eq (tm_Sg_canHold zz) r 0 ls st h c n
theorem st_Sg_canHold_1 (zz : Nat × Nat) (r : mx_T) (ls : mx_L) (st : List Value) (h : mx_H) (c n : Nat) : mx_G r (t_Sg_canHold zz) 1 ls st h c n = (o_if 18 (fun x => x < 0)) r (mx_G r (t_Sg_canHold zz)) 1 ls st h c n := mx_G_eq (tm_Sg_canHold zz) r 1 ls st h c n
theorem st_Sg_canHold_4 (zz : Nat × Nat) (r : mx_T) (ls : mx_L) (st : List Value) (h : mx_H) (c n : Nat) : mx_G r (t_Sg_canHold zz) 4 ls st h c n = (o_iload 1 1) r (mx_G r (t_Sg_canHold zz)) 4 ls st h c n := mx_G_eq (tm_Sg_canHold zz) r 4 ls st h c n
theorem st_Sg_canHold_5 (zz : Nat × Nat) (r : mx_T) (ls : mx_L) (st : List Value) (h : mx_H) (c n : Nat) : mx_G r (t_Sg_canHold zz) 5 ls st h c n = (o_i1 (fun x => .long x.toInt64)) r (mx_G r (t_Sg_canHold zz)) 5 ls st h c n := mx_G_eq (tm_Sg_canHold zz) r 5 ls st h c n
theorem st_Sg_canHold_6 (zz : Nat × Nat) (r : mx_T) (ls : mx_L) (st : List Value) (h : mx_H) (c n : Nat) : mx_G r (t_Sg_canHold zz) 6 ls st h c n = (o_aload 1 0) r (mx_G r (t_Sg_canHold zz)) 6 ls st h c n := mx_G_eq (tm_Sg_canHold zz) r 6 ls st h c n
theorem st_Sg_canHold_7 (zz : Nat × Nat) (r : mx_T) (ls : mx_L) (st : List Value) (h : mx_H) (c n : Nat) : mx_G r (t_Sg_canHold zz) 7 ls st h c n = (o_call 0 0 1 0 0 (mx_rv 2) (S_Sg_most zz)) r (mx_G r (t_Sg_canHold zz)) 7 ls st h c n := mx_G_eq (tm_Sg_canHold zz) r 7 ls st h c n
theorem st_Sg_canHold_10 (zz : Nat × Nat) (r : mx_T) (ls : mx_L) (st : List Value) (h : mx_H) (c n : Nat) : mx_G r (t_Sg_canHold zz) 10 ls st h c n = (o_ll (fun x y => .int (lg_cmp x y))) r (mx_G r (t_Sg_canHold zz)) 10 ls st h c n := mx_G_eq (tm_Sg_canHold zz) r 10 ls st h c n
theorem st_Sg_canHold_11 (zz : Nat × Nat) (r : mx_T) (ls : mx_L) (st : List Value) (h : mx_H) (c n : Nat) : mx_G r (t_Sg_canHold zz) 11 ls st h c n = (o_if 18 (fun x => 0 < x)) r (mx_G r (t_Sg_canHold zz)) 11 ls st h c n := mx_G_eq (tm_Sg_canHold zz) r 11 ls st h c n
theorem st_Sg_canHold_14 (zz : Nat × Nat) (r : mx_T) (ls : mx_L) (st : List Value) (h : mx_H) (c n : Nat) : mx_G r (t_Sg_canHold zz) 14 ls st h c n = (o_push 1 (.int 1)) r (mx_G r (t_Sg_canHold zz)) 14 ls st h c n := mx_G_eq (tm_Sg_canHold zz) r 14 ls st h c n
theorem st_Sg_canHold_15 (zz : Nat × Nat) (r : mx_T) (ls : mx_L) (st : List Value) (h : mx_H) (c n : Nat) : mx_G r (t_Sg_canHold zz) 15 ls st h c n = (o_goto 19) r (mx_G r (t_Sg_canHold zz)) 15 ls st h c n := mx_G_eq (tm_Sg_canHold zz) r 15 ls st h c n
theorem st_Sg_canHold_18 (zz : Nat × Nat) (r : mx_T) (ls : mx_L) (st : List Value) (h : mx_H) (c n : Nat) : mx_G r (t_Sg_canHold zz) 18 ls st h c n = (o_push 1 (.int 0)) r (mx_G r (t_Sg_canHold zz)) 18 ls st h c n := mx_G_eq (tm_Sg_canHold zz) r 18 ls st h c n
theorem st_Sg_canHold_19 (zz : Nat × Nat) (r : mx_T) (ls : mx_L) (st : List Value) (h : mx_H) (c n : Nat) : mx_G r (t_Sg_canHold zz) 19 ls st h c n = (o_zret) r (mx_G r (t_Sg_canHold zz)) 19 ls st h c n := mx_G_eq (tm_Sg_canHold zz) r 19 ls st h c n
theorem d_Sg_putWritten_0 : decode c_Sg_putWritten 0 = .ok (.aload_n 0, 1) := by decide +kernel
theorem d_Sg_putWritten_1 : decode c_Sg_putWritten 1 = .ok (.getfield 13, 3) := by decide +kernel
theorem d_Sg_putWritten_4 : decode c_Sg_putWritten 4 = .ok (.aload_n 0, 1) := by decide +kernel
theorem d_Sg_putWritten_5 : decode c_Sg_putWritten 5 = .ok (.getfield 13, 3) := by decide +kernel
theorem d_Sg_putWritten_8 : decode c_Sg_putWritten 8 = .ok (.getfield 31, 3) := by decide +kernel
theorem d_Sg_putWritten_11 : decode c_Sg_putWritten 11 = .ok (.aload_n 0, 1) := by decide +kernel
theorem d_Sg_putWritten_12 : decode c_Sg_putWritten 12 = .ok (.invokevirtual 37, 3) := by decide +kernel
theorem d_Sg_putWritten_15 : decode c_Sg_putWritten 15 = .ok (.ldc2_w 40, 3) := by decide +kernel
theorem d_Sg_putWritten_18 : decode c_Sg_putWritten 18 = .ok (.lxor, 1) := by decide +kernel
theorem d_Sg_putWritten_19 : decode c_Sg_putWritten 19 = .ok (.land, 1) := by decide +kernel
theorem d_Sg_putWritten_20 : decode c_Sg_putWritten 20 = .ok (.iload_n 1, 1) := by decide +kernel
theorem d_Sg_putWritten_21 : decode c_Sg_putWritten 21 = .ok (.i2l, 1) := by decide +kernel
theorem d_Sg_putWritten_22 : decode c_Sg_putWritten 22 = .ok (.aload_n 0, 1) := by decide +kernel
theorem d_Sg_putWritten_23 : decode c_Sg_putWritten 23 = .ok (.getfield 17, 3) := by decide +kernel
theorem d_Sg_putWritten_26 : decode c_Sg_putWritten 26 = .ok (.lshl, 1) := by decide +kernel
theorem d_Sg_putWritten_27 : decode c_Sg_putWritten 27 = .ok (.lor, 1) := by decide +kernel
theorem d_Sg_putWritten_28 : decode c_Sg_putWritten 28 = .ok (.putfield 31, 3) := by decide +kernel
theorem d_Sg_putWritten_31 : decode c_Sg_putWritten 31 = .ok (.return_, 1) := by decide +kernel
def t_Sg_putWritten (zz : Nat × Nat) : List (Nat × mx_O) := [(0, o_aload 1 0),
  (1, o_get 2 0),
  (4, o_aload 1 0),
  (5, o_get 2 0),
  (8, o_get 1 5),
  (11, o_aload 1 0),
  (12, o_call 0 0 1 0 0 (mx_rv 2) (S_Sg_bits zz)),
  (15, o_push 3 (.long (-1))),
  (18, o_ll (fun x y => .long (x ^^^ y))),
  (19, o_ll (fun x y => .long (x &&& y))),
  (20, o_iload 1 1),
  (21, o_i1 (fun x => .long x.toInt64)),
  (22, o_aload 1 0),
  (23, o_get 2 1),
  (26, o_li (fun x y => x <<< (y.toInt64 &&& 63))),
  (27, o_ll (fun x y => .long (x ||| y))),
  (28, o_put 1 5 mx_vJ),
  (31, o_vret)]
set_option maxRecDepth 100000 in
theorem tm_Sg_putWritten (zz : Nat × Nat) : mx_All (fun _ o => mx_Mono o) (t_Sg_putWritten zz) := by
  refine mx_all_cons (mo_st) ?_
  refine mx_all_cons (mo_st) ?_
  refine mx_all_cons (mo_st) ?_
  refine mx_all_cons (mo_st) ?_
  refine mx_all_cons (mo_st) ?_
  refine mx_all_cons (mo_st) ?_
  refine mx_all_cons (mo_call (sm_Sg_bits zz)) ?_
  refine mx_all_cons (mo_st) ?_
  refine mx_all_cons (mo_st) ?_
  refine mx_all_cons (mo_st) ?_
  refine mx_all_cons (mo_st) ?_
  refine mx_all_cons (mo_st) ?_
  refine mx_all_cons (mo_st) ?_
  refine mx_all_cons (mo_st) ?_
  refine mx_all_cons (mo_st) ?_
  refine mx_all_cons (mo_st) ?_
  refine mx_all_cons (mo_sc) ?_
  refine mx_all_cons (mo_ret) ?_
  exact mx_all_nil
def S_Sg_putWritten (zz : Nat × Nat) : mx_Sp := mx_S 2 0 0 (t_Sg_putWritten zz)
theorem sm_Sg_putWritten (zz : Nat × Nat) : mx_SMono (S_Sg_putWritten zz) := mx_S_mono (tm_Sg_putWritten zz)
abbrev rm_Sg_putWritten : Room := { frames := 2, cells := 0, slots := 0, locals := 40 }
set_option maxHeartbeats 4000000 in
set_option maxRecDepth 100000 in
theorem m_Sg_putWritten (l : Launch) (zz : Nat × Nat) : mx_Met l y_Sg_putWritten (wsOf y_Sg_putWritten c_Sg_putWritten 2 none) rm_Sg_putWritten wcl (mx_Z zz) 0 0 (S_Sg_putWritten zz) := by
  refine mx_met (cc := c_Sg_putWritten) (ret := none) (by decide) rfl ?_
  intro p e s m args below meth c D A Post X hz hr hlk hnm
  have hm : ∀ w ∈ mw, w.before args s = true := fun w h => X.1.2.2.2.2 w (List.mem_cons_of_mem _ h)
  refine mx_all_cons (ok_aload (fun hl kk => lv_aload_n X.1.1 X.1.2.1 d_Sg_putWritten_0 rfl hl kk) (fun hl kk => lv_aload_nN X.1.1 X.1.2.1 d_Sg_putWritten_0 rfl hl kk)) ?_
  refine mx_all_cons (ok_get (C := "HeaderSchedule$Signal") (T := T_Sg) (N := 5) X (mw_up in_Sg) rfl 0 (by decide) (hm _ w343) (fun _ h9 => h9) d_Sg_putWritten_1) ?_
  refine mx_all_cons (ok_aload (fun hl kk => lv_aload_n X.1.1 X.1.2.1 d_Sg_putWritten_4 rfl hl kk) (fun hl kk => lv_aload_nN X.1.1 X.1.2.1 d_Sg_putWritten_4 rfl hl kk)) ?_
  refine mx_all_cons (ok_get (C := "HeaderSchedule$Signal") (T := T_Sg) (N := 5) X (mw_up in_Sg) rfl 0 (by decide) (hm _ w343) (fun _ h9 => h9) d_Sg_putWritten_5) ?_
  refine mx_all_cons (ok_get (C := "HeaderSchedule$Frame") (T := T_Fr) (N := 8) X (mw_up in_Fr) rfl 5 (by decide) (hm _ w232) (fun _ h9 => h9) d_Sg_putWritten_8) ?_
  refine mx_all_cons (ok_aload (fun hl kk => lv_aload_n X.1.1 X.1.2.1 d_Sg_putWritten_11 rfl hl kk) (fun hl kk => lv_aload_nN X.1.1 X.1.2.1 d_Sg_putWritten_11 rfl hl kk)) ?_
  refine mx_all_cons (ok_callV (C := "HeaderSchedule$Signal") (T := T_Sg) (N := 5) X (mx_Zok_Z zz) hz ⟨(Nat.le_of_ble_eq_true rfl), (Nat.le_of_ble_eq_true rfl)⟩ (m_Sg_bits l zz) ⟨mx_cwB 0 hm w365 w378 w48 rfl rfl (by decide +kernel) ⟨(Nat.le_of_ble_eq_true rfl), (Nat.le_of_ble_eq_true rfl)⟩, (hm _ w363), hm _ w364⟩ rfl d_Sg_putWritten_12) ?_
  refine mx_all_cons (ok_push (fun kk => lv_ldc2 X.1.1 X.1.2.1 X.1.2.2.2.1 (hm _ w379) d_Sg_putWritten_15 kk)) ?_
  refine mx_all_cons (ok_ll (fun kk => lv_lxor X.1.1 X.1.2.1 d_Sg_putWritten_18 kk)) ?_
  refine mx_all_cons (ok_ll (fun kk => lv_land X.1.1 X.1.2.1 d_Sg_putWritten_19 kk)) ?_
  refine mx_all_cons (ok_iload (fun hl kk => lv_iload_n X.1.1 X.1.2.1 d_Sg_putWritten_20 rfl hl kk)) ?_
  refine mx_all_cons (ok_i1 (fun kk => lv_i2l X.1.1 X.1.2.1 d_Sg_putWritten_21 rfl kk)) ?_
  refine mx_all_cons (ok_aload (fun hl kk => lv_aload_n X.1.1 X.1.2.1 d_Sg_putWritten_22 rfl hl kk) (fun hl kk => lv_aload_nN X.1.1 X.1.2.1 d_Sg_putWritten_22 rfl hl kk)) ?_
  refine mx_all_cons (ok_get (C := "HeaderSchedule$Signal") (T := T_Sg) (N := 5) X (mw_up in_Sg) rfl 1 (by decide) (hm _ w345) (fun _ h9 => h9) d_Sg_putWritten_23) ?_
  refine mx_all_cons (ok_li (fun kk => lv_lshl X.1.1 X.1.2.1 d_Sg_putWritten_26 rfl kk)) ?_
  refine mx_all_cons (ok_ll (fun kk => lv_lor X.1.1 X.1.2.1 d_Sg_putWritten_27 kk)) ?_
  refine mx_all_cons (ok_put (C := "HeaderSchedule$Frame") (T := T_Fr) (N := 8) X (mw_up in_Fr) ty_Fr tyok_Fr nm_Fr rfl 5 (by decide) (hm _ w232) (fun _ h9 => h9) rfl (tyok_Fr 5 (by decide)) mx_vJ_ok d_Sg_putWritten_28) ?_
  refine mx_all_cons (ok_vret X hr hlk d_Sg_putWritten_31) ?_
  exact mx_all_nil
theorem st_Sg_putWritten_0 (zz : Nat × Nat) (r : mx_T) (ls : mx_L) (st : List Value) (h : mx_H) (c n : Nat) : mx_G r (t_Sg_putWritten zz) 0 ls st h c n = (o_aload 1 0) r (mx_G r (t_Sg_putWritten zz)) 0 ls st h c n := mx_G_eq (tm_Sg_putWritten zz) r 0 ls st h c n
theorem st_Sg_putWritten_1 (zz : Nat × Nat) (r : mx_T) (ls : mx_L) (st : List Value) (h : mx_H) (c n : Nat) : mx_G r (t_Sg_putWritten zz) 1 ls st h c n = (o_get 2 0) r (mx_G r (t_Sg_putWritten zz)) 1 ls st h c n := mx_G_eq (tm_Sg_putWritten zz) r 1 ls st h c n
theorem st_Sg_putWritten_4 (zz : Nat × Nat) (r : mx_T) (ls : mx_L) (st : List Value) (h : mx_H) (c n : Nat) : mx_G r (t_Sg_putWritten zz) 4 ls st h c n = (o_aload 1 0) r (mx_G r (t_Sg_putWritten zz)) 4 ls st h c n := mx_G_eq (tm_Sg_putWritten zz) r 4 ls st h c n
theorem st_Sg_putWritten_5 (zz : Nat × Nat) (r : mx_T) (ls : mx_L) (st : List Value) (h : mx_H) (c n : Nat) : mx_G r (t_Sg_putWritten zz) 5 ls st h c n = (o_get 2 0) r (mx_G r (t_Sg_putWritten zz)) 5 ls st h c n := mx_G_eq (tm_Sg_putWritten zz) r 5 ls st h c n
theorem st_Sg_putWritten_8 (zz : Nat × Nat) (r : mx_T) (ls : mx_L) (st : List Value) (h : mx_H) (c n : Nat) : mx_G r (t_Sg_putWritten zz) 8 ls st h c n = (o_get 1 5) r (mx_G r (t_Sg_putWritten zz)) 8 ls st h c n := mx_G_eq (tm_Sg_putWritten zz) r 8 ls st h c n
theorem st_Sg_putWritten_11 (zz : Nat × Nat) (r : mx_T) (ls : mx_L) (st : List Value) (h : mx_H) (c n : Nat) : mx_G r (t_Sg_putWritten zz) 11 ls st h c n = (o_aload 1 0) r (mx_G r (t_Sg_putWritten zz)) 11 ls st h c n := mx_G_eq (tm_Sg_putWritten zz) r 11 ls st h c n
theorem st_Sg_putWritten_12 (zz : Nat × Nat) (r : mx_T) (ls : mx_L) (st : List Value) (h : mx_H) (c n : Nat) : mx_G r (t_Sg_putWritten zz) 12 ls st h c n = (o_call 0 0 1 0 0 (mx_rv 2) (S_Sg_bits zz)) r (mx_G r (t_Sg_putWritten zz)) 12 ls st h c n := mx_G_eq (tm_Sg_putWritten zz) r 12 ls st h c n
theorem st_Sg_putWritten_15 (zz : Nat × Nat) (r : mx_T) (ls : mx_L) (st : List Value) (h : mx_H) (c n : Nat) : mx_G r (t_Sg_putWritten zz) 15 ls st h c n = (o_push 3 (.long (-1))) r (mx_G r (t_Sg_putWritten zz)) 15 ls st h c n := mx_G_eq (tm_Sg_putWritten zz) r 15 ls st h c n
theorem st_Sg_putWritten_18 (zz : Nat × Nat) (r : mx_T) (ls : mx_L) (st : List Value) (h : mx_H) (c n : Nat) : mx_G r (t_Sg_putWritten zz) 18 ls st h c n = (o_ll (fun x y => .long (x ^^^ y))) r (mx_G r (t_Sg_putWritten zz)) 18 ls st h c n := mx_G_eq (tm_Sg_putWritten zz) r 18 ls st h c n
theorem st_Sg_putWritten_19 (zz : Nat × Nat) (r : mx_T) (ls : mx_L) (st : List Value) (h : mx_H) (c n : Nat) : mx_G r (t_Sg_putWritten zz) 19 ls st h c n = (o_ll (fun x y => .long (x &&& y))) r (mx_G r (t_Sg_putWritten zz)) 19 ls st h c n := mx_G_eq (tm_Sg_putWritten zz) r 19 ls st h c n
theorem st_Sg_putWritten_20 (zz : Nat × Nat) (r : mx_T) (ls : mx_L) (st : List Value) (h : mx_H) (c n : Nat) : mx_G r (t_Sg_putWritten zz) 20 ls st h c n = (o_iload 1 1) r (mx_G r (t_Sg_putWritten zz)) 20 ls st h c n := mx_G_eq (tm_Sg_putWritten zz) r 20 ls st h c n
theorem st_Sg_putWritten_21 (zz : Nat × Nat) (r : mx_T) (ls : mx_L) (st : List Value) (h : mx_H) (c n : Nat) : mx_G r (t_Sg_putWritten zz) 21 ls st h c n = (o_i1 (fun x => .long x.toInt64)) r (mx_G r (t_Sg_putWritten zz)) 21 ls st h c n := mx_G_eq (tm_Sg_putWritten zz) r 21 ls st h c n
theorem st_Sg_putWritten_22 (zz : Nat × Nat) (r : mx_T) (ls : mx_L) (st : List Value) (h : mx_H) (c n : Nat) : mx_G r (t_Sg_putWritten zz) 22 ls st h c n = (o_aload 1 0) r (mx_G r (t_Sg_putWritten zz)) 22 ls st h c n := mx_G_eq (tm_Sg_putWritten zz) r 22 ls st h c n
theorem st_Sg_putWritten_23 (zz : Nat × Nat) (r : mx_T) (ls : mx_L) (st : List Value) (h : mx_H) (c n : Nat) : mx_G r (t_Sg_putWritten zz) 23 ls st h c n = (o_get 2 1) r (mx_G r (t_Sg_putWritten zz)) 23 ls st h c n := mx_G_eq (tm_Sg_putWritten zz) r 23 ls st h c n
theorem st_Sg_putWritten_26 (zz : Nat × Nat) (r : mx_T) (ls : mx_L) (st : List Value) (h : mx_H) (c n : Nat) : mx_G r (t_Sg_putWritten zz) 26 ls st h c n = (o_li (fun x y => x <<< (y.toInt64 &&& 63))) r (mx_G r (t_Sg_putWritten zz)) 26 ls st h c n := mx_G_eq (tm_Sg_putWritten zz) r 26 ls st h c n
theorem st_Sg_putWritten_27 (zz : Nat × Nat) (r : mx_T) (ls : mx_L) (st : List Value) (h : mx_H) (c n : Nat) : mx_G r (t_Sg_putWritten zz) 27 ls st h c n = (o_ll (fun x y => .long (x ||| y))) r (mx_G r (t_Sg_putWritten zz)) 27 ls st h c n := mx_G_eq (tm_Sg_putWritten zz) r 27 ls st h c n
theorem st_Sg_putWritten_28 (zz : Nat × Nat) (r : mx_T) (ls : mx_L) (st : List Value) (h : mx_H) (c n : Nat) : mx_G r (t_Sg_putWritten zz) 28 ls st h c n = (o_put 1 5 mx_vJ) r (mx_G r (t_Sg_putWritten zz)) 28 ls st h c n := mx_G_eq (tm_Sg_putWritten zz) r 28 ls st h c n
theorem st_Sg_putWritten_31 (zz : Nat × Nat) (r : mx_T) (ls : mx_L) (st : List Value) (h : mx_H) (c n : Nat) : mx_G r (t_Sg_putWritten zz) 31 ls st h c n = (o_vret) r (mx_G r (t_Sg_putWritten zz)) 31 ls st h c n := mx_G_eq (tm_Sg_putWritten zz) r 31 ls st h c n
theorem d_Hs_signal_0 : decode c_Hs_signal 0 = .ok (.aload_n 0, 1) := by decide +kernel
theorem d_Hs_signal_1 : decode c_Hs_signal 1 = .ok (.iload_n 1, 1) := by decide +kernel
theorem d_Hs_signal_2 : decode c_Hs_signal 2 = .ok (.invokevirtual 83, 3) := by decide +kernel
theorem d_Hs_signal_5 : decode c_Hs_signal 5 = .ok (.astore 5, 2) := by decide +kernel
theorem d_Hs_signal_7 : decode c_Hs_signal 7 = .ok (.aload_n 0, 1) := by decide +kernel
theorem d_Hs_signal_8 : decode c_Hs_signal 8 = .ok (.getfield 47, 3) := by decide +kernel
theorem d_Hs_signal_11 : decode c_Hs_signal 11 = .ok (.ifCond .ne 20, 3) := by decide +kernel
theorem d_Hs_signal_14 : decode c_Hs_signal 14 = .ok (.aload_n 0, 1) := by decide +kernel
theorem d_Hs_signal_15 : decode c_Hs_signal 15 = .ok (.getfield 16, 3) := by decide +kernel
theorem d_Hs_signal_18 : decode c_Hs_signal 18 = .ok (.invokevirtual 58, 3) := by decide +kernel
theorem d_Hs_signal_21 : decode c_Hs_signal 21 = .ok (.bipush 16, 2) := by decide +kernel
theorem d_Hs_signal_23 : decode c_Hs_signal 23 = .ok (.if_icmp .ge 8, 3) := by decide +kernel
theorem d_Hs_signal_26 : decode c_Hs_signal 26 = .ok (.aload 5, 2) := by decide +kernel
theorem d_Hs_signal_28 : decode c_Hs_signal 28 = .ok (.ifnonnull 5, 3) := by decide +kernel
theorem d_Hs_signal_31 : decode c_Hs_signal 31 = .ok (.iconst (-1), 1) := by decide +kernel
theorem d_Hs_signal_32 : decode c_Hs_signal 32 = .ok (.ireturn, 1) := by decide +kernel
theorem d_Hs_signal_33 : decode c_Hs_signal 33 = .ok (.iload_n 3, 1) := by decide +kernel
theorem d_Hs_signal_34 : decode c_Hs_signal 34 = .ok (.iconst 1, 1) := by decide +kernel
theorem d_Hs_signal_35 : decode c_Hs_signal 35 = .ok (.bipush 16, 2) := by decide +kernel
theorem d_Hs_signal_37 : decode c_Hs_signal 37 = .ok (.invokestatic 66, 3) := by decide +kernel
theorem d_Hs_signal_40 : decode c_Hs_signal 40 = .ok (.ifCond .eq 21, 3) := by decide +kernel
theorem d_Hs_signal_43 : decode c_Hs_signal 43 = .ok (.iload_n 2, 1) := by decide +kernel
theorem d_Hs_signal_44 : decode c_Hs_signal 44 = .ok (.iconst 0, 1) := by decide +kernel
theorem d_Hs_signal_45 : decode c_Hs_signal 45 = .ok (.bipush 8, 2) := by decide +kernel
theorem d_Hs_signal_47 : decode c_Hs_signal 47 = .ok (.aload 5, 2) := by decide +kernel
theorem d_Hs_signal_49 : decode c_Hs_signal 49 = .ok (.getfield 87, 3) := by decide +kernel
theorem d_Hs_signal_52 : decode c_Hs_signal 52 = .ok (.imul, 1) := by decide +kernel
theorem d_Hs_signal_53 : decode c_Hs_signal 53 = .ok (.iload_n 3, 1) := by decide +kernel
theorem d_Hs_signal_54 : decode c_Hs_signal 54 = .ok (.isub, 1) := by decide +kernel
theorem d_Hs_signal_55 : decode c_Hs_signal 55 = .ok (.invokestatic 66, 3) := by decide +kernel
theorem d_Hs_signal_58 : decode c_Hs_signal 58 = .ok (.ifCond .ne 5, 3) := by decide +kernel
theorem d_Hs_signal_61 : decode c_Hs_signal 61 = .ok (.iconst (-1), 1) := by decide +kernel
theorem d_Hs_signal_62 : decode c_Hs_signal 62 = .ok (.ireturn, 1) := by decide +kernel
theorem d_Hs_signal_63 : decode c_Hs_signal 63 = .ok (.new 90, 3) := by decide +kernel
theorem d_Hs_signal_66 : decode c_Hs_signal 66 = .ok (.dup, 1) := by decide +kernel
theorem d_Hs_signal_67 : decode c_Hs_signal 67 = .ok (.aload 5, 2) := by decide +kernel
theorem d_Hs_signal_69 : decode c_Hs_signal 69 = .ok (.iload_n 2, 1) := by decide +kernel
theorem d_Hs_signal_70 : decode c_Hs_signal 70 = .ok (.iload_n 3, 1) := by decide +kernel
theorem d_Hs_signal_71 : decode c_Hs_signal 71 = .ok (.iload 4, 2) := by decide +kernel
theorem d_Hs_signal_73 : decode c_Hs_signal 73 = .ok (.invokespecial 92, 3) := by decide +kernel
theorem d_Hs_signal_76 : decode c_Hs_signal 76 = .ok (.astore 6, 2) := by decide +kernel
theorem d_Hs_signal_78 : decode c_Hs_signal 78 = .ok (.aload 5, 2) := by decide +kernel
theorem d_Hs_signal_80 : decode c_Hs_signal 80 = .ok (.getfield 95, 3) := by decide +kernel
theorem d_Hs_signal_83 : decode c_Hs_signal 83 = .ok (.aload 6, 2) := by decide +kernel
theorem d_Hs_signal_85 : decode c_Hs_signal 85 = .ok (.invokevirtual 99, 3) := by decide +kernel
theorem d_Hs_signal_88 : decode c_Hs_signal 88 = .ok (.land, 1) := by decide +kernel
theorem d_Hs_signal_89 : decode c_Hs_signal 89 = .ok (.lconst 0, 1) := by decide +kernel
theorem d_Hs_signal_90 : decode c_Hs_signal 90 = .ok (.lcmp, 1) := by decide +kernel
theorem d_Hs_signal_91 : decode c_Hs_signal 91 = .ok (.ifCond .ne 13, 3) := by decide +kernel
theorem d_Hs_signal_94 : decode c_Hs_signal 94 = .ok (.aload 6, 2) := by decide +kernel
theorem d_Hs_signal_96 : decode c_Hs_signal 96 = .ok (.iload 4, 2) := by decide +kernel
theorem d_Hs_signal_98 : decode c_Hs_signal 98 = .ok (.invokevirtual 103, 3) := by decide +kernel
theorem d_Hs_signal_101 : decode c_Hs_signal 101 = .ok (.ifCond .ne 5, 3) := by decide +kernel
theorem d_Hs_signal_104 : decode c_Hs_signal 104 = .ok (.iconst (-1), 1) := by decide +kernel
theorem d_Hs_signal_105 : decode c_Hs_signal 105 = .ok (.ireturn, 1) := by decide +kernel
theorem d_Hs_signal_106 : decode c_Hs_signal 106 = .ok (.aload 5, 2) := by decide +kernel
theorem d_Hs_signal_108 : decode c_Hs_signal 108 = .ok (.dup, 1) := by decide +kernel
theorem d_Hs_signal_109 : decode c_Hs_signal 109 = .ok (.getfield 95, 3) := by decide +kernel
theorem d_Hs_signal_112 : decode c_Hs_signal 112 = .ok (.aload 6, 2) := by decide +kernel
theorem d_Hs_signal_114 : decode c_Hs_signal 114 = .ok (.invokevirtual 99, 3) := by decide +kernel
theorem d_Hs_signal_117 : decode c_Hs_signal 117 = .ok (.lor, 1) := by decide +kernel
theorem d_Hs_signal_118 : decode c_Hs_signal 118 = .ok (.putfield 95, 3) := by decide +kernel
theorem d_Hs_signal_121 : decode c_Hs_signal 121 = .ok (.aload 6, 2) := by decide +kernel
theorem d_Hs_signal_123 : decode c_Hs_signal 123 = .ok (.iload 4, 2) := by decide +kernel
theorem d_Hs_signal_125 : decode c_Hs_signal 125 = .ok (.invokevirtual 106, 3) := by decide +kernel
theorem d_Hs_signal_128 : decode c_Hs_signal 128 = .ok (.aload_n 0, 1) := by decide +kernel
theorem d_Hs_signal_129 : decode c_Hs_signal 129 = .ok (.getfield 16, 3) := by decide +kernel
theorem d_Hs_signal_132 : decode c_Hs_signal 132 = .ok (.aload 6, 2) := by decide +kernel
theorem d_Hs_signal_134 : decode c_Hs_signal 134 = .ok (.invokevirtual 79, 3) := by decide +kernel
theorem d_Hs_signal_137 : decode c_Hs_signal 137 = .ok (.pop, 1) := by decide +kernel
theorem d_Hs_signal_138 : decode c_Hs_signal 138 = .ok (.aload_n 0, 1) := by decide +kernel
theorem d_Hs_signal_139 : decode c_Hs_signal 139 = .ok (.getfield 16, 3) := by decide +kernel
theorem d_Hs_signal_142 : decode c_Hs_signal 142 = .ok (.invokevirtual 58, 3) := by decide +kernel
theorem d_Hs_signal_145 : decode c_Hs_signal 145 = .ok (.iconst 1, 1) := by decide +kernel
theorem d_Hs_signal_146 : decode c_Hs_signal 146 = .ok (.isub, 1) := by decide +kernel
theorem d_Hs_signal_147 : decode c_Hs_signal 147 = .ok (.ireturn, 1) := by decide +kernel
def t_Hs_signal (zz : Nat × Nat) : List (Nat × mx_O) := [(0, o_aload 1 0),
  (1, o_iload 1 1),
  (2, o_call 3 133 2 0 0 (mx_rv 0) (S_Hs_frameAt zz)),
  (5, o_astore 2 5),
  (7, o_aload 1 0),
  (8, o_get 0 8),
  (11, o_if 31 (fun x => ¬ x = 0)),
  (14, o_aload 1 0),
  (15, o_get 0 1),
  (18, o_call 3 133 1 0 0 (mx_rv 9) (S_Al_size zz)),
  (21, o_push 2 (.int 16)),
  (23, o_icmp 31 (fun x y => y ≤ x)),
  (26, o_aload 2 5),
  (28, o_ifnonnull 33),
  (31, o_push 1 (.int (-1))),
  (32, o_iret),
  (33, o_iload 1 3),
  (34, o_push 1 (.int 1)),
  (35, o_push 2 (.int 16)),
  (37, o_call 3 133 3 0 0 (fun _ _ => True) (S_Hs_isWithin zz)),
  (40, o_if 61 (fun x => x = 0)),
  (43, o_iload 1 2),
  (44, o_push 1 (.int 0)),
  (45, o_push 2 (.int 8)),
  (47, o_aload 2 5),
  (49, o_get 1 3),
  (52, o_ii (fun x y => x * y)),
  (53, o_iload 1 3),
  (54, o_ii (fun x y => x - y)),
  (55, o_call 3 133 3 0 0 (fun _ _ => True) (S_Hs_isWithin zz)),
  (58, o_if 63 (fun x => ¬ x = 0)),
  (61, o_push 1 (.int (-1))),
  (62, o_iret),
  (63, o_new 3 133 2 5 [.null, .int 0, .int 0, .int 0, .int 0]),
  (66, o_dup),
  (67, o_aload 2 5),
  (69, o_iload 1 2),
  (70, o_iload 1 3),
  (71, o_iload 2 4),
  (73, o_call 3 133 5 0 0 mx_rr (S_Sg_init zz)),
  (76, o_astore 2 6),
  (78, o_aload 2 5),
  (80, o_get 1 6),
  (83, o_aload 2 6),
  (85, o_call 3 133 1 0 0 (mx_rv 2) (S_Sg_bits zz)),
  (88, o_ll (fun x y => .long (x &&& y))),
  (89, o_push 1 (.long 0)),
  (90, o_ll (fun x y => .int (lg_cmp x y))),
  (91, o_if 104 (fun x => ¬ x = 0)),
  (94, o_aload 2 6),
  (96, o_iload 2 4),
  (98, o_call 3 133 2 0 0 (mx_rv 2) (S_Sg_canHold zz)),
  (101, o_if 106 (fun x => ¬ x = 0)),
  (104, o_push 1 (.int (-1))),
  (105, o_iret),
  (106, o_aload 2 5),
  (108, o_dup),
  (109, o_get 1 6),
  (112, o_aload 2 6),
  (114, o_call 3 133 1 0 0 (mx_rv 2) (S_Sg_bits zz)),
  (117, o_ll (fun x y => .long (x ||| y))),
  (118, o_put 1 6 mx_vJ),
  (121, o_aload 2 6),
  (123, o_iload 2 4),
  (125, o_call 3 133 2 0 0 (mx_rv 2) (S_Sg_putWritten zz)),
  (128, o_aload 1 0),
  (129, o_get 0 1),
  (132, o_aload 2 6),
  (134, o_call 3 133 2 2 128 (mx_rv 9) (S_Al_add zz)),
  (137, o_pop),
  (138, o_aload 1 0),
  (139, o_get 0 1),
  (142, o_call 3 133 1 0 0 (mx_rv 9) (S_Al_size zz)),
  (145, o_push 1 (.int 1)),
  (146, o_ii (fun x y => x - y)),
  (147, o_iret)]
set_option maxRecDepth 100000 in
theorem tm_Hs_signal (zz : Nat × Nat) : mx_All (fun _ o => mx_Mono o) (t_Hs_signal zz) := by
  refine mx_all_cons (mo_st) ?_
  refine mx_all_cons (mo_st) ?_
  refine mx_all_cons (mo_call (sm_Hs_frameAt zz)) ?_
  refine mx_all_cons (mo_st) ?_
  refine mx_all_cons (mo_st) ?_
  refine mx_all_cons (mo_st) ?_
  refine mx_all_cons (mo_br) ?_
  refine mx_all_cons (mo_st) ?_
  refine mx_all_cons (mo_st) ?_
  refine mx_all_cons (mo_call (sm_Al_size zz)) ?_
  refine mx_all_cons (mo_st) ?_
  refine mx_all_cons (mo_br) ?_
  refine mx_all_cons (mo_st) ?_
  refine mx_all_cons (mo_st) ?_
  refine mx_all_cons (mo_st) ?_
  refine mx_all_cons (mo_ret) ?_
  refine mx_all_cons (mo_st) ?_
  refine mx_all_cons (mo_st) ?_
  refine mx_all_cons (mo_st) ?_
  refine mx_all_cons (mo_call (sm_Hs_isWithin zz)) ?_
  refine mx_all_cons (mo_br) ?_
  refine mx_all_cons (mo_st) ?_
  refine mx_all_cons (mo_st) ?_
  refine mx_all_cons (mo_st) ?_
  refine mx_all_cons (mo_st) ?_
  refine mx_all_cons (mo_st) ?_
  refine mx_all_cons (mo_st) ?_
  refine mx_all_cons (mo_st) ?_
  refine mx_all_cons (mo_st) ?_
  refine mx_all_cons (mo_call (sm_Hs_isWithin zz)) ?_
  refine mx_all_cons (mo_br) ?_
  refine mx_all_cons (mo_st) ?_
  refine mx_all_cons (mo_ret) ?_
  refine mx_all_cons (mo_al) ?_
  refine mx_all_cons (mo_st) ?_
  refine mx_all_cons (mo_st) ?_
  refine mx_all_cons (mo_st) ?_
  refine mx_all_cons (mo_st) ?_
  refine mx_all_cons (mo_st) ?_
  refine mx_all_cons (mo_call (sm_Sg_init zz)) ?_
  refine mx_all_cons (mo_st) ?_
  refine mx_all_cons (mo_st) ?_
  refine mx_all_cons (mo_st) ?_
  refine mx_all_cons (mo_st) ?_
  refine mx_all_cons (mo_call (sm_Sg_bits zz)) ?_
  refine mx_all_cons (mo_st) ?_
  refine mx_all_cons (mo_st) ?_
  refine mx_all_cons (mo_st) ?_
  refine mx_all_cons (mo_br) ?_
  refine mx_all_cons (mo_st) ?_
  refine mx_all_cons (mo_st) ?_
  refine mx_all_cons (mo_call (sm_Sg_canHold zz)) ?_
  refine mx_all_cons (mo_br) ?_
  refine mx_all_cons (mo_st) ?_
  refine mx_all_cons (mo_ret) ?_
  refine mx_all_cons (mo_st) ?_
  refine mx_all_cons (mo_st) ?_
  refine mx_all_cons (mo_st) ?_
  refine mx_all_cons (mo_st) ?_
  refine mx_all_cons (mo_call (sm_Sg_bits zz)) ?_
  refine mx_all_cons (mo_st) ?_
  refine mx_all_cons (mo_sc) ?_
  refine mx_all_cons (mo_st) ?_
  refine mx_all_cons (mo_st) ?_
  refine mx_all_cons (mo_call (sm_Sg_putWritten zz)) ?_
  refine mx_all_cons (mo_st) ?_
  refine mx_all_cons (mo_st) ?_
  refine mx_all_cons (mo_st) ?_
  refine mx_all_cons (mo_call (sm_Al_add zz)) ?_
  refine mx_all_cons (mo_st) ?_
  refine mx_all_cons (mo_st) ?_
  refine mx_all_cons (mo_st) ?_
  refine mx_all_cons (mo_call (sm_Al_size zz)) ?_
  refine mx_all_cons (mo_st) ?_
  refine mx_all_cons (mo_st) ?_
  refine mx_all_cons (mo_ret) ?_
  exact mx_all_nil
def S_Hs_signal (zz : Nat × Nat) : mx_Sp := mx_S 7 3 133 (t_Hs_signal zz)
theorem sm_Hs_signal (zz : Nat × Nat) : mx_SMono (S_Hs_signal zz) := mx_S_mono (tm_Hs_signal zz)
abbrev rm_Hs_signal : Room := { frames := 7, cells := 3, slots := 133, locals := 191 }
set_option maxHeartbeats 4000000 in
set_option maxRecDepth 100000 in
theorem m_Hs_signal (l : Launch) (zz : Nat × Nat) : mx_Met l y_Hs_signal (wsOf y_Hs_signal c_Hs_signal 7 (some .int)) rm_Hs_signal wcl (mx_Z zz) 3 133 (S_Hs_signal zz) := by
  refine mx_met (cc := c_Hs_signal) (ret := (some .int)) (by decide) rfl ?_
  intro p e s m args below meth c D A Post X hz hr hlk hnm
  have hm : ∀ w ∈ mw, w.before args s = true := fun w h => X.1.2.2.2.2 w (List.mem_cons_of_mem _ h)
  refine mx_all_cons (ok_aload (fun hl kk => lv_aload_n X.1.1 X.1.2.1 d_Hs_signal_0 rfl hl kk) (fun hl kk => lv_aload_nN X.1.1 X.1.2.1 d_Hs_signal_0 rfl hl kk)) ?_
  refine mx_all_cons (ok_iload (fun hl kk => lv_iload_n X.1.1 X.1.2.1 d_Hs_signal_1 rfl hl kk)) ?_
  refine mx_all_cons (ok_callV (C := "HeaderSchedule") (T := T_Hs) (N := 11) X (mx_Zok_Z zz) hz ⟨(Nat.le_of_ble_eq_true rfl), (Nat.le_of_ble_eq_true rfl)⟩ (m_Hs_frameAt l zz) ⟨mx_cwB 1 hm w322 w319 w33 rfl rfl (by decide +kernel) ⟨(Nat.le_of_ble_eq_true rfl), (Nat.le_of_ble_eq_true rfl)⟩, (hm _ w321), hm _ w4⟩ rfl d_Hs_signal_2) ?_
  refine mx_all_cons (ok_astore (fun hl kk => lv_astore X.1.1 X.1.2.1 d_Hs_signal_5 hl (by decide) rfl kk) (fun hl kk => lv_astoreN X.1.1 X.1.2.1 d_Hs_signal_5 hl (by decide) rfl kk)) ?_
  refine mx_all_cons (ok_aload (fun hl kk => lv_aload_n X.1.1 X.1.2.1 d_Hs_signal_7 rfl hl kk) (fun hl kk => lv_aload_nN X.1.1 X.1.2.1 d_Hs_signal_7 rfl hl kk)) ?_
  refine mx_all_cons (ok_get (C := "HeaderSchedule") (T := T_Hs) (N := 11) X (mw_up in_Hs) rfl 8 (by decide) (hm _ w166) (fun _ h9 => h9) d_Hs_signal_8) ?_
  refine mx_all_cons (ok_if (fun kt kf => lv_if_ne X.1.1 X.1.2.1 d_Hs_signal_11 (by decide) kt (fun z => kf (fun g => g z)))) ?_
  refine mx_all_cons (ok_aload (fun hl kk => lv_aload_n X.1.1 X.1.2.1 d_Hs_signal_14 rfl hl kk) (fun hl kk => lv_aload_nN X.1.1 X.1.2.1 d_Hs_signal_14 rfl hl kk)) ?_
  refine mx_all_cons (ok_get (C := "HeaderSchedule") (T := T_Hs) (N := 11) X (mw_up in_Hs) rfl 1 (by decide) (hm _ w159) (fun _ h9 => h9) d_Hs_signal_15) ?_
  refine mx_all_cons (ok_callV (C := "java/util/ArrayList") (T := T_Al) (N := 3) X (mx_Zok_Z zz) hz ⟨(Nat.le_of_ble_eq_true rfl), (Nat.le_of_ble_eq_true rfl)⟩ (m_Al_size l zz) ⟨mx_cwB 0 hm w199 w196 w36 rfl rfl (by decide +kernel) ⟨(Nat.le_of_ble_eq_true rfl), (Nat.le_of_ble_eq_true rfl)⟩, (hm _ w197), hm _ w198⟩ rfl d_Hs_signal_18) ?_
  refine mx_all_cons (ok_push (fun kk => lv_bipush X.1.1 X.1.2.1 d_Hs_signal_21 (by decide) kk)) ?_
  refine mx_all_cons (ok_icmp (fun kt kf => lv_icmp_ge X.1.1 X.1.2.1 d_Hs_signal_23 (by decide) kt kf)) ?_
  refine mx_all_cons (ok_aload (fun hl kk => lv_aload X.1.1 X.1.2.1 d_Hs_signal_26 hl kk) (fun hl kk => lv_aloadN X.1.1 X.1.2.1 d_Hs_signal_26 hl kk)) ?_
  refine mx_all_cons (ok_ifnonnull X d_Hs_signal_28 (by decide)) ?_
  refine mx_all_cons (ok_push (fun kk => lv_iconst X.1.1 X.1.2.1 d_Hs_signal_31 (by decide) kk)) ?_
  refine mx_all_cons (ok_iret X hr hlk d_Hs_signal_32) ?_
  refine mx_all_cons (ok_iload (fun hl kk => lv_iload_n X.1.1 X.1.2.1 d_Hs_signal_33 rfl hl kk)) ?_
  refine mx_all_cons (ok_push (fun kk => lv_iconst X.1.1 X.1.2.1 d_Hs_signal_34 (by decide) kk)) ?_
  refine mx_all_cons (ok_push (fun kk => lv_bipush X.1.1 X.1.2.1 d_Hs_signal_35 (by decide) kk)) ?_
  refine mx_all_cons (ok_callS X (mx_Zok_Z zz) hz ⟨(Nat.le_of_ble_eq_true rfl), (Nat.le_of_ble_eq_true rfl)⟩ (m_Hs_isWithin l zz) ⟨mx_cwB 3 hm w206 w204 w33 rfl rfl (by decide +kernel) ⟨(Nat.le_of_ble_eq_true rfl), (Nat.le_of_ble_eq_true rfl)⟩, (hm _ w205)⟩ d_Hs_signal_37) ?_
  refine mx_all_cons (ok_if (fun kt kf => lv_if_eq X.1.1 X.1.2.1 d_Hs_signal_40 (by decide) kt kf)) ?_
  refine mx_all_cons (ok_iload (fun hl kk => lv_iload_n X.1.1 X.1.2.1 d_Hs_signal_43 rfl hl kk)) ?_
  refine mx_all_cons (ok_push (fun kk => lv_iconst X.1.1 X.1.2.1 d_Hs_signal_44 (by decide) kk)) ?_
  refine mx_all_cons (ok_push (fun kk => lv_bipush X.1.1 X.1.2.1 d_Hs_signal_45 (by decide) kk)) ?_
  refine mx_all_cons (ok_aload (fun hl kk => lv_aload X.1.1 X.1.2.1 d_Hs_signal_47 hl kk) (fun hl kk => lv_aloadN X.1.1 X.1.2.1 d_Hs_signal_47 hl kk)) ?_
  refine mx_all_cons (ok_get (C := "HeaderSchedule$Frame") (T := T_Fr) (N := 8) X (mw_up in_Fr) rfl 3 (by decide) (hm _ w228) (fun _ h9 => h9) d_Hs_signal_49) ?_
  refine mx_all_cons (ok_ii (fun kk => lv_imul X.1.1 X.1.2.1 d_Hs_signal_52 kk)) ?_
  refine mx_all_cons (ok_iload (fun hl kk => lv_iload_n X.1.1 X.1.2.1 d_Hs_signal_53 rfl hl kk)) ?_
  refine mx_all_cons (ok_ii (fun kk => lv_isub X.1.1 X.1.2.1 d_Hs_signal_54 kk)) ?_
  refine mx_all_cons (ok_callS X (mx_Zok_Z zz) hz ⟨(Nat.le_of_ble_eq_true rfl), (Nat.le_of_ble_eq_true rfl)⟩ (m_Hs_isWithin l zz) ⟨mx_cwB 3 hm w206 w204 w33 rfl rfl (by decide +kernel) ⟨(Nat.le_of_ble_eq_true rfl), (Nat.le_of_ble_eq_true rfl)⟩, (hm _ w205)⟩ d_Hs_signal_55) ?_
  refine mx_all_cons (ok_if (fun kt kf => lv_if_ne X.1.1 X.1.2.1 d_Hs_signal_58 (by decide) kt (fun z => kf (fun g => g z)))) ?_
  refine mx_all_cons (ok_push (fun kk => lv_iconst X.1.1 X.1.2.1 d_Hs_signal_61 (by decide) kk)) ?_
  refine mx_all_cons (ok_iret X hr hlk d_Hs_signal_62) ?_
  refine mx_all_cons (ok_new (C := "HeaderSchedule$Signal") (T := T_Sg) X ⟨(Nat.le_of_ble_eq_true rfl), (Nat.le_of_ble_eq_true rfl)⟩ (mw_up in_Sg) ty_Sg tyok_Sg rfl (hm _ w337) (hm _ w338) (hm _ w48) (by decide) d_Hs_signal_63) ?_
  refine mx_all_cons (ok_dup X d_Hs_signal_66) ?_
  refine mx_all_cons (ok_aload (fun hl kk => lv_aload X.1.1 X.1.2.1 d_Hs_signal_67 hl kk) (fun hl kk => lv_aloadN X.1.1 X.1.2.1 d_Hs_signal_67 hl kk)) ?_
  refine mx_all_cons (ok_iload (fun hl kk => lv_iload_n X.1.1 X.1.2.1 d_Hs_signal_69 rfl hl kk)) ?_
  refine mx_all_cons (ok_iload (fun hl kk => lv_iload_n X.1.1 X.1.2.1 d_Hs_signal_70 rfl hl kk)) ?_
  refine mx_all_cons (ok_iload (fun hl kk => lv_iload X.1.1 X.1.2.1 d_Hs_signal_71 hl kk)) ?_
  refine mx_all_cons (ok_callI X (mx_Zok_Z zz) hz ⟨(Nat.le_of_ble_eq_true rfl), (Nat.le_of_ble_eq_true rfl)⟩ (m_Sg_init l zz) ⟨mx_cwB 4 hm w341 w339 w48 rfl rfl (by decide +kernel) ⟨(Nat.le_of_ble_eq_true rfl), (Nat.le_of_ble_eq_true rfl)⟩, rfl, (hm _ w340)⟩ d_Hs_signal_73) ?_
  refine mx_all_cons (ok_astore (fun hl kk => lv_astore X.1.1 X.1.2.1 d_Hs_signal_76 hl (by decide) rfl kk) (fun hl kk => lv_astoreN X.1.1 X.1.2.1 d_Hs_signal_76 hl (by decide) rfl kk)) ?_
  refine mx_all_cons (ok_aload (fun hl kk => lv_aload X.1.1 X.1.2.1 d_Hs_signal_78 hl kk) (fun hl kk => lv_aloadN X.1.1 X.1.2.1 d_Hs_signal_78 hl kk)) ?_
  refine mx_all_cons (ok_get (C := "HeaderSchedule$Frame") (T := T_Fr) (N := 8) X (mw_up in_Fr) rfl 6 (by decide) (hm _ w235) (fun _ h9 => h9) d_Hs_signal_80) ?_
  refine mx_all_cons (ok_aload (fun hl kk => lv_aload X.1.1 X.1.2.1 d_Hs_signal_83 hl kk) (fun hl kk => lv_aloadN X.1.1 X.1.2.1 d_Hs_signal_83 hl kk)) ?_
  refine mx_all_cons (ok_callV (C := "HeaderSchedule$Signal") (T := T_Sg) (N := 5) X (mx_Zok_Z zz) hz ⟨(Nat.le_of_ble_eq_true rfl), (Nat.le_of_ble_eq_true rfl)⟩ (m_Sg_bits l zz) ⟨mx_cwB 0 hm w365 w362 w48 rfl rfl (by decide +kernel) ⟨(Nat.le_of_ble_eq_true rfl), (Nat.le_of_ble_eq_true rfl)⟩, (hm _ w363), hm _ w364⟩ rfl d_Hs_signal_85) ?_
  refine mx_all_cons (ok_ll (fun kk => lv_land X.1.1 X.1.2.1 d_Hs_signal_88 kk)) ?_
  refine mx_all_cons (ok_push (fun kk => lv_lconst X.1.1 X.1.2.1 d_Hs_signal_89 (by decide) kk)) ?_
  refine mx_all_cons (ok_ll (fun kk => W.lcmp X.1.1 X.1.2.1 d_Hs_signal_90 kk)) ?_
  refine mx_all_cons (ok_if (fun kt kf => lv_if_ne X.1.1 X.1.2.1 d_Hs_signal_91 (by decide) kt (fun z => kf (fun g => g z)))) ?_
  refine mx_all_cons (ok_aload (fun hl kk => lv_aload X.1.1 X.1.2.1 d_Hs_signal_94 hl kk) (fun hl kk => lv_aloadN X.1.1 X.1.2.1 d_Hs_signal_94 hl kk)) ?_
  refine mx_all_cons (ok_iload (fun hl kk => lv_iload X.1.1 X.1.2.1 d_Hs_signal_96 hl kk)) ?_
  refine mx_all_cons (ok_callV (C := "HeaderSchedule$Signal") (T := T_Sg) (N := 5) X (mx_Zok_Z zz) hz ⟨(Nat.le_of_ble_eq_true rfl), (Nat.le_of_ble_eq_true rfl)⟩ (m_Sg_canHold l zz) ⟨mx_cwB 1 hm w373 w370 w48 rfl rfl (by decide +kernel) ⟨(Nat.le_of_ble_eq_true rfl), (Nat.le_of_ble_eq_true rfl)⟩, (hm _ w371), hm _ w372⟩ rfl d_Hs_signal_98) ?_
  refine mx_all_cons (ok_if (fun kt kf => lv_if_ne X.1.1 X.1.2.1 d_Hs_signal_101 (by decide) kt (fun z => kf (fun g => g z)))) ?_
  refine mx_all_cons (ok_push (fun kk => lv_iconst X.1.1 X.1.2.1 d_Hs_signal_104 (by decide) kk)) ?_
  refine mx_all_cons (ok_iret X hr hlk d_Hs_signal_105) ?_
  refine mx_all_cons (ok_aload (fun hl kk => lv_aload X.1.1 X.1.2.1 d_Hs_signal_106 hl kk) (fun hl kk => lv_aloadN X.1.1 X.1.2.1 d_Hs_signal_106 hl kk)) ?_
  refine mx_all_cons (ok_dup X d_Hs_signal_108) ?_
  refine mx_all_cons (ok_get (C := "HeaderSchedule$Frame") (T := T_Fr) (N := 8) X (mw_up in_Fr) rfl 6 (by decide) (hm _ w235) (fun _ h9 => h9) d_Hs_signal_109) ?_
  refine mx_all_cons (ok_aload (fun hl kk => lv_aload X.1.1 X.1.2.1 d_Hs_signal_112 hl kk) (fun hl kk => lv_aloadN X.1.1 X.1.2.1 d_Hs_signal_112 hl kk)) ?_
  refine mx_all_cons (ok_callV (C := "HeaderSchedule$Signal") (T := T_Sg) (N := 5) X (mx_Zok_Z zz) hz ⟨(Nat.le_of_ble_eq_true rfl), (Nat.le_of_ble_eq_true rfl)⟩ (m_Sg_bits l zz) ⟨mx_cwB 0 hm w365 w362 w48 rfl rfl (by decide +kernel) ⟨(Nat.le_of_ble_eq_true rfl), (Nat.le_of_ble_eq_true rfl)⟩, (hm _ w363), hm _ w364⟩ rfl d_Hs_signal_114) ?_
  refine mx_all_cons (ok_ll (fun kk => lv_lor X.1.1 X.1.2.1 d_Hs_signal_117 kk)) ?_
  refine mx_all_cons (ok_put (C := "HeaderSchedule$Frame") (T := T_Fr) (N := 8) X (mw_up in_Fr) ty_Fr tyok_Fr nm_Fr rfl 6 (by decide) (hm _ w235) (fun _ h9 => h9) rfl (tyok_Fr 6 (by decide)) mx_vJ_ok d_Hs_signal_118) ?_
  refine mx_all_cons (ok_aload (fun hl kk => lv_aload X.1.1 X.1.2.1 d_Hs_signal_121 hl kk) (fun hl kk => lv_aloadN X.1.1 X.1.2.1 d_Hs_signal_121 hl kk)) ?_
  refine mx_all_cons (ok_iload (fun hl kk => lv_iload X.1.1 X.1.2.1 d_Hs_signal_123 hl kk)) ?_
  refine mx_all_cons (ok_callV (C := "HeaderSchedule$Signal") (T := T_Sg) (N := 5) X (mx_Zok_Z zz) hz ⟨(Nat.le_of_ble_eq_true rfl), (Nat.le_of_ble_eq_true rfl)⟩ (m_Sg_putWritten l zz) ⟨mx_cwB 1 hm w377 w374 w48 rfl rfl (by decide +kernel) ⟨(Nat.le_of_ble_eq_true rfl), (Nat.le_of_ble_eq_true rfl)⟩, (hm _ w375), hm _ w376⟩ rfl d_Hs_signal_125) ?_
  refine mx_all_cons (ok_aload (fun hl kk => lv_aload_n X.1.1 X.1.2.1 d_Hs_signal_128 rfl hl kk) (fun hl kk => lv_aload_nN X.1.1 X.1.2.1 d_Hs_signal_128 rfl hl kk)) ?_
  refine mx_all_cons (ok_get (C := "HeaderSchedule") (T := T_Hs) (N := 11) X (mw_up in_Hs) rfl 1 (by decide) (hm _ w159) (fun _ h9 => h9) d_Hs_signal_129) ?_
  refine mx_all_cons (ok_aload (fun hl kk => lv_aload X.1.1 X.1.2.1 d_Hs_signal_132 hl kk) (fun hl kk => lv_aloadN X.1.1 X.1.2.1 d_Hs_signal_132 hl kk)) ?_
  refine mx_all_cons (ok_callV (C := "java/util/ArrayList") (T := T_Al) (N := 3) X (mx_Zok_Z zz) hz ⟨(Nat.le_of_ble_eq_true rfl), (Nat.le_of_ble_eq_true rfl)⟩ (m_Al_add l zz) ⟨mx_cwB 1 hm w260 w257 w36 rfl rfl (by decide +kernel) ⟨(Nat.le_of_ble_eq_true rfl), (Nat.le_of_ble_eq_true rfl)⟩, (hm _ w258), hm _ w259⟩ rfl d_Hs_signal_134) ?_
  refine mx_all_cons (ok_pop X d_Hs_signal_137) ?_
  refine mx_all_cons (ok_aload (fun hl kk => lv_aload_n X.1.1 X.1.2.1 d_Hs_signal_138 rfl hl kk) (fun hl kk => lv_aload_nN X.1.1 X.1.2.1 d_Hs_signal_138 rfl hl kk)) ?_
  refine mx_all_cons (ok_get (C := "HeaderSchedule") (T := T_Hs) (N := 11) X (mw_up in_Hs) rfl 1 (by decide) (hm _ w159) (fun _ h9 => h9) d_Hs_signal_139) ?_
  refine mx_all_cons (ok_callV (C := "java/util/ArrayList") (T := T_Al) (N := 3) X (mx_Zok_Z zz) hz ⟨(Nat.le_of_ble_eq_true rfl), (Nat.le_of_ble_eq_true rfl)⟩ (m_Al_size l zz) ⟨mx_cwB 0 hm w199 w196 w36 rfl rfl (by decide +kernel) ⟨(Nat.le_of_ble_eq_true rfl), (Nat.le_of_ble_eq_true rfl)⟩, (hm _ w197), hm _ w198⟩ rfl d_Hs_signal_142) ?_
  refine mx_all_cons (ok_push (fun kk => lv_iconst X.1.1 X.1.2.1 d_Hs_signal_145 (by decide) kk)) ?_
  refine mx_all_cons (ok_ii (fun kk => lv_isub X.1.1 X.1.2.1 d_Hs_signal_146 kk)) ?_
  refine mx_all_cons (ok_iret X hr hlk d_Hs_signal_147) ?_
  exact mx_all_nil
theorem st_Hs_signal_0 (zz : Nat × Nat) (r : mx_T) (ls : mx_L) (st : List Value) (h : mx_H) (c n : Nat) : mx_G r (t_Hs_signal zz) 0 ls st h c n = (o_aload 1 0) r (mx_G r (t_Hs_signal zz)) 0 ls st h c n := mx_G_eq (tm_Hs_signal zz) r 0 ls st h c n
theorem st_Hs_signal_1 (zz : Nat × Nat) (r : mx_T) (ls : mx_L) (st : List Value) (h : mx_H) (c n : Nat) : mx_G r (t_Hs_signal zz) 1 ls st h c n = (o_iload 1 1) r (mx_G r (t_Hs_signal zz)) 1 ls st h c n := mx_G_eq (tm_Hs_signal zz) r 1 ls st h c n
theorem st_Hs_signal_2 (zz : Nat × Nat) (r : mx_T) (ls : mx_L) (st : List Value) (h : mx_H) (c n : Nat) : mx_G r (t_Hs_signal zz) 2 ls st h c n = (o_call 3 133 2 0 0 (mx_rv 0) (S_Hs_frameAt zz)) r (mx_G r (t_Hs_signal zz)) 2 ls st h c n := mx_G_eq (tm_Hs_signal zz) r 2 ls st h c n
theorem st_Hs_signal_5 (zz : Nat × Nat) (r : mx_T) (ls : mx_L) (st : List Value) (h : mx_H) (c n : Nat) : mx_G r (t_Hs_signal zz) 5 ls st h c n = (o_astore 2 5) r (mx_G r (t_Hs_signal zz)) 5 ls st h c n := mx_G_eq (tm_Hs_signal zz) r 5 ls st h c n
theorem st_Hs_signal_7 (zz : Nat × Nat) (r : mx_T) (ls : mx_L) (st : List Value) (h : mx_H) (c n : Nat) : mx_G r (t_Hs_signal zz) 7 ls st h c n = (o_aload 1 0) r (mx_G r (t_Hs_signal zz)) 7 ls st h c n := mx_G_eq (tm_Hs_signal zz) r 7 ls st h c n
theorem st_Hs_signal_8 (zz : Nat × Nat) (r : mx_T) (ls : mx_L) (st : List Value) (h : mx_H) (c n : Nat) : mx_G r (t_Hs_signal zz) 8 ls st h c n = (o_get 0 8) r (mx_G r (t_Hs_signal zz)) 8 ls st h c n := mx_G_eq (tm_Hs_signal zz) r 8 ls st h c n
theorem st_Hs_signal_11 (zz : Nat × Nat) (r : mx_T) (ls : mx_L) (st : List Value) (h : mx_H) (c n : Nat) : mx_G r (t_Hs_signal zz) 11 ls st h c n = (o_if 31 (fun x => ¬ x = 0)) r (mx_G r (t_Hs_signal zz)) 11 ls st h c n := mx_G_eq (tm_Hs_signal zz) r 11 ls st h c n
theorem st_Hs_signal_14 (zz : Nat × Nat) (r : mx_T) (ls : mx_L) (st : List Value) (h : mx_H) (c n : Nat) : mx_G r (t_Hs_signal zz) 14 ls st h c n = (o_aload 1 0) r (mx_G r (t_Hs_signal zz)) 14 ls st h c n := mx_G_eq (tm_Hs_signal zz) r 14 ls st h c n
theorem st_Hs_signal_15 (zz : Nat × Nat) (r : mx_T) (ls : mx_L) (st : List Value) (h : mx_H) (c n : Nat) : mx_G r (t_Hs_signal zz) 15 ls st h c n = (o_get 0 1) r (mx_G r (t_Hs_signal zz)) 15 ls st h c n := mx_G_eq (tm_Hs_signal zz) r 15 ls st h c n
theorem st_Hs_signal_18 (zz : Nat × Nat) (r : mx_T) (ls : mx_L) (st : List Value) (h : mx_H) (c n : Nat) : mx_G r (t_Hs_signal zz) 18 ls st h c n = (o_call 3 133 1 0 0 (mx_rv 9) (S_Al_size zz)) r (mx_G r (t_Hs_signal zz)) 18 ls st h c n := mx_G_eq (tm_Hs_signal zz) r 18 ls st h c n
theorem st_Hs_signal_21 (zz : Nat × Nat) (r : mx_T) (ls : mx_L) (st : List Value) (h : mx_H) (c n : Nat) : mx_G r (t_Hs_signal zz) 21 ls st h c n = (o_push 2 (.int 16)) r (mx_G r (t_Hs_signal zz)) 21 ls st h c n := mx_G_eq (tm_Hs_signal zz) r 21 ls st h c n
theorem st_Hs_signal_23 (zz : Nat × Nat) (r : mx_T) (ls : mx_L) (st : List Value) (h : mx_H) (c n : Nat) : mx_G r (t_Hs_signal zz) 23 ls st h c n = (o_icmp 31 (fun x y => y ≤ x)) r (mx_G r (t_Hs_signal zz)) 23 ls st h c n := mx_G_eq (tm_Hs_signal zz) r 23 ls st h c n
theorem st_Hs_signal_26 (zz : Nat × Nat) (r : mx_T) (ls : mx_L) (st : List Value) (h : mx_H) (c n : Nat) : mx_G r (t_Hs_signal zz) 26 ls st h c n = (o_aload 2 5) r (mx_G r (t_Hs_signal zz)) 26 ls st h c n := mx_G_eq (tm_Hs_signal zz) r 26 ls st h c n
theorem st_Hs_signal_28 (zz : Nat × Nat) (r : mx_T) (ls : mx_L) (st : List Value) (h : mx_H) (c n : Nat) : mx_G r (t_Hs_signal zz) 28 ls st h c n = (o_ifnonnull 33) r (mx_G r (t_Hs_signal zz)) 28 ls st h c n := mx_G_eq (tm_Hs_signal zz) r 28 ls st h c n
theorem st_Hs_signal_31 (zz : Nat × Nat) (r : mx_T) (ls : mx_L) (st : List Value) (h : mx_H) (c n : Nat) : mx_G r (t_Hs_signal zz) 31 ls st h c n = (o_push 1 (.int (-1))) r (mx_G r (t_Hs_signal zz)) 31 ls st h c n := mx_G_eq (tm_Hs_signal zz) r 31 ls st h c n
theorem st_Hs_signal_32 (zz : Nat × Nat) (r : mx_T) (ls : mx_L) (st : List Value) (h : mx_H) (c n : Nat) : mx_G r (t_Hs_signal zz) 32 ls st h c n = (o_iret) r (mx_G r (t_Hs_signal zz)) 32 ls st h c n := mx_G_eq (tm_Hs_signal zz) r 32 ls st h c n
theorem st_Hs_signal_33 (zz : Nat × Nat) (r : mx_T) (ls : mx_L) (st : List Value) (h : mx_H) (c n : Nat) : mx_G r (t_Hs_signal zz) 33 ls st h c n = (o_iload 1 3) r (mx_G r (t_Hs_signal zz)) 33 ls st h c n := mx_G_eq (tm_Hs_signal zz) r 33 ls st h c n
theorem st_Hs_signal_34 (zz : Nat × Nat) (r : mx_T) (ls : mx_L) (st : List Value) (h : mx_H) (c n : Nat) : mx_G r (t_Hs_signal zz) 34 ls st h c n = (o_push 1 (.int 1)) r (mx_G r (t_Hs_signal zz)) 34 ls st h c n := mx_G_eq (tm_Hs_signal zz) r 34 ls st h c n
theorem st_Hs_signal_35 (zz : Nat × Nat) (r : mx_T) (ls : mx_L) (st : List Value) (h : mx_H) (c n : Nat) : mx_G r (t_Hs_signal zz) 35 ls st h c n = (o_push 2 (.int 16)) r (mx_G r (t_Hs_signal zz)) 35 ls st h c n := mx_G_eq (tm_Hs_signal zz) r 35 ls st h c n
theorem st_Hs_signal_37 (zz : Nat × Nat) (r : mx_T) (ls : mx_L) (st : List Value) (h : mx_H) (c n : Nat) : mx_G r (t_Hs_signal zz) 37 ls st h c n = (o_call 3 133 3 0 0 (fun _ _ => True) (S_Hs_isWithin zz)) r (mx_G r (t_Hs_signal zz)) 37 ls st h c n := mx_G_eq (tm_Hs_signal zz) r 37 ls st h c n
theorem st_Hs_signal_40 (zz : Nat × Nat) (r : mx_T) (ls : mx_L) (st : List Value) (h : mx_H) (c n : Nat) : mx_G r (t_Hs_signal zz) 40 ls st h c n = (o_if 61 (fun x => x = 0)) r (mx_G r (t_Hs_signal zz)) 40 ls st h c n := mx_G_eq (tm_Hs_signal zz) r 40 ls st h c n
theorem st_Hs_signal_43 (zz : Nat × Nat) (r : mx_T) (ls : mx_L) (st : List Value) (h : mx_H) (c n : Nat) : mx_G r (t_Hs_signal zz) 43 ls st h c n = (o_iload 1 2) r (mx_G r (t_Hs_signal zz)) 43 ls st h c n := mx_G_eq (tm_Hs_signal zz) r 43 ls st h c n
theorem st_Hs_signal_44 (zz : Nat × Nat) (r : mx_T) (ls : mx_L) (st : List Value) (h : mx_H) (c n : Nat) : mx_G r (t_Hs_signal zz) 44 ls st h c n = (o_push 1 (.int 0)) r (mx_G r (t_Hs_signal zz)) 44 ls st h c n := mx_G_eq (tm_Hs_signal zz) r 44 ls st h c n
theorem st_Hs_signal_45 (zz : Nat × Nat) (r : mx_T) (ls : mx_L) (st : List Value) (h : mx_H) (c n : Nat) : mx_G r (t_Hs_signal zz) 45 ls st h c n = (o_push 2 (.int 8)) r (mx_G r (t_Hs_signal zz)) 45 ls st h c n := mx_G_eq (tm_Hs_signal zz) r 45 ls st h c n
theorem st_Hs_signal_47 (zz : Nat × Nat) (r : mx_T) (ls : mx_L) (st : List Value) (h : mx_H) (c n : Nat) : mx_G r (t_Hs_signal zz) 47 ls st h c n = (o_aload 2 5) r (mx_G r (t_Hs_signal zz)) 47 ls st h c n := mx_G_eq (tm_Hs_signal zz) r 47 ls st h c n
theorem st_Hs_signal_49 (zz : Nat × Nat) (r : mx_T) (ls : mx_L) (st : List Value) (h : mx_H) (c n : Nat) : mx_G r (t_Hs_signal zz) 49 ls st h c n = (o_get 1 3) r (mx_G r (t_Hs_signal zz)) 49 ls st h c n := mx_G_eq (tm_Hs_signal zz) r 49 ls st h c n
theorem st_Hs_signal_52 (zz : Nat × Nat) (r : mx_T) (ls : mx_L) (st : List Value) (h : mx_H) (c n : Nat) : mx_G r (t_Hs_signal zz) 52 ls st h c n = (o_ii (fun x y => x * y)) r (mx_G r (t_Hs_signal zz)) 52 ls st h c n := mx_G_eq (tm_Hs_signal zz) r 52 ls st h c n
theorem st_Hs_signal_53 (zz : Nat × Nat) (r : mx_T) (ls : mx_L) (st : List Value) (h : mx_H) (c n : Nat) : mx_G r (t_Hs_signal zz) 53 ls st h c n = (o_iload 1 3) r (mx_G r (t_Hs_signal zz)) 53 ls st h c n := mx_G_eq (tm_Hs_signal zz) r 53 ls st h c n
theorem st_Hs_signal_54 (zz : Nat × Nat) (r : mx_T) (ls : mx_L) (st : List Value) (h : mx_H) (c n : Nat) : mx_G r (t_Hs_signal zz) 54 ls st h c n = (o_ii (fun x y => x - y)) r (mx_G r (t_Hs_signal zz)) 54 ls st h c n := mx_G_eq (tm_Hs_signal zz) r 54 ls st h c n
theorem st_Hs_signal_55 (zz : Nat × Nat) (r : mx_T) (ls : mx_L) (st : List Value) (h : mx_H) (c n : Nat) : mx_G r (t_Hs_signal zz) 55 ls st h c n = (o_call 3 133 3 0 0 (fun _ _ => True) (S_Hs_isWithin zz)) r (mx_G r (t_Hs_signal zz)) 55 ls st h c n := mx_G_eq (tm_Hs_signal zz) r 55 ls st h c n
theorem st_Hs_signal_58 (zz : Nat × Nat) (r : mx_T) (ls : mx_L) (st : List Value) (h : mx_H) (c n : Nat) : mx_G r (t_Hs_signal zz) 58 ls st h c n = (o_if 63 (fun x => ¬ x = 0)) r (mx_G r (t_Hs_signal zz)) 58 ls st h c n := mx_G_eq (tm_Hs_signal zz) r 58 ls st h c n
theorem st_Hs_signal_61 (zz : Nat × Nat) (r : mx_T) (ls : mx_L) (st : List Value) (h : mx_H) (c n : Nat) : mx_G r (t_Hs_signal zz) 61 ls st h c n = (o_push 1 (.int (-1))) r (mx_G r (t_Hs_signal zz)) 61 ls st h c n := mx_G_eq (tm_Hs_signal zz) r 61 ls st h c n
theorem st_Hs_signal_62 (zz : Nat × Nat) (r : mx_T) (ls : mx_L) (st : List Value) (h : mx_H) (c n : Nat) : mx_G r (t_Hs_signal zz) 62 ls st h c n = (o_iret) r (mx_G r (t_Hs_signal zz)) 62 ls st h c n := mx_G_eq (tm_Hs_signal zz) r 62 ls st h c n
theorem st_Hs_signal_63 (zz : Nat × Nat) (r : mx_T) (ls : mx_L) (st : List Value) (h : mx_H) (c n : Nat) : mx_G r (t_Hs_signal zz) 63 ls st h c n = (o_new 3 133 2 5 [.null, .int 0, .int 0, .int 0, .int 0]) r (mx_G r (t_Hs_signal zz)) 63 ls st h c n := mx_G_eq (tm_Hs_signal zz) r 63 ls st h c n
theorem st_Hs_signal_66 (zz : Nat × Nat) (r : mx_T) (ls : mx_L) (st : List Value) (h : mx_H) (c n : Nat) : mx_G r (t_Hs_signal zz) 66 ls st h c n = (o_dup) r (mx_G r (t_Hs_signal zz)) 66 ls st h c n := mx_G_eq (tm_Hs_signal zz) r 66 ls st h c n
theorem st_Hs_signal_67 (zz : Nat × Nat) (r : mx_T) (ls : mx_L) (st : List Value) (h : mx_H) (c n : Nat) : mx_G r (t_Hs_signal zz) 67 ls st h c n = (o_aload 2 5) r (mx_G r (t_Hs_signal zz)) 67 ls st h c n := mx_G_eq (tm_Hs_signal zz) r 67 ls st h c n
theorem st_Hs_signal_69 (zz : Nat × Nat) (r : mx_T) (ls : mx_L) (st : List Value) (h : mx_H) (c n : Nat) : mx_G r (t_Hs_signal zz) 69 ls st h c n = (o_iload 1 2) r (mx_G r (t_Hs_signal zz)) 69 ls st h c n := mx_G_eq (tm_Hs_signal zz) r 69 ls st h c n
theorem st_Hs_signal_70 (zz : Nat × Nat) (r : mx_T) (ls : mx_L) (st : List Value) (h : mx_H) (c n : Nat) : mx_G r (t_Hs_signal zz) 70 ls st h c n = (o_iload 1 3) r (mx_G r (t_Hs_signal zz)) 70 ls st h c n := mx_G_eq (tm_Hs_signal zz) r 70 ls st h c n
theorem st_Hs_signal_71 (zz : Nat × Nat) (r : mx_T) (ls : mx_L) (st : List Value) (h : mx_H) (c n : Nat) : mx_G r (t_Hs_signal zz) 71 ls st h c n = (o_iload 2 4) r (mx_G r (t_Hs_signal zz)) 71 ls st h c n := mx_G_eq (tm_Hs_signal zz) r 71 ls st h c n
theorem st_Hs_signal_73 (zz : Nat × Nat) (r : mx_T) (ls : mx_L) (st : List Value) (h : mx_H) (c n : Nat) : mx_G r (t_Hs_signal zz) 73 ls st h c n = (o_call 3 133 5 0 0 mx_rr (S_Sg_init zz)) r (mx_G r (t_Hs_signal zz)) 73 ls st h c n := mx_G_eq (tm_Hs_signal zz) r 73 ls st h c n
theorem st_Hs_signal_76 (zz : Nat × Nat) (r : mx_T) (ls : mx_L) (st : List Value) (h : mx_H) (c n : Nat) : mx_G r (t_Hs_signal zz) 76 ls st h c n = (o_astore 2 6) r (mx_G r (t_Hs_signal zz)) 76 ls st h c n := mx_G_eq (tm_Hs_signal zz) r 76 ls st h c n
theorem st_Hs_signal_78 (zz : Nat × Nat) (r : mx_T) (ls : mx_L) (st : List Value) (h : mx_H) (c n : Nat) : mx_G r (t_Hs_signal zz) 78 ls st h c n = (o_aload 2 5) r (mx_G r (t_Hs_signal zz)) 78 ls st h c n := mx_G_eq (tm_Hs_signal zz) r 78 ls st h c n
theorem st_Hs_signal_80 (zz : Nat × Nat) (r : mx_T) (ls : mx_L) (st : List Value) (h : mx_H) (c n : Nat) : mx_G r (t_Hs_signal zz) 80 ls st h c n = (o_get 1 6) r (mx_G r (t_Hs_signal zz)) 80 ls st h c n := mx_G_eq (tm_Hs_signal zz) r 80 ls st h c n
theorem st_Hs_signal_83 (zz : Nat × Nat) (r : mx_T) (ls : mx_L) (st : List Value) (h : mx_H) (c n : Nat) : mx_G r (t_Hs_signal zz) 83 ls st h c n = (o_aload 2 6) r (mx_G r (t_Hs_signal zz)) 83 ls st h c n := mx_G_eq (tm_Hs_signal zz) r 83 ls st h c n
theorem st_Hs_signal_85 (zz : Nat × Nat) (r : mx_T) (ls : mx_L) (st : List Value) (h : mx_H) (c n : Nat) : mx_G r (t_Hs_signal zz) 85 ls st h c n = (o_call 3 133 1 0 0 (mx_rv 2) (S_Sg_bits zz)) r (mx_G r (t_Hs_signal zz)) 85 ls st h c n := mx_G_eq (tm_Hs_signal zz) r 85 ls st h c n
theorem st_Hs_signal_88 (zz : Nat × Nat) (r : mx_T) (ls : mx_L) (st : List Value) (h : mx_H) (c n : Nat) : mx_G r (t_Hs_signal zz) 88 ls st h c n = (o_ll (fun x y => .long (x &&& y))) r (mx_G r (t_Hs_signal zz)) 88 ls st h c n := mx_G_eq (tm_Hs_signal zz) r 88 ls st h c n
theorem st_Hs_signal_89 (zz : Nat × Nat) (r : mx_T) (ls : mx_L) (st : List Value) (h : mx_H) (c n : Nat) : mx_G r (t_Hs_signal zz) 89 ls st h c n = (o_push 1 (.long 0)) r (mx_G r (t_Hs_signal zz)) 89 ls st h c n := mx_G_eq (tm_Hs_signal zz) r 89 ls st h c n
theorem st_Hs_signal_90 (zz : Nat × Nat) (r : mx_T) (ls : mx_L) (st : List Value) (h : mx_H) (c n : Nat) : mx_G r (t_Hs_signal zz) 90 ls st h c n = (o_ll (fun x y => .int (lg_cmp x y))) r (mx_G r (t_Hs_signal zz)) 90 ls st h c n := mx_G_eq (tm_Hs_signal zz) r 90 ls st h c n
theorem st_Hs_signal_91 (zz : Nat × Nat) (r : mx_T) (ls : mx_L) (st : List Value) (h : mx_H) (c n : Nat) : mx_G r (t_Hs_signal zz) 91 ls st h c n = (o_if 104 (fun x => ¬ x = 0)) r (mx_G r (t_Hs_signal zz)) 91 ls st h c n := mx_G_eq (tm_Hs_signal zz) r 91 ls st h c n
theorem st_Hs_signal_94 (zz : Nat × Nat) (r : mx_T) (ls : mx_L) (st : List Value) (h : mx_H) (c n : Nat) : mx_G r (t_Hs_signal zz) 94 ls st h c n = (o_aload 2 6) r (mx_G r (t_Hs_signal zz)) 94 ls st h c n := mx_G_eq (tm_Hs_signal zz) r 94 ls st h c n
theorem st_Hs_signal_96 (zz : Nat × Nat) (r : mx_T) (ls : mx_L) (st : List Value) (h : mx_H) (c n : Nat) : mx_G r (t_Hs_signal zz) 96 ls st h c n = (o_iload 2 4) r (mx_G r (t_Hs_signal zz)) 96 ls st h c n := mx_G_eq (tm_Hs_signal zz) r 96 ls st h c n
theorem st_Hs_signal_98 (zz : Nat × Nat) (r : mx_T) (ls : mx_L) (st : List Value) (h : mx_H) (c n : Nat) : mx_G r (t_Hs_signal zz) 98 ls st h c n = (o_call 3 133 2 0 0 (mx_rv 2) (S_Sg_canHold zz)) r (mx_G r (t_Hs_signal zz)) 98 ls st h c n := mx_G_eq (tm_Hs_signal zz) r 98 ls st h c n
theorem st_Hs_signal_101 (zz : Nat × Nat) (r : mx_T) (ls : mx_L) (st : List Value) (h : mx_H) (c n : Nat) : mx_G r (t_Hs_signal zz) 101 ls st h c n = (o_if 106 (fun x => ¬ x = 0)) r (mx_G r (t_Hs_signal zz)) 101 ls st h c n := mx_G_eq (tm_Hs_signal zz) r 101 ls st h c n
theorem st_Hs_signal_104 (zz : Nat × Nat) (r : mx_T) (ls : mx_L) (st : List Value) (h : mx_H) (c n : Nat) : mx_G r (t_Hs_signal zz) 104 ls st h c n = (o_push 1 (.int (-1))) r (mx_G r (t_Hs_signal zz)) 104 ls st h c n := mx_G_eq (tm_Hs_signal zz) r 104 ls st h c n
theorem st_Hs_signal_105 (zz : Nat × Nat) (r : mx_T) (ls : mx_L) (st : List Value) (h : mx_H) (c n : Nat) : mx_G r (t_Hs_signal zz) 105 ls st h c n = (o_iret) r (mx_G r (t_Hs_signal zz)) 105 ls st h c n := mx_G_eq (tm_Hs_signal zz) r 105 ls st h c n
theorem st_Hs_signal_106 (zz : Nat × Nat) (r : mx_T) (ls : mx_L) (st : List Value) (h : mx_H) (c n : Nat) : mx_G r (t_Hs_signal zz) 106 ls st h c n = (o_aload 2 5) r (mx_G r (t_Hs_signal zz)) 106 ls st h c n := mx_G_eq (tm_Hs_signal zz) r 106 ls st h c n
theorem st_Hs_signal_108 (zz : Nat × Nat) (r : mx_T) (ls : mx_L) (st : List Value) (h : mx_H) (c n : Nat) : mx_G r (t_Hs_signal zz) 108 ls st h c n = (o_dup) r (mx_G r (t_Hs_signal zz)) 108 ls st h c n := mx_G_eq (tm_Hs_signal zz) r 108 ls st h c n
theorem st_Hs_signal_109 (zz : Nat × Nat) (r : mx_T) (ls : mx_L) (st : List Value) (h : mx_H) (c n : Nat) : mx_G r (t_Hs_signal zz) 109 ls st h c n = (o_get 1 6) r (mx_G r (t_Hs_signal zz)) 109 ls st h c n := mx_G_eq (tm_Hs_signal zz) r 109 ls st h c n
theorem st_Hs_signal_112 (zz : Nat × Nat) (r : mx_T) (ls : mx_L) (st : List Value) (h : mx_H) (c n : Nat) : mx_G r (t_Hs_signal zz) 112 ls st h c n = (o_aload 2 6) r (mx_G r (t_Hs_signal zz)) 112 ls st h c n := mx_G_eq (tm_Hs_signal zz) r 112 ls st h c n
theorem st_Hs_signal_114 (zz : Nat × Nat) (r : mx_T) (ls : mx_L) (st : List Value) (h : mx_H) (c n : Nat) : mx_G r (t_Hs_signal zz) 114 ls st h c n = (o_call 3 133 1 0 0 (mx_rv 2) (S_Sg_bits zz)) r (mx_G r (t_Hs_signal zz)) 114 ls st h c n := mx_G_eq (tm_Hs_signal zz) r 114 ls st h c n
theorem st_Hs_signal_117 (zz : Nat × Nat) (r : mx_T) (ls : mx_L) (st : List Value) (h : mx_H) (c n : Nat) : mx_G r (t_Hs_signal zz) 117 ls st h c n = (o_ll (fun x y => .long (x ||| y))) r (mx_G r (t_Hs_signal zz)) 117 ls st h c n := mx_G_eq (tm_Hs_signal zz) r 117 ls st h c n
theorem st_Hs_signal_118 (zz : Nat × Nat) (r : mx_T) (ls : mx_L) (st : List Value) (h : mx_H) (c n : Nat) : mx_G r (t_Hs_signal zz) 118 ls st h c n = (o_put 1 6 mx_vJ) r (mx_G r (t_Hs_signal zz)) 118 ls st h c n := mx_G_eq (tm_Hs_signal zz) r 118 ls st h c n
theorem st_Hs_signal_121 (zz : Nat × Nat) (r : mx_T) (ls : mx_L) (st : List Value) (h : mx_H) (c n : Nat) : mx_G r (t_Hs_signal zz) 121 ls st h c n = (o_aload 2 6) r (mx_G r (t_Hs_signal zz)) 121 ls st h c n := mx_G_eq (tm_Hs_signal zz) r 121 ls st h c n
theorem st_Hs_signal_123 (zz : Nat × Nat) (r : mx_T) (ls : mx_L) (st : List Value) (h : mx_H) (c n : Nat) : mx_G r (t_Hs_signal zz) 123 ls st h c n = (o_iload 2 4) r (mx_G r (t_Hs_signal zz)) 123 ls st h c n := mx_G_eq (tm_Hs_signal zz) r 123 ls st h c n
theorem st_Hs_signal_125 (zz : Nat × Nat) (r : mx_T) (ls : mx_L) (st : List Value) (h : mx_H) (c n : Nat) : mx_G r (t_Hs_signal zz) 125 ls st h c n = (o_call 3 133 2 0 0 (mx_rv 2) (S_Sg_putWritten zz)) r (mx_G r (t_Hs_signal zz)) 125 ls st h c n := mx_G_eq (tm_Hs_signal zz) r 125 ls st h c n
theorem st_Hs_signal_128 (zz : Nat × Nat) (r : mx_T) (ls : mx_L) (st : List Value) (h : mx_H) (c n : Nat) : mx_G r (t_Hs_signal zz) 128 ls st h c n = (o_aload 1 0) r (mx_G r (t_Hs_signal zz)) 128 ls st h c n := mx_G_eq (tm_Hs_signal zz) r 128 ls st h c n
theorem st_Hs_signal_129 (zz : Nat × Nat) (r : mx_T) (ls : mx_L) (st : List Value) (h : mx_H) (c n : Nat) : mx_G r (t_Hs_signal zz) 129 ls st h c n = (o_get 0 1) r (mx_G r (t_Hs_signal zz)) 129 ls st h c n := mx_G_eq (tm_Hs_signal zz) r 129 ls st h c n
theorem st_Hs_signal_132 (zz : Nat × Nat) (r : mx_T) (ls : mx_L) (st : List Value) (h : mx_H) (c n : Nat) : mx_G r (t_Hs_signal zz) 132 ls st h c n = (o_aload 2 6) r (mx_G r (t_Hs_signal zz)) 132 ls st h c n := mx_G_eq (tm_Hs_signal zz) r 132 ls st h c n
theorem st_Hs_signal_134 (zz : Nat × Nat) (r : mx_T) (ls : mx_L) (st : List Value) (h : mx_H) (c n : Nat) : mx_G r (t_Hs_signal zz) 134 ls st h c n = (o_call 3 133 2 2 128 (mx_rv 9) (S_Al_add zz)) r (mx_G r (t_Hs_signal zz)) 134 ls st h c n := mx_G_eq (tm_Hs_signal zz) r 134 ls st h c n
theorem st_Hs_signal_137 (zz : Nat × Nat) (r : mx_T) (ls : mx_L) (st : List Value) (h : mx_H) (c n : Nat) : mx_G r (t_Hs_signal zz) 137 ls st h c n = (o_pop) r (mx_G r (t_Hs_signal zz)) 137 ls st h c n := mx_G_eq (tm_Hs_signal zz) r 137 ls st h c n
theorem st_Hs_signal_138 (zz : Nat × Nat) (r : mx_T) (ls : mx_L) (st : List Value) (h : mx_H) (c n : Nat) : mx_G r (t_Hs_signal zz) 138 ls st h c n = (o_aload 1 0) r (mx_G r (t_Hs_signal zz)) 138 ls st h c n := mx_G_eq (tm_Hs_signal zz) r 138 ls st h c n
theorem st_Hs_signal_139 (zz : Nat × Nat) (r : mx_T) (ls : mx_L) (st : List Value) (h : mx_H) (c n : Nat) : mx_G r (t_Hs_signal zz) 139 ls st h c n = (o_get 0 1) r (mx_G r (t_Hs_signal zz)) 139 ls st h c n := mx_G_eq (tm_Hs_signal zz) r 139 ls st h c n
theorem st_Hs_signal_142 (zz : Nat × Nat) (r : mx_T) (ls : mx_L) (st : List Value) (h : mx_H) (c n : Nat) : mx_G r (t_Hs_signal zz) 142 ls st h c n = (o_call 3 133 1 0 0 (mx_rv 9) (S_Al_size zz)) r (mx_G r (t_Hs_signal zz)) 142 ls st h c n := mx_G_eq (tm_Hs_signal zz) r 142 ls st h c n
theorem st_Hs_signal_145 (zz : Nat × Nat) (r : mx_T) (ls : mx_L) (st : List Value) (h : mx_H) (c n : Nat) : mx_G r (t_Hs_signal zz) 145 ls st h c n = (o_push 1 (.int 1)) r (mx_G r (t_Hs_signal zz)) 145 ls st h c n := mx_G_eq (tm_Hs_signal zz) r 145 ls st h c n
theorem st_Hs_signal_146 (zz : Nat × Nat) (r : mx_T) (ls : mx_L) (st : List Value) (h : mx_H) (c n : Nat) : mx_G r (t_Hs_signal zz) 146 ls st h c n = (o_ii (fun x y => x - y)) r (mx_G r (t_Hs_signal zz)) 146 ls st h c n := mx_G_eq (tm_Hs_signal zz) r 146 ls st h c n
theorem st_Hs_signal_147 (zz : Nat × Nat) (r : mx_T) (ls : mx_L) (st : List Value) (h : mx_H) (c n : Nat) : mx_G r (t_Hs_signal zz) 147 ls st h c n = (o_iret) r (mx_G r (t_Hs_signal zz)) 147 ls st h c n := mx_G_eq (tm_Hs_signal zz) r 147 ls st h c n
theorem d_Hs_isMasters_0 : decode c_Hs_isMasters 0 = .ok (.aload_n 0, 1) := by decide +kernel
theorem d_Hs_isMasters_1 : decode c_Hs_isMasters 1 = .ok (.iload_n 1, 1) := by decide +kernel
theorem d_Hs_isMasters_2 : decode c_Hs_isMasters 2 = .ok (.invokevirtual 83, 3) := by decide +kernel
theorem d_Hs_isMasters_5 : decode c_Hs_isMasters 5 = .ok (.astore_n 2, 1) := by decide +kernel
theorem d_Hs_isMasters_6 : decode c_Hs_isMasters 6 = .ok (.aload_n 2, 1) := by decide +kernel
theorem d_Hs_isMasters_7 : decode c_Hs_isMasters 7 = .ok (.ifnull 14, 3) := by decide +kernel
theorem d_Hs_isMasters_10 : decode c_Hs_isMasters 10 = .ok (.aload_n 2, 1) := by decide +kernel
theorem d_Hs_isMasters_11 : decode c_Hs_isMasters 11 = .ok (.getfield 217, 3) := by decide +kernel
theorem d_Hs_isMasters_14 : decode c_Hs_isMasters 14 = .ok (.ifCond .ne 7, 3) := by decide +kernel
theorem d_Hs_isMasters_17 : decode c_Hs_isMasters 17 = .ok (.iconst 1, 1) := by decide +kernel
theorem d_Hs_isMasters_18 : decode c_Hs_isMasters 18 = .ok (.goto 4, 3) := by decide +kernel
theorem d_Hs_isMasters_21 : decode c_Hs_isMasters 21 = .ok (.iconst 0, 1) := by decide +kernel
theorem d_Hs_isMasters_22 : decode c_Hs_isMasters 22 = .ok (.ireturn, 1) := by decide +kernel
def t_Hs_isMasters (zz : Nat × Nat) : List (Nat × mx_O) := [(0, o_aload 1 0),
  (1, o_iload 1 1),
  (2, o_call 0 0 2 0 0 (mx_rv 0) (S_Hs_frameAt zz)),
  (5, o_astore 1 2),
  (6, o_aload 1 2),
  (7, o_ifnull 21),
  (10, o_aload 1 2),
  (11, o_get 1 2),
  (14, o_if 21 (fun x => ¬ x = 0)),
  (17, o_push 1 (.int 1)),
  (18, o_goto 22),
  (21, o_push 1 (.int 0)),
  (22, o_zret)]
set_option maxRecDepth 100000 in
theorem tm_Hs_isMasters (zz : Nat × Nat) : mx_All (fun _ o => mx_Mono o) (t_Hs_isMasters zz) := by
  refine mx_all_cons (mo_st) ?_
  refine mx_all_cons (mo_st) ?_
  refine mx_all_cons (mo_call (sm_Hs_frameAt zz)) ?_
  refine mx_all_cons (mo_st) ?_
  refine mx_all_cons (mo_st) ?_
  refine mx_all_cons (mo_st) ?_
  refine mx_all_cons (mo_st) ?_
  refine mx_all_cons (mo_st) ?_
  refine mx_all_cons (mo_br) ?_
  refine mx_all_cons (mo_st) ?_
  refine mx_all_cons (mo_st) ?_
  refine mx_all_cons (mo_st) ?_
  refine mx_all_cons (mo_zret) ?_
  exact mx_all_nil
def S_Hs_isMasters (zz : Nat × Nat) : mx_Sp := mx_S 3 0 0 (t_Hs_isMasters zz)
theorem sm_Hs_isMasters (zz : Nat × Nat) : mx_SMono (S_Hs_isMasters zz) := mx_S_mono (tm_Hs_isMasters zz)
abbrev rm_Hs_isMasters : Room := { frames := 4, cells := 0, slots := 0, locals := 85 }
set_option maxHeartbeats 4000000 in
set_option maxRecDepth 100000 in
theorem m_Hs_isMasters (l : Launch) (zz : Nat × Nat) : mx_Met l y_Hs_isMasters (wsOf y_Hs_isMasters c_Hs_isMasters 3 (some .boolean)) rm_Hs_isMasters wcl (mx_Z zz) 0 0 (S_Hs_isMasters zz) := by
  refine mx_met (cc := c_Hs_isMasters) (ret := (some .boolean)) (by decide) rfl ?_
  intro p e s m args below meth c D A Post X hz hr hlk hnm
  have hm : ∀ w ∈ mw, w.before args s = true := fun w h => X.1.2.2.2.2 w (List.mem_cons_of_mem _ h)
  refine mx_all_cons (ok_aload (fun hl kk => lv_aload_n X.1.1 X.1.2.1 d_Hs_isMasters_0 rfl hl kk) (fun hl kk => lv_aload_nN X.1.1 X.1.2.1 d_Hs_isMasters_0 rfl hl kk)) ?_
  refine mx_all_cons (ok_iload (fun hl kk => lv_iload_n X.1.1 X.1.2.1 d_Hs_isMasters_1 rfl hl kk)) ?_
  refine mx_all_cons (ok_callV (C := "HeaderSchedule") (T := T_Hs) (N := 11) X (mx_Zok_Z zz) hz ⟨(Nat.le_of_ble_eq_true rfl), (Nat.le_of_ble_eq_true rfl)⟩ (m_Hs_frameAt l zz) ⟨mx_cwB 1 hm w322 w319 w33 rfl rfl (by decide +kernel) ⟨(Nat.le_of_ble_eq_true rfl), (Nat.le_of_ble_eq_true rfl)⟩, (hm _ w321), hm _ w4⟩ rfl d_Hs_isMasters_2) ?_
  refine mx_all_cons (ok_astore (fun hl kk => lv_astore_n X.1.1 X.1.2.1 d_Hs_isMasters_5 rfl hl (by decide) rfl kk) (fun hl kk => lv_astore_nN X.1.1 X.1.2.1 d_Hs_isMasters_5 rfl hl (by decide) rfl kk)) ?_
  refine mx_all_cons (ok_aload (fun hl kk => lv_aload_n X.1.1 X.1.2.1 d_Hs_isMasters_6 rfl hl kk) (fun hl kk => lv_aload_nN X.1.1 X.1.2.1 d_Hs_isMasters_6 rfl hl kk)) ?_
  refine mx_all_cons (ok_ifnull X d_Hs_isMasters_7 (by decide)) ?_
  refine mx_all_cons (ok_aload (fun hl kk => lv_aload_n X.1.1 X.1.2.1 d_Hs_isMasters_10 rfl hl kk) (fun hl kk => lv_aload_nN X.1.1 X.1.2.1 d_Hs_isMasters_10 rfl hl kk)) ?_
  refine mx_all_cons (ok_get (C := "HeaderSchedule$Frame") (T := T_Fr) (N := 8) X (mw_up in_Fr) rfl 2 (by decide) (hm _ w226) (fun _ h9 => h9) d_Hs_isMasters_11) ?_
  refine mx_all_cons (ok_if (fun kt kf => lv_if_ne X.1.1 X.1.2.1 d_Hs_isMasters_14 (by decide) kt (fun z => kf (fun g => g z)))) ?_
  refine mx_all_cons (ok_push (fun kk => lv_iconst X.1.1 X.1.2.1 d_Hs_isMasters_17 (by decide) kk)) ?_
  refine mx_all_cons (ok_goto X d_Hs_isMasters_18 (by decide)) ?_
  refine mx_all_cons (ok_push (fun kk => lv_iconst X.1.1 X.1.2.1 d_Hs_isMasters_21 (by decide) kk)) ?_
  refine mx_all_cons (ok_zret X hr hlk d_Hs_isMasters_22) ?_
  exact mx_all_nil
theorem st_Hs_isMasters_0 (zz : Nat × Nat) (r : mx_T) (ls : mx_L) (st : List Value) (h : mx_H) (c n : Nat) : mx_G r (t_Hs_isMasters zz) 0 ls st h c n = (o_aload 1 0) r (mx_G r (t_Hs_isMasters zz)) 0 ls st h c n := mx_G_eq (tm_Hs_isMasters zz) r 0 ls st h c n
theorem st_Hs_isMasters_1 (zz : Nat × Nat) (r : mx_T) (ls : mx_L) (st : List Value) (h : mx_H) (c n : Nat) : mx_G r (t_Hs_isMasters zz) 1 ls st h c n = (o_iload 1 1) r (mx_G r (t_Hs_isMasters zz)) 1 ls st h c n := mx_G_eq (tm_Hs_isMasters zz) r 1 ls st h c n
theorem st_Hs_isMasters_2 (zz : Nat × Nat) (r : mx_T) (ls : mx_L) (st : List Value) (h : mx_H) (c n : Nat) : mx_G r (t_Hs_isMasters zz) 2 ls st h c n = (o_call 0 0 2 0 0 (mx_rv 0) (S_Hs_frameAt zz)) r (mx_G r (t_Hs_isMasters zz)) 2 ls st h c n := mx_G_eq (tm_Hs_isMasters zz) r 2 ls st h c n
theorem st_Hs_isMasters_5 (zz : Nat × Nat) (r : mx_T) (ls : mx_L) (st : List Value) (h : mx_H) (c n : Nat) : mx_G r (t_Hs_isMasters zz) 5 ls st h c n = (o_astore 1 2) r (mx_G r (t_Hs_isMasters zz)) 5 ls st h c n := mx_G_eq (tm_Hs_isMasters zz) r 5 ls st h c n
theorem st_Hs_isMasters_6 (zz : Nat × Nat) (r : mx_T) (ls : mx_L) (st : List Value) (h : mx_H) (c n : Nat) : mx_G r (t_Hs_isMasters zz) 6 ls st h c n = (o_aload 1 2) r (mx_G r (t_Hs_isMasters zz)) 6 ls st h c n := mx_G_eq (tm_Hs_isMasters zz) r 6 ls st h c n
theorem st_Hs_isMasters_7 (zz : Nat × Nat) (r : mx_T) (ls : mx_L) (st : List Value) (h : mx_H) (c n : Nat) : mx_G r (t_Hs_isMasters zz) 7 ls st h c n = (o_ifnull 21) r (mx_G r (t_Hs_isMasters zz)) 7 ls st h c n := mx_G_eq (tm_Hs_isMasters zz) r 7 ls st h c n
theorem st_Hs_isMasters_10 (zz : Nat × Nat) (r : mx_T) (ls : mx_L) (st : List Value) (h : mx_H) (c n : Nat) : mx_G r (t_Hs_isMasters zz) 10 ls st h c n = (o_aload 1 2) r (mx_G r (t_Hs_isMasters zz)) 10 ls st h c n := mx_G_eq (tm_Hs_isMasters zz) r 10 ls st h c n
theorem st_Hs_isMasters_11 (zz : Nat × Nat) (r : mx_T) (ls : mx_L) (st : List Value) (h : mx_H) (c n : Nat) : mx_G r (t_Hs_isMasters zz) 11 ls st h c n = (o_get 1 2) r (mx_G r (t_Hs_isMasters zz)) 11 ls st h c n := mx_G_eq (tm_Hs_isMasters zz) r 11 ls st h c n
theorem st_Hs_isMasters_14 (zz : Nat × Nat) (r : mx_T) (ls : mx_L) (st : List Value) (h : mx_H) (c n : Nat) : mx_G r (t_Hs_isMasters zz) 14 ls st h c n = (o_if 21 (fun x => ¬ x = 0)) r (mx_G r (t_Hs_isMasters zz)) 14 ls st h c n := mx_G_eq (tm_Hs_isMasters zz) r 14 ls st h c n
theorem st_Hs_isMasters_17 (zz : Nat × Nat) (r : mx_T) (ls : mx_L) (st : List Value) (h : mx_H) (c n : Nat) : mx_G r (t_Hs_isMasters zz) 17 ls st h c n = (o_push 1 (.int 1)) r (mx_G r (t_Hs_isMasters zz)) 17 ls st h c n := mx_G_eq (tm_Hs_isMasters zz) r 17 ls st h c n
theorem st_Hs_isMasters_18 (zz : Nat × Nat) (r : mx_T) (ls : mx_L) (st : List Value) (h : mx_H) (c n : Nat) : mx_G r (t_Hs_isMasters zz) 18 ls st h c n = (o_goto 22) r (mx_G r (t_Hs_isMasters zz)) 18 ls st h c n := mx_G_eq (tm_Hs_isMasters zz) r 18 ls st h c n
theorem st_Hs_isMasters_21 (zz : Nat × Nat) (r : mx_T) (ls : mx_L) (st : List Value) (h : mx_H) (c n : Nat) : mx_G r (t_Hs_isMasters zz) 21 ls st h c n = (o_push 1 (.int 0)) r (mx_G r (t_Hs_isMasters zz)) 21 ls st h c n := mx_G_eq (tm_Hs_isMasters zz) r 21 ls st h c n
theorem st_Hs_isMasters_22 (zz : Nat × Nat) (r : mx_T) (ls : mx_L) (st : List Value) (h : mx_H) (c n : Nat) : mx_G r (t_Hs_isMasters zz) 22 ls st h c n = (o_zret) r (mx_G r (t_Hs_isMasters zz)) 22 ls st h c n := mx_G_eq (tm_Hs_isMasters zz) r 22 ls st h c n
theorem d_Hs_rowOf_0 : decode c_Hs_rowOf 0 = .ok (.iload_n 3, 1) := by decide +kernel
theorem d_Hs_rowOf_1 : decode c_Hs_rowOf 1 = .ok (.iconst (-1), 1) := by decide +kernel
theorem d_Hs_rowOf_2 : decode c_Hs_rowOf 2 = .ok (.if_icmp .ne 36, 3) := by decide +kernel
theorem d_Hs_rowOf_5 : decode c_Hs_rowOf 5 = .ok (.iconst 2, 1) := by decide +kernel
theorem d_Hs_rowOf_6 : decode c_Hs_rowOf 6 = .ok (.anewarray 70, 3) := by decide +kernel
theorem d_Hs_rowOf_9 : decode c_Hs_rowOf 9 = .ok (.dup, 1) := by decide +kernel
theorem d_Hs_rowOf_10 : decode c_Hs_rowOf 10 = .ok (.iconst 0, 1) := by decide +kernel
theorem d_Hs_rowOf_11 : decode c_Hs_rowOf 11 = .ok (.aload_n 0, 1) := by decide +kernel
theorem d_Hs_rowOf_12 : decode c_Hs_rowOf 12 = .ok (.getfield 10, 3) := by decide +kernel
theorem d_Hs_rowOf_15 : decode c_Hs_rowOf 15 = .ok (.iload_n 1, 1) := by decide +kernel
theorem d_Hs_rowOf_16 : decode c_Hs_rowOf 16 = .ok (.invokevirtual 213, 3) := by decide +kernel
theorem d_Hs_rowOf_19 : decode c_Hs_rowOf 19 = .ok (.checkcast 70, 3) := by decide +kernel
theorem d_Hs_rowOf_22 : decode c_Hs_rowOf 22 = .ok (.aastore, 1) := by decide +kernel
theorem d_Hs_rowOf_23 : decode c_Hs_rowOf 23 = .ok (.dup, 1) := by decide +kernel
theorem d_Hs_rowOf_24 : decode c_Hs_rowOf 24 = .ok (.iconst 1, 1) := by decide +kernel
theorem d_Hs_rowOf_25 : decode c_Hs_rowOf 25 = .ok (.aload_n 0, 1) := by decide +kernel
theorem d_Hs_rowOf_26 : decode c_Hs_rowOf 26 = .ok (.getfield 10, 3) := by decide +kernel
theorem d_Hs_rowOf_29 : decode c_Hs_rowOf 29 = .ok (.iload_n 2, 1) := by decide +kernel
theorem d_Hs_rowOf_30 : decode c_Hs_rowOf 30 = .ok (.invokevirtual 213, 3) := by decide +kernel
theorem d_Hs_rowOf_33 : decode c_Hs_rowOf 33 = .ok (.checkcast 70, 3) := by decide +kernel
theorem d_Hs_rowOf_36 : decode c_Hs_rowOf 36 = .ok (.aastore, 1) := by decide +kernel
theorem d_Hs_rowOf_37 : decode c_Hs_rowOf 37 = .ok (.areturn, 1) := by decide +kernel
theorem d_Hs_rowOf_38 : decode c_Hs_rowOf 38 = .ok (.iconst 3, 1) := by decide +kernel
theorem d_Hs_rowOf_39 : decode c_Hs_rowOf 39 = .ok (.anewarray 70, 3) := by decide +kernel
theorem d_Hs_rowOf_42 : decode c_Hs_rowOf 42 = .ok (.dup, 1) := by decide +kernel
theorem d_Hs_rowOf_43 : decode c_Hs_rowOf 43 = .ok (.iconst 0, 1) := by decide +kernel
theorem d_Hs_rowOf_44 : decode c_Hs_rowOf 44 = .ok (.aload_n 0, 1) := by decide +kernel
theorem d_Hs_rowOf_45 : decode c_Hs_rowOf 45 = .ok (.getfield 10, 3) := by decide +kernel
theorem d_Hs_rowOf_48 : decode c_Hs_rowOf 48 = .ok (.iload_n 1, 1) := by decide +kernel
theorem d_Hs_rowOf_49 : decode c_Hs_rowOf 49 = .ok (.invokevirtual 213, 3) := by decide +kernel
theorem d_Hs_rowOf_52 : decode c_Hs_rowOf 52 = .ok (.checkcast 70, 3) := by decide +kernel
theorem d_Hs_rowOf_55 : decode c_Hs_rowOf 55 = .ok (.aastore, 1) := by decide +kernel
theorem d_Hs_rowOf_56 : decode c_Hs_rowOf 56 = .ok (.dup, 1) := by decide +kernel
theorem d_Hs_rowOf_57 : decode c_Hs_rowOf 57 = .ok (.iconst 1, 1) := by decide +kernel
theorem d_Hs_rowOf_58 : decode c_Hs_rowOf 58 = .ok (.aload_n 0, 1) := by decide +kernel
theorem d_Hs_rowOf_59 : decode c_Hs_rowOf 59 = .ok (.getfield 10, 3) := by decide +kernel
theorem d_Hs_rowOf_62 : decode c_Hs_rowOf 62 = .ok (.iload_n 2, 1) := by decide +kernel
theorem d_Hs_rowOf_63 : decode c_Hs_rowOf 63 = .ok (.invokevirtual 213, 3) := by decide +kernel
theorem d_Hs_rowOf_66 : decode c_Hs_rowOf 66 = .ok (.checkcast 70, 3) := by decide +kernel
theorem d_Hs_rowOf_69 : decode c_Hs_rowOf 69 = .ok (.aastore, 1) := by decide +kernel
theorem d_Hs_rowOf_70 : decode c_Hs_rowOf 70 = .ok (.dup, 1) := by decide +kernel
theorem d_Hs_rowOf_71 : decode c_Hs_rowOf 71 = .ok (.iconst 2, 1) := by decide +kernel
theorem d_Hs_rowOf_72 : decode c_Hs_rowOf 72 = .ok (.aload_n 0, 1) := by decide +kernel
theorem d_Hs_rowOf_73 : decode c_Hs_rowOf 73 = .ok (.getfield 10, 3) := by decide +kernel
theorem d_Hs_rowOf_76 : decode c_Hs_rowOf 76 = .ok (.iload_n 3, 1) := by decide +kernel
theorem d_Hs_rowOf_77 : decode c_Hs_rowOf 77 = .ok (.invokevirtual 213, 3) := by decide +kernel
theorem d_Hs_rowOf_80 : decode c_Hs_rowOf 80 = .ok (.checkcast 70, 3) := by decide +kernel
theorem d_Hs_rowOf_83 : decode c_Hs_rowOf 83 = .ok (.aastore, 1) := by decide +kernel
theorem d_Hs_rowOf_84 : decode c_Hs_rowOf 84 = .ok (.areturn, 1) := by decide +kernel
def t_Hs_rowOf (zz : Nat × Nat) : List (Nat × mx_O) := [(0, o_iload 1 3),
  (1, o_push 1 (.int (-1))),
  (2, o_icmp 38 (fun x y => ¬ x = y)),
  (5, o_push 1 (.int 2)),
  (6, o_newq 2 5 "HeaderSchedule$Frame"),
  (9, o_dup),
  (10, o_push 1 (.int 0)),
  (11, o_aload 1 0),
  (12, o_get 0 0),
  (15, o_iload 1 1),
  (16, o_call 2 5 2 0 0 (mx_rv 9) (S_Al_get zz)),
  (19, o_cast 1),
  (22, o_aast "HeaderSchedule$Frame" [1]),
  (23, o_dup),
  (24, o_push 1 (.int 1)),
  (25, o_aload 1 0),
  (26, o_get 0 0),
  (29, o_iload 1 2),
  (30, o_call 2 5 2 0 0 (mx_rv 9) (S_Al_get zz)),
  (33, o_cast 1),
  (36, o_aast "HeaderSchedule$Frame" [1]),
  (37, o_aret),
  (38, o_push 1 (.int 3)),
  (39, o_newq 2 5 "HeaderSchedule$Frame"),
  (42, o_dup),
  (43, o_push 1 (.int 0)),
  (44, o_aload 1 0),
  (45, o_get 0 0),
  (48, o_iload 1 1),
  (49, o_call 2 5 2 0 0 (mx_rv 9) (S_Al_get zz)),
  (52, o_cast 1),
  (55, o_aast "HeaderSchedule$Frame" [1]),
  (56, o_dup),
  (57, o_push 1 (.int 1)),
  (58, o_aload 1 0),
  (59, o_get 0 0),
  (62, o_iload 1 2),
  (63, o_call 2 5 2 0 0 (mx_rv 9) (S_Al_get zz)),
  (66, o_cast 1),
  (69, o_aast "HeaderSchedule$Frame" [1]),
  (70, o_dup),
  (71, o_push 1 (.int 2)),
  (72, o_aload 1 0),
  (73, o_get 0 0),
  (76, o_iload 1 3),
  (77, o_call 2 5 2 0 0 (mx_rv 9) (S_Al_get zz)),
  (80, o_cast 1),
  (83, o_aast "HeaderSchedule$Frame" [1]),
  (84, o_aret)]
set_option maxRecDepth 100000 in
theorem tm_Hs_rowOf (zz : Nat × Nat) : mx_All (fun _ o => mx_Mono o) (t_Hs_rowOf zz) := by
  refine mx_all_cons (mo_st) ?_
  refine mx_all_cons (mo_st) ?_
  refine mx_all_cons (mo_br) ?_
  refine mx_all_cons (mo_st) ?_
  refine mx_all_cons (mo_al) ?_
  refine mx_all_cons (mo_st) ?_
  refine mx_all_cons (mo_st) ?_
  refine mx_all_cons (mo_st) ?_
  refine mx_all_cons (mo_st) ?_
  refine mx_all_cons (mo_st) ?_
  refine mx_all_cons (mo_call (sm_Al_get zz)) ?_
  refine mx_all_cons (mo_sc) ?_
  refine mx_all_cons (mo_sc) ?_
  refine mx_all_cons (mo_st) ?_
  refine mx_all_cons (mo_st) ?_
  refine mx_all_cons (mo_st) ?_
  refine mx_all_cons (mo_st) ?_
  refine mx_all_cons (mo_st) ?_
  refine mx_all_cons (mo_call (sm_Al_get zz)) ?_
  refine mx_all_cons (mo_sc) ?_
  refine mx_all_cons (mo_sc) ?_
  refine mx_all_cons (mo_ret) ?_
  refine mx_all_cons (mo_st) ?_
  refine mx_all_cons (mo_al) ?_
  refine mx_all_cons (mo_st) ?_
  refine mx_all_cons (mo_st) ?_
  refine mx_all_cons (mo_st) ?_
  refine mx_all_cons (mo_st) ?_
  refine mx_all_cons (mo_st) ?_
  refine mx_all_cons (mo_call (sm_Al_get zz)) ?_
  refine mx_all_cons (mo_sc) ?_
  refine mx_all_cons (mo_sc) ?_
  refine mx_all_cons (mo_st) ?_
  refine mx_all_cons (mo_st) ?_
  refine mx_all_cons (mo_st) ?_
  refine mx_all_cons (mo_st) ?_
  refine mx_all_cons (mo_st) ?_
  refine mx_all_cons (mo_call (sm_Al_get zz)) ?_
  refine mx_all_cons (mo_sc) ?_
  refine mx_all_cons (mo_sc) ?_
  refine mx_all_cons (mo_st) ?_
  refine mx_all_cons (mo_st) ?_
  refine mx_all_cons (mo_st) ?_
  refine mx_all_cons (mo_st) ?_
  refine mx_all_cons (mo_st) ?_
  refine mx_all_cons (mo_call (sm_Al_get zz)) ?_
  refine mx_all_cons (mo_sc) ?_
  refine mx_all_cons (mo_sc) ?_
  refine mx_all_cons (mo_ret) ?_
  exact mx_all_nil
def S_Hs_rowOf (zz : Nat × Nat) : mx_Sp := mx_S 4 2 5 (t_Hs_rowOf zz)
theorem sm_Hs_rowOf (zz : Nat × Nat) : mx_SMono (S_Hs_rowOf zz) := mx_S_mono (tm_Hs_rowOf zz)
abbrev rm_Hs_rowOf : Room := { frames := 3, cells := 2, slots := 5, locals := 64 }
set_option maxHeartbeats 4000000 in
set_option maxRecDepth 100000 in
theorem m_Hs_rowOf (l : Launch) (zz : Nat × Nat) : mx_Met l y_Hs_rowOf (wsOf y_Hs_rowOf c_Hs_rowOf 4 (some (.array (.object "HeaderSchedule$Frame")))) rm_Hs_rowOf wcl (mx_Z zz) 2 5 (S_Hs_rowOf zz) := by
  refine mx_met (cc := c_Hs_rowOf) (ret := (some (.array (.object "HeaderSchedule$Frame")))) (by decide) rfl ?_
  intro p e s m args below meth c D A Post X hz hr hlk hnm
  have hm : ∀ w ∈ mw, w.before args s = true := fun w h => X.1.2.2.2.2 w (List.mem_cons_of_mem _ h)
  refine mx_all_cons (ok_iload (fun hl kk => lv_iload_n X.1.1 X.1.2.1 d_Hs_rowOf_0 rfl hl kk)) ?_
  refine mx_all_cons (ok_push (fun kk => lv_iconst X.1.1 X.1.2.1 d_Hs_rowOf_1 (by decide) kk)) ?_
  refine mx_all_cons (ok_icmp (fun kt kf => lv_icmp_ne X.1.1 X.1.2.1 d_Hs_rowOf_2 (by decide) kt (fun z => kf (fun g => g z)))) ?_
  refine mx_all_cons (ok_push (fun kk => lv_iconst X.1.1 X.1.2.1 d_Hs_rowOf_5 (by decide) kk)) ?_
  refine mx_all_cons (ok_newq X ⟨(Nat.le_of_ble_eq_true rfl), (Nat.le_of_ble_eq_true rfl)⟩ (hm _ w207) (hz.2.2.2.1 "HeaderSchedule$Frame" (by decide +kernel)) d_Hs_rowOf_6) ?_
  refine mx_all_cons (ok_dup X d_Hs_rowOf_9) ?_
  refine mx_all_cons (ok_push (fun kk => lv_iconst X.1.1 X.1.2.1 d_Hs_rowOf_10 (by decide) kk)) ?_
  refine mx_all_cons (ok_aload (fun hl kk => lv_aload_n X.1.1 X.1.2.1 d_Hs_rowOf_11 rfl hl kk) (fun hl kk => lv_aload_nN X.1.1 X.1.2.1 d_Hs_rowOf_11 rfl hl kk)) ?_
  refine mx_all_cons (ok_get (C := "HeaderSchedule") (T := T_Hs) (N := 11) X (mw_up in_Hs) rfl 0 (by decide) (hm _ w158) (fun _ h9 => h9) d_Hs_rowOf_12) ?_
  refine mx_all_cons (ok_iload (fun hl kk => lv_iload_n X.1.1 X.1.2.1 d_Hs_rowOf_15 rfl hl kk)) ?_
  refine mx_all_cons (ok_callV (C := "java/util/ArrayList") (T := T_Al) (N := 3) X (mx_Zok_Z zz) hz ⟨(Nat.le_of_ble_eq_true rfl), (Nat.le_of_ble_eq_true rfl)⟩ (m_Al_get l zz) ⟨mx_cwB 1 hm w326 w323 w36 rfl rfl (by decide +kernel) ⟨(Nat.le_of_ble_eq_true rfl), (Nat.le_of_ble_eq_true rfl)⟩, (hm _ w324), hm _ w325⟩ rfl d_Hs_rowOf_16) ?_
  refine mx_all_cons (ok_cast (C := "HeaderSchedule$Frame") (T := T_Fr) (N := 8) X rfl (hm _ w207) d_Hs_rowOf_19) ?_
  refine mx_all_cons (ok_aast X asg_Fr d_Hs_rowOf_22) ?_
  refine mx_all_cons (ok_dup X d_Hs_rowOf_23) ?_
  refine mx_all_cons (ok_push (fun kk => lv_iconst X.1.1 X.1.2.1 d_Hs_rowOf_24 (by decide) kk)) ?_
  refine mx_all_cons (ok_aload (fun hl kk => lv_aload_n X.1.1 X.1.2.1 d_Hs_rowOf_25 rfl hl kk) (fun hl kk => lv_aload_nN X.1.1 X.1.2.1 d_Hs_rowOf_25 rfl hl kk)) ?_
  refine mx_all_cons (ok_get (C := "HeaderSchedule") (T := T_Hs) (N := 11) X (mw_up in_Hs) rfl 0 (by decide) (hm _ w158) (fun _ h9 => h9) d_Hs_rowOf_26) ?_
  refine mx_all_cons (ok_iload (fun hl kk => lv_iload_n X.1.1 X.1.2.1 d_Hs_rowOf_29 rfl hl kk)) ?_
  refine mx_all_cons (ok_callV (C := "java/util/ArrayList") (T := T_Al) (N := 3) X (mx_Zok_Z zz) hz ⟨(Nat.le_of_ble_eq_true rfl), (Nat.le_of_ble_eq_true rfl)⟩ (m_Al_get l zz) ⟨mx_cwB 1 hm w326 w323 w36 rfl rfl (by decide +kernel) ⟨(Nat.le_of_ble_eq_true rfl), (Nat.le_of_ble_eq_true rfl)⟩, (hm _ w324), hm _ w325⟩ rfl d_Hs_rowOf_30) ?_
  refine mx_all_cons (ok_cast (C := "HeaderSchedule$Frame") (T := T_Fr) (N := 8) X rfl (hm _ w207) d_Hs_rowOf_33) ?_
  refine mx_all_cons (ok_aast X asg_Fr d_Hs_rowOf_36) ?_
  refine mx_all_cons (ok_aret X hr (by first | exact Or.inl ⟨_, rfl⟩ | exact Or.inr ⟨_, rfl⟩) hlk d_Hs_rowOf_37) ?_
  refine mx_all_cons (ok_push (fun kk => lv_iconst X.1.1 X.1.2.1 d_Hs_rowOf_38 (by decide) kk)) ?_
  refine mx_all_cons (ok_newq X ⟨(Nat.le_of_ble_eq_true rfl), (Nat.le_of_ble_eq_true rfl)⟩ (hm _ w207) (hz.2.2.2.1 "HeaderSchedule$Frame" (by decide +kernel)) d_Hs_rowOf_39) ?_
  refine mx_all_cons (ok_dup X d_Hs_rowOf_42) ?_
  refine mx_all_cons (ok_push (fun kk => lv_iconst X.1.1 X.1.2.1 d_Hs_rowOf_43 (by decide) kk)) ?_
  refine mx_all_cons (ok_aload (fun hl kk => lv_aload_n X.1.1 X.1.2.1 d_Hs_rowOf_44 rfl hl kk) (fun hl kk => lv_aload_nN X.1.1 X.1.2.1 d_Hs_rowOf_44 rfl hl kk)) ?_
  refine mx_all_cons (ok_get (C := "HeaderSchedule") (T := T_Hs) (N := 11) X (mw_up in_Hs) rfl 0 (by decide) (hm _ w158) (fun _ h9 => h9) d_Hs_rowOf_45) ?_
  refine mx_all_cons (ok_iload (fun hl kk => lv_iload_n X.1.1 X.1.2.1 d_Hs_rowOf_48 rfl hl kk)) ?_
  refine mx_all_cons (ok_callV (C := "java/util/ArrayList") (T := T_Al) (N := 3) X (mx_Zok_Z zz) hz ⟨(Nat.le_of_ble_eq_true rfl), (Nat.le_of_ble_eq_true rfl)⟩ (m_Al_get l zz) ⟨mx_cwB 1 hm w326 w323 w36 rfl rfl (by decide +kernel) ⟨(Nat.le_of_ble_eq_true rfl), (Nat.le_of_ble_eq_true rfl)⟩, (hm _ w324), hm _ w325⟩ rfl d_Hs_rowOf_49) ?_
  refine mx_all_cons (ok_cast (C := "HeaderSchedule$Frame") (T := T_Fr) (N := 8) X rfl (hm _ w207) d_Hs_rowOf_52) ?_
  refine mx_all_cons (ok_aast X asg_Fr d_Hs_rowOf_55) ?_
  refine mx_all_cons (ok_dup X d_Hs_rowOf_56) ?_
  refine mx_all_cons (ok_push (fun kk => lv_iconst X.1.1 X.1.2.1 d_Hs_rowOf_57 (by decide) kk)) ?_
  refine mx_all_cons (ok_aload (fun hl kk => lv_aload_n X.1.1 X.1.2.1 d_Hs_rowOf_58 rfl hl kk) (fun hl kk => lv_aload_nN X.1.1 X.1.2.1 d_Hs_rowOf_58 rfl hl kk)) ?_
  refine mx_all_cons (ok_get (C := "HeaderSchedule") (T := T_Hs) (N := 11) X (mw_up in_Hs) rfl 0 (by decide) (hm _ w158) (fun _ h9 => h9) d_Hs_rowOf_59) ?_
  refine mx_all_cons (ok_iload (fun hl kk => lv_iload_n X.1.1 X.1.2.1 d_Hs_rowOf_62 rfl hl kk)) ?_
  refine mx_all_cons (ok_callV (C := "java/util/ArrayList") (T := T_Al) (N := 3) X (mx_Zok_Z zz) hz ⟨(Nat.le_of_ble_eq_true rfl), (Nat.le_of_ble_eq_true rfl)⟩ (m_Al_get l zz) ⟨mx_cwB 1 hm w326 w323 w36 rfl rfl (by decide +kernel) ⟨(Nat.le_of_ble_eq_true rfl), (Nat.le_of_ble_eq_true rfl)⟩, (hm _ w324), hm _ w325⟩ rfl d_Hs_rowOf_63) ?_
  refine mx_all_cons (ok_cast (C := "HeaderSchedule$Frame") (T := T_Fr) (N := 8) X rfl (hm _ w207) d_Hs_rowOf_66) ?_
  refine mx_all_cons (ok_aast X asg_Fr d_Hs_rowOf_69) ?_
  refine mx_all_cons (ok_dup X d_Hs_rowOf_70) ?_
  refine mx_all_cons (ok_push (fun kk => lv_iconst X.1.1 X.1.2.1 d_Hs_rowOf_71 (by decide) kk)) ?_
  refine mx_all_cons (ok_aload (fun hl kk => lv_aload_n X.1.1 X.1.2.1 d_Hs_rowOf_72 rfl hl kk) (fun hl kk => lv_aload_nN X.1.1 X.1.2.1 d_Hs_rowOf_72 rfl hl kk)) ?_
  refine mx_all_cons (ok_get (C := "HeaderSchedule") (T := T_Hs) (N := 11) X (mw_up in_Hs) rfl 0 (by decide) (hm _ w158) (fun _ h9 => h9) d_Hs_rowOf_73) ?_
  refine mx_all_cons (ok_iload (fun hl kk => lv_iload_n X.1.1 X.1.2.1 d_Hs_rowOf_76 rfl hl kk)) ?_
  refine mx_all_cons (ok_callV (C := "java/util/ArrayList") (T := T_Al) (N := 3) X (mx_Zok_Z zz) hz ⟨(Nat.le_of_ble_eq_true rfl), (Nat.le_of_ble_eq_true rfl)⟩ (m_Al_get l zz) ⟨mx_cwB 1 hm w326 w323 w36 rfl rfl (by decide +kernel) ⟨(Nat.le_of_ble_eq_true rfl), (Nat.le_of_ble_eq_true rfl)⟩, (hm _ w324), hm _ w325⟩ rfl d_Hs_rowOf_77) ?_
  refine mx_all_cons (ok_cast (C := "HeaderSchedule$Frame") (T := T_Fr) (N := 8) X rfl (hm _ w207) d_Hs_rowOf_80) ?_
  refine mx_all_cons (ok_aast X asg_Fr d_Hs_rowOf_83) ?_
  refine mx_all_cons (ok_aret X hr (by first | exact Or.inl ⟨_, rfl⟩ | exact Or.inr ⟨_, rfl⟩) hlk d_Hs_rowOf_84) ?_
  exact mx_all_nil
theorem st_Hs_rowOf_0 (zz : Nat × Nat) (r : mx_T) (ls : mx_L) (st : List Value) (h : mx_H) (c n : Nat) : mx_G r (t_Hs_rowOf zz) 0 ls st h c n = (o_iload 1 3) r (mx_G r (t_Hs_rowOf zz)) 0 ls st h c n := mx_G_eq (tm_Hs_rowOf zz) r 0 ls st h c n
theorem st_Hs_rowOf_1 (zz : Nat × Nat) (r : mx_T) (ls : mx_L) (st : List Value) (h : mx_H) (c n : Nat) : mx_G r (t_Hs_rowOf zz) 1 ls st h c n = (o_push 1 (.int (-1))) r (mx_G r (t_Hs_rowOf zz)) 1 ls st h c n := mx_G_eq (tm_Hs_rowOf zz) r 1 ls st h c n
theorem st_Hs_rowOf_2 (zz : Nat × Nat) (r : mx_T) (ls : mx_L) (st : List Value) (h : mx_H) (c n : Nat) : mx_G r (t_Hs_rowOf zz) 2 ls st h c n = (o_icmp 38 (fun x y => ¬ x = y)) r (mx_G r (t_Hs_rowOf zz)) 2 ls st h c n := mx_G_eq (tm_Hs_rowOf zz) r 2 ls st h c n
theorem st_Hs_rowOf_5 (zz : Nat × Nat) (r : mx_T) (ls : mx_L) (st : List Value) (h : mx_H) (c n : Nat) : mx_G r (t_Hs_rowOf zz) 5 ls st h c n = (o_push 1 (.int 2)) r (mx_G r (t_Hs_rowOf zz)) 5 ls st h c n := mx_G_eq (tm_Hs_rowOf zz) r 5 ls st h c n
theorem st_Hs_rowOf_6 (zz : Nat × Nat) (r : mx_T) (ls : mx_L) (st : List Value) (h : mx_H) (c n : Nat) : mx_G r (t_Hs_rowOf zz) 6 ls st h c n = (o_newq 2 5 "HeaderSchedule$Frame") r (mx_G r (t_Hs_rowOf zz)) 6 ls st h c n := mx_G_eq (tm_Hs_rowOf zz) r 6 ls st h c n
theorem st_Hs_rowOf_9 (zz : Nat × Nat) (r : mx_T) (ls : mx_L) (st : List Value) (h : mx_H) (c n : Nat) : mx_G r (t_Hs_rowOf zz) 9 ls st h c n = (o_dup) r (mx_G r (t_Hs_rowOf zz)) 9 ls st h c n := mx_G_eq (tm_Hs_rowOf zz) r 9 ls st h c n
theorem st_Hs_rowOf_10 (zz : Nat × Nat) (r : mx_T) (ls : mx_L) (st : List Value) (h : mx_H) (c n : Nat) : mx_G r (t_Hs_rowOf zz) 10 ls st h c n = (o_push 1 (.int 0)) r (mx_G r (t_Hs_rowOf zz)) 10 ls st h c n := mx_G_eq (tm_Hs_rowOf zz) r 10 ls st h c n
theorem st_Hs_rowOf_11 (zz : Nat × Nat) (r : mx_T) (ls : mx_L) (st : List Value) (h : mx_H) (c n : Nat) : mx_G r (t_Hs_rowOf zz) 11 ls st h c n = (o_aload 1 0) r (mx_G r (t_Hs_rowOf zz)) 11 ls st h c n := mx_G_eq (tm_Hs_rowOf zz) r 11 ls st h c n
theorem st_Hs_rowOf_12 (zz : Nat × Nat) (r : mx_T) (ls : mx_L) (st : List Value) (h : mx_H) (c n : Nat) : mx_G r (t_Hs_rowOf zz) 12 ls st h c n = (o_get 0 0) r (mx_G r (t_Hs_rowOf zz)) 12 ls st h c n := mx_G_eq (tm_Hs_rowOf zz) r 12 ls st h c n
theorem st_Hs_rowOf_15 (zz : Nat × Nat) (r : mx_T) (ls : mx_L) (st : List Value) (h : mx_H) (c n : Nat) : mx_G r (t_Hs_rowOf zz) 15 ls st h c n = (o_iload 1 1) r (mx_G r (t_Hs_rowOf zz)) 15 ls st h c n := mx_G_eq (tm_Hs_rowOf zz) r 15 ls st h c n
theorem st_Hs_rowOf_16 (zz : Nat × Nat) (r : mx_T) (ls : mx_L) (st : List Value) (h : mx_H) (c n : Nat) : mx_G r (t_Hs_rowOf zz) 16 ls st h c n = (o_call 2 5 2 0 0 (mx_rv 9) (S_Al_get zz)) r (mx_G r (t_Hs_rowOf zz)) 16 ls st h c n := mx_G_eq (tm_Hs_rowOf zz) r 16 ls st h c n
theorem st_Hs_rowOf_19 (zz : Nat × Nat) (r : mx_T) (ls : mx_L) (st : List Value) (h : mx_H) (c n : Nat) : mx_G r (t_Hs_rowOf zz) 19 ls st h c n = (o_cast 1) r (mx_G r (t_Hs_rowOf zz)) 19 ls st h c n := mx_G_eq (tm_Hs_rowOf zz) r 19 ls st h c n
theorem st_Hs_rowOf_22 (zz : Nat × Nat) (r : mx_T) (ls : mx_L) (st : List Value) (h : mx_H) (c n : Nat) : mx_G r (t_Hs_rowOf zz) 22 ls st h c n = (o_aast "HeaderSchedule$Frame" [1]) r (mx_G r (t_Hs_rowOf zz)) 22 ls st h c n := mx_G_eq (tm_Hs_rowOf zz) r 22 ls st h c n
theorem st_Hs_rowOf_23 (zz : Nat × Nat) (r : mx_T) (ls : mx_L) (st : List Value) (h : mx_H) (c n : Nat) : mx_G r (t_Hs_rowOf zz) 23 ls st h c n = (o_dup) r (mx_G r (t_Hs_rowOf zz)) 23 ls st h c n := mx_G_eq (tm_Hs_rowOf zz) r 23 ls st h c n
theorem st_Hs_rowOf_24 (zz : Nat × Nat) (r : mx_T) (ls : mx_L) (st : List Value) (h : mx_H) (c n : Nat) : mx_G r (t_Hs_rowOf zz) 24 ls st h c n = (o_push 1 (.int 1)) r (mx_G r (t_Hs_rowOf zz)) 24 ls st h c n := mx_G_eq (tm_Hs_rowOf zz) r 24 ls st h c n
theorem st_Hs_rowOf_25 (zz : Nat × Nat) (r : mx_T) (ls : mx_L) (st : List Value) (h : mx_H) (c n : Nat) : mx_G r (t_Hs_rowOf zz) 25 ls st h c n = (o_aload 1 0) r (mx_G r (t_Hs_rowOf zz)) 25 ls st h c n := mx_G_eq (tm_Hs_rowOf zz) r 25 ls st h c n
theorem st_Hs_rowOf_26 (zz : Nat × Nat) (r : mx_T) (ls : mx_L) (st : List Value) (h : mx_H) (c n : Nat) : mx_G r (t_Hs_rowOf zz) 26 ls st h c n = (o_get 0 0) r (mx_G r (t_Hs_rowOf zz)) 26 ls st h c n := mx_G_eq (tm_Hs_rowOf zz) r 26 ls st h c n
theorem st_Hs_rowOf_29 (zz : Nat × Nat) (r : mx_T) (ls : mx_L) (st : List Value) (h : mx_H) (c n : Nat) : mx_G r (t_Hs_rowOf zz) 29 ls st h c n = (o_iload 1 2) r (mx_G r (t_Hs_rowOf zz)) 29 ls st h c n := mx_G_eq (tm_Hs_rowOf zz) r 29 ls st h c n
theorem st_Hs_rowOf_30 (zz : Nat × Nat) (r : mx_T) (ls : mx_L) (st : List Value) (h : mx_H) (c n : Nat) : mx_G r (t_Hs_rowOf zz) 30 ls st h c n = (o_call 2 5 2 0 0 (mx_rv 9) (S_Al_get zz)) r (mx_G r (t_Hs_rowOf zz)) 30 ls st h c n := mx_G_eq (tm_Hs_rowOf zz) r 30 ls st h c n
theorem st_Hs_rowOf_33 (zz : Nat × Nat) (r : mx_T) (ls : mx_L) (st : List Value) (h : mx_H) (c n : Nat) : mx_G r (t_Hs_rowOf zz) 33 ls st h c n = (o_cast 1) r (mx_G r (t_Hs_rowOf zz)) 33 ls st h c n := mx_G_eq (tm_Hs_rowOf zz) r 33 ls st h c n
theorem st_Hs_rowOf_36 (zz : Nat × Nat) (r : mx_T) (ls : mx_L) (st : List Value) (h : mx_H) (c n : Nat) : mx_G r (t_Hs_rowOf zz) 36 ls st h c n = (o_aast "HeaderSchedule$Frame" [1]) r (mx_G r (t_Hs_rowOf zz)) 36 ls st h c n := mx_G_eq (tm_Hs_rowOf zz) r 36 ls st h c n
theorem st_Hs_rowOf_37 (zz : Nat × Nat) (r : mx_T) (ls : mx_L) (st : List Value) (h : mx_H) (c n : Nat) : mx_G r (t_Hs_rowOf zz) 37 ls st h c n = (o_aret) r (mx_G r (t_Hs_rowOf zz)) 37 ls st h c n := mx_G_eq (tm_Hs_rowOf zz) r 37 ls st h c n
theorem st_Hs_rowOf_38 (zz : Nat × Nat) (r : mx_T) (ls : mx_L) (st : List Value) (h : mx_H) (c n : Nat) : mx_G r (t_Hs_rowOf zz) 38 ls st h c n = (o_push 1 (.int 3)) r (mx_G r (t_Hs_rowOf zz)) 38 ls st h c n := mx_G_eq (tm_Hs_rowOf zz) r 38 ls st h c n
theorem st_Hs_rowOf_39 (zz : Nat × Nat) (r : mx_T) (ls : mx_L) (st : List Value) (h : mx_H) (c n : Nat) : mx_G r (t_Hs_rowOf zz) 39 ls st h c n = (o_newq 2 5 "HeaderSchedule$Frame") r (mx_G r (t_Hs_rowOf zz)) 39 ls st h c n := mx_G_eq (tm_Hs_rowOf zz) r 39 ls st h c n
theorem st_Hs_rowOf_42 (zz : Nat × Nat) (r : mx_T) (ls : mx_L) (st : List Value) (h : mx_H) (c n : Nat) : mx_G r (t_Hs_rowOf zz) 42 ls st h c n = (o_dup) r (mx_G r (t_Hs_rowOf zz)) 42 ls st h c n := mx_G_eq (tm_Hs_rowOf zz) r 42 ls st h c n
theorem st_Hs_rowOf_43 (zz : Nat × Nat) (r : mx_T) (ls : mx_L) (st : List Value) (h : mx_H) (c n : Nat) : mx_G r (t_Hs_rowOf zz) 43 ls st h c n = (o_push 1 (.int 0)) r (mx_G r (t_Hs_rowOf zz)) 43 ls st h c n := mx_G_eq (tm_Hs_rowOf zz) r 43 ls st h c n
theorem st_Hs_rowOf_44 (zz : Nat × Nat) (r : mx_T) (ls : mx_L) (st : List Value) (h : mx_H) (c n : Nat) : mx_G r (t_Hs_rowOf zz) 44 ls st h c n = (o_aload 1 0) r (mx_G r (t_Hs_rowOf zz)) 44 ls st h c n := mx_G_eq (tm_Hs_rowOf zz) r 44 ls st h c n
theorem st_Hs_rowOf_45 (zz : Nat × Nat) (r : mx_T) (ls : mx_L) (st : List Value) (h : mx_H) (c n : Nat) : mx_G r (t_Hs_rowOf zz) 45 ls st h c n = (o_get 0 0) r (mx_G r (t_Hs_rowOf zz)) 45 ls st h c n := mx_G_eq (tm_Hs_rowOf zz) r 45 ls st h c n
theorem st_Hs_rowOf_48 (zz : Nat × Nat) (r : mx_T) (ls : mx_L) (st : List Value) (h : mx_H) (c n : Nat) : mx_G r (t_Hs_rowOf zz) 48 ls st h c n = (o_iload 1 1) r (mx_G r (t_Hs_rowOf zz)) 48 ls st h c n := mx_G_eq (tm_Hs_rowOf zz) r 48 ls st h c n
theorem st_Hs_rowOf_49 (zz : Nat × Nat) (r : mx_T) (ls : mx_L) (st : List Value) (h : mx_H) (c n : Nat) : mx_G r (t_Hs_rowOf zz) 49 ls st h c n = (o_call 2 5 2 0 0 (mx_rv 9) (S_Al_get zz)) r (mx_G r (t_Hs_rowOf zz)) 49 ls st h c n := mx_G_eq (tm_Hs_rowOf zz) r 49 ls st h c n
theorem st_Hs_rowOf_52 (zz : Nat × Nat) (r : mx_T) (ls : mx_L) (st : List Value) (h : mx_H) (c n : Nat) : mx_G r (t_Hs_rowOf zz) 52 ls st h c n = (o_cast 1) r (mx_G r (t_Hs_rowOf zz)) 52 ls st h c n := mx_G_eq (tm_Hs_rowOf zz) r 52 ls st h c n
theorem st_Hs_rowOf_55 (zz : Nat × Nat) (r : mx_T) (ls : mx_L) (st : List Value) (h : mx_H) (c n : Nat) : mx_G r (t_Hs_rowOf zz) 55 ls st h c n = (o_aast "HeaderSchedule$Frame" [1]) r (mx_G r (t_Hs_rowOf zz)) 55 ls st h c n := mx_G_eq (tm_Hs_rowOf zz) r 55 ls st h c n
theorem st_Hs_rowOf_56 (zz : Nat × Nat) (r : mx_T) (ls : mx_L) (st : List Value) (h : mx_H) (c n : Nat) : mx_G r (t_Hs_rowOf zz) 56 ls st h c n = (o_dup) r (mx_G r (t_Hs_rowOf zz)) 56 ls st h c n := mx_G_eq (tm_Hs_rowOf zz) r 56 ls st h c n
theorem st_Hs_rowOf_57 (zz : Nat × Nat) (r : mx_T) (ls : mx_L) (st : List Value) (h : mx_H) (c n : Nat) : mx_G r (t_Hs_rowOf zz) 57 ls st h c n = (o_push 1 (.int 1)) r (mx_G r (t_Hs_rowOf zz)) 57 ls st h c n := mx_G_eq (tm_Hs_rowOf zz) r 57 ls st h c n
theorem st_Hs_rowOf_58 (zz : Nat × Nat) (r : mx_T) (ls : mx_L) (st : List Value) (h : mx_H) (c n : Nat) : mx_G r (t_Hs_rowOf zz) 58 ls st h c n = (o_aload 1 0) r (mx_G r (t_Hs_rowOf zz)) 58 ls st h c n := mx_G_eq (tm_Hs_rowOf zz) r 58 ls st h c n
theorem st_Hs_rowOf_59 (zz : Nat × Nat) (r : mx_T) (ls : mx_L) (st : List Value) (h : mx_H) (c n : Nat) : mx_G r (t_Hs_rowOf zz) 59 ls st h c n = (o_get 0 0) r (mx_G r (t_Hs_rowOf zz)) 59 ls st h c n := mx_G_eq (tm_Hs_rowOf zz) r 59 ls st h c n
theorem st_Hs_rowOf_62 (zz : Nat × Nat) (r : mx_T) (ls : mx_L) (st : List Value) (h : mx_H) (c n : Nat) : mx_G r (t_Hs_rowOf zz) 62 ls st h c n = (o_iload 1 2) r (mx_G r (t_Hs_rowOf zz)) 62 ls st h c n := mx_G_eq (tm_Hs_rowOf zz) r 62 ls st h c n
theorem st_Hs_rowOf_63 (zz : Nat × Nat) (r : mx_T) (ls : mx_L) (st : List Value) (h : mx_H) (c n : Nat) : mx_G r (t_Hs_rowOf zz) 63 ls st h c n = (o_call 2 5 2 0 0 (mx_rv 9) (S_Al_get zz)) r (mx_G r (t_Hs_rowOf zz)) 63 ls st h c n := mx_G_eq (tm_Hs_rowOf zz) r 63 ls st h c n
theorem st_Hs_rowOf_66 (zz : Nat × Nat) (r : mx_T) (ls : mx_L) (st : List Value) (h : mx_H) (c n : Nat) : mx_G r (t_Hs_rowOf zz) 66 ls st h c n = (o_cast 1) r (mx_G r (t_Hs_rowOf zz)) 66 ls st h c n := mx_G_eq (tm_Hs_rowOf zz) r 66 ls st h c n
theorem st_Hs_rowOf_69 (zz : Nat × Nat) (r : mx_T) (ls : mx_L) (st : List Value) (h : mx_H) (c n : Nat) : mx_G r (t_Hs_rowOf zz) 69 ls st h c n = (o_aast "HeaderSchedule$Frame" [1]) r (mx_G r (t_Hs_rowOf zz)) 69 ls st h c n := mx_G_eq (tm_Hs_rowOf zz) r 69 ls st h c n
theorem st_Hs_rowOf_70 (zz : Nat × Nat) (r : mx_T) (ls : mx_L) (st : List Value) (h : mx_H) (c n : Nat) : mx_G r (t_Hs_rowOf zz) 70 ls st h c n = (o_dup) r (mx_G r (t_Hs_rowOf zz)) 70 ls st h c n := mx_G_eq (tm_Hs_rowOf zz) r 70 ls st h c n
theorem st_Hs_rowOf_71 (zz : Nat × Nat) (r : mx_T) (ls : mx_L) (st : List Value) (h : mx_H) (c n : Nat) : mx_G r (t_Hs_rowOf zz) 71 ls st h c n = (o_push 1 (.int 2)) r (mx_G r (t_Hs_rowOf zz)) 71 ls st h c n := mx_G_eq (tm_Hs_rowOf zz) r 71 ls st h c n
theorem st_Hs_rowOf_72 (zz : Nat × Nat) (r : mx_T) (ls : mx_L) (st : List Value) (h : mx_H) (c n : Nat) : mx_G r (t_Hs_rowOf zz) 72 ls st h c n = (o_aload 1 0) r (mx_G r (t_Hs_rowOf zz)) 72 ls st h c n := mx_G_eq (tm_Hs_rowOf zz) r 72 ls st h c n
theorem st_Hs_rowOf_73 (zz : Nat × Nat) (r : mx_T) (ls : mx_L) (st : List Value) (h : mx_H) (c n : Nat) : mx_G r (t_Hs_rowOf zz) 73 ls st h c n = (o_get 0 0) r (mx_G r (t_Hs_rowOf zz)) 73 ls st h c n := mx_G_eq (tm_Hs_rowOf zz) r 73 ls st h c n
theorem st_Hs_rowOf_76 (zz : Nat × Nat) (r : mx_T) (ls : mx_L) (st : List Value) (h : mx_H) (c n : Nat) : mx_G r (t_Hs_rowOf zz) 76 ls st h c n = (o_iload 1 3) r (mx_G r (t_Hs_rowOf zz)) 76 ls st h c n := mx_G_eq (tm_Hs_rowOf zz) r 76 ls st h c n
theorem st_Hs_rowOf_77 (zz : Nat × Nat) (r : mx_T) (ls : mx_L) (st : List Value) (h : mx_H) (c n : Nat) : mx_G r (t_Hs_rowOf zz) 77 ls st h c n = (o_call 2 5 2 0 0 (mx_rv 9) (S_Al_get zz)) r (mx_G r (t_Hs_rowOf zz)) 77 ls st h c n := mx_G_eq (tm_Hs_rowOf zz) r 77 ls st h c n
theorem st_Hs_rowOf_80 (zz : Nat × Nat) (r : mx_T) (ls : mx_L) (st : List Value) (h : mx_H) (c n : Nat) : mx_G r (t_Hs_rowOf zz) 80 ls st h c n = (o_cast 1) r (mx_G r (t_Hs_rowOf zz)) 80 ls st h c n := mx_G_eq (tm_Hs_rowOf zz) r 80 ls st h c n
theorem st_Hs_rowOf_83 (zz : Nat × Nat) (r : mx_T) (ls : mx_L) (st : List Value) (h : mx_H) (c n : Nat) : mx_G r (t_Hs_rowOf zz) 83 ls st h c n = (o_aast "HeaderSchedule$Frame" [1]) r (mx_G r (t_Hs_rowOf zz)) 83 ls st h c n := mx_G_eq (tm_Hs_rowOf zz) r 83 ls st h c n
theorem st_Hs_rowOf_84 (zz : Nat × Nat) (r : mx_T) (ls : mx_L) (st : List Value) (h : mx_H) (c n : Nat) : mx_G r (t_Hs_rowOf zz) 84 ls st h c n = (o_aret) r (mx_G r (t_Hs_rowOf zz)) 84 ls st h c n := mx_G_eq (tm_Hs_rowOf zz) r 84 ls st h c n
theorem d_Gr_init_0 : decode c_Gr_init 0 = .ok (.aload_n 0, 1) := by decide +kernel
theorem d_Gr_init_1 : decode c_Gr_init 1 = .ok (.invokespecial 1, 3) := by decide +kernel
theorem d_Gr_init_4 : decode c_Gr_init 4 = .ok (.aload_n 0, 1) := by decide +kernel
theorem d_Gr_init_5 : decode c_Gr_init 5 = .ok (.aload_n 1, 1) := by decide +kernel
theorem d_Gr_init_6 : decode c_Gr_init 6 = .ok (.putfield 7, 3) := by decide +kernel
theorem d_Gr_init_9 : decode c_Gr_init 9 = .ok (.return_, 1) := by decide +kernel
def t_Gr_init (zz : Nat × Nat) : List (Nat × mx_O) := [(0, o_aload 1 0),
  (1, o_objinit),
  (4, o_aload 1 0),
  (5, o_aload 1 1),
  (6, o_put 3 0 mx_vA),
  (9, o_vret)]
set_option maxRecDepth 100000 in
theorem tm_Gr_init (zz : Nat × Nat) : mx_All (fun _ o => mx_Mono o) (t_Gr_init zz) := by
  refine mx_all_cons (mo_st) ?_
  refine mx_all_cons (mo_sc) ?_
  refine mx_all_cons (mo_st) ?_
  refine mx_all_cons (mo_st) ?_
  refine mx_all_cons (mo_sc) ?_
  refine mx_all_cons (mo_ret) ?_
  exact mx_all_nil
def S_Gr_init (zz : Nat × Nat) : mx_Sp := mx_S 2 0 0 (t_Gr_init zz)
theorem sm_Gr_init (zz : Nat × Nat) : mx_SMono (S_Gr_init zz) := mx_S_mono (tm_Gr_init zz)
abbrev rm_Gr_init : Room := { frames := 1, cells := 0, slots := 0, locals := 20 }
set_option maxHeartbeats 4000000 in
set_option maxRecDepth 100000 in
theorem m_Gr_init (l : Launch) (zz : Nat × Nat) : mx_Met l y_Gr_init (wsOf y_Gr_init c_Gr_init 2 none) rm_Gr_init wcl (mx_Z zz) 0 0 (S_Gr_init zz) := by
  refine mx_met (cc := c_Gr_init) (ret := none) (by decide) rfl ?_
  intro p e s m args below meth c D A Post X hz hr hlk hnm
  have hm : ∀ w ∈ mw, w.before args s = true := fun w h => X.1.2.2.2.2 w (List.mem_cons_of_mem _ h)
  refine mx_all_cons (ok_aload (fun hl kk => lv_aload_n X.1.1 X.1.2.1 d_Gr_init_0 rfl hl kk) (fun hl kk => lv_aload_nN X.1.1 X.1.2.1 d_Gr_init_0 rfl hl kk)) ?_
  refine mx_all_cons (ok_objinit X ⟨(Nat.le_of_ble_eq_true rfl), (Nat.le_of_ble_eq_true rfl)⟩ (hm _ w398) (hm _ w58) (hm _ w_oic) d_Gr_init_1) ?_
  refine mx_all_cons (ok_aload (fun hl kk => lv_aload_n X.1.1 X.1.2.1 d_Gr_init_4 rfl hl kk) (fun hl kk => lv_aload_nN X.1.1 X.1.2.1 d_Gr_init_4 rfl hl kk)) ?_
  refine mx_all_cons (ok_aload (fun hl kk => lv_aload_n X.1.1 X.1.2.1 d_Gr_init_5 rfl hl kk) (fun hl kk => lv_aload_nN X.1.1 X.1.2.1 d_Gr_init_5 rfl hl kk)) ?_
  refine mx_all_cons (ok_putF (C := "HeaderSchedule$Group") (T := T_Gr) (N := 1) X (mw_up in_Gr) ty_Gr tyok_Gr nm_Gr rfl 0 (by decide) (hm _ w399) (fun _ h9 => h9) rfl hnm rfl (tyok_Gr 0 (by decide)) mx_vA_okR d_Gr_init_6) ?_
  refine mx_all_cons (ok_vret X hr hlk d_Gr_init_9) ?_
  exact mx_all_nil
theorem st_Gr_init_0 (zz : Nat × Nat) (r : mx_T) (ls : mx_L) (st : List Value) (h : mx_H) (c n : Nat) : mx_G r (t_Gr_init zz) 0 ls st h c n = (o_aload 1 0) r (mx_G r (t_Gr_init zz)) 0 ls st h c n := mx_G_eq (tm_Gr_init zz) r 0 ls st h c n
theorem st_Gr_init_1 (zz : Nat × Nat) (r : mx_T) (ls : mx_L) (st : List Value) (h : mx_H) (c n : Nat) : mx_G r (t_Gr_init zz) 1 ls st h c n = (o_objinit) r (mx_G r (t_Gr_init zz)) 1 ls st h c n := mx_G_eq (tm_Gr_init zz) r 1 ls st h c n
theorem st_Gr_init_4 (zz : Nat × Nat) (r : mx_T) (ls : mx_L) (st : List Value) (h : mx_H) (c n : Nat) : mx_G r (t_Gr_init zz) 4 ls st h c n = (o_aload 1 0) r (mx_G r (t_Gr_init zz)) 4 ls st h c n := mx_G_eq (tm_Gr_init zz) r 4 ls st h c n
theorem st_Gr_init_5 (zz : Nat × Nat) (r : mx_T) (ls : mx_L) (st : List Value) (h : mx_H) (c n : Nat) : mx_G r (t_Gr_init zz) 5 ls st h c n = (o_aload 1 1) r (mx_G r (t_Gr_init zz)) 5 ls st h c n := mx_G_eq (tm_Gr_init zz) r 5 ls st h c n
theorem st_Gr_init_6 (zz : Nat × Nat) (r : mx_T) (ls : mx_L) (st : List Value) (h : mx_H) (c n : Nat) : mx_G r (t_Gr_init zz) 6 ls st h c n = (o_put 3 0 mx_vA) r (mx_G r (t_Gr_init zz)) 6 ls st h c n := mx_G_eq (tm_Gr_init zz) r 6 ls st h c n
theorem st_Gr_init_9 (zz : Nat × Nat) (r : mx_T) (ls : mx_L) (st : List Value) (h : mx_H) (c n : Nat) : mx_G r (t_Gr_init zz) 9 ls st h c n = (o_vret) r (mx_G r (t_Gr_init zz)) 9 ls st h c n := mx_G_eq (tm_Gr_init zz) r 9 ls st h c n
theorem d_Hs_sporadic_0 : decode c_Hs_sporadic 0 = .ok (.aload_n 0, 1) := by decide +kernel
theorem d_Hs_sporadic_1 : decode c_Hs_sporadic 1 = .ok (.getfield 47, 3) := by decide +kernel
theorem d_Hs_sporadic_4 : decode c_Hs_sporadic 4 = .ok (.ifCond .ne 29, 3) := by decide +kernel
theorem d_Hs_sporadic_7 : decode c_Hs_sporadic 7 = .ok (.aload_n 0, 1) := by decide +kernel
theorem d_Hs_sporadic_8 : decode c_Hs_sporadic 8 = .ok (.getfield 19, 3) := by decide +kernel
theorem d_Hs_sporadic_11 : decode c_Hs_sporadic 11 = .ok (.invokevirtual 58, 3) := by decide +kernel
theorem d_Hs_sporadic_14 : decode c_Hs_sporadic 14 = .ok (.iconst 2, 1) := by decide +kernel
theorem d_Hs_sporadic_15 : decode c_Hs_sporadic 15 = .ok (.if_icmp .ge 18, 3) := by decide +kernel
theorem d_Hs_sporadic_18 : decode c_Hs_sporadic 18 = .ok (.iload_n 1, 1) := by decide +kernel
theorem d_Hs_sporadic_19 : decode c_Hs_sporadic 19 = .ok (.iload_n 2, 1) := by decide +kernel
theorem d_Hs_sporadic_20 : decode c_Hs_sporadic 20 = .ok (.if_icmp .eq 13, 3) := by decide +kernel
theorem d_Hs_sporadic_23 : decode c_Hs_sporadic 23 = .ok (.iload_n 1, 1) := by decide +kernel
theorem d_Hs_sporadic_24 : decode c_Hs_sporadic 24 = .ok (.iload_n 3, 1) := by decide +kernel
theorem d_Hs_sporadic_25 : decode c_Hs_sporadic 25 = .ok (.if_icmp .eq 8, 3) := by decide +kernel
theorem d_Hs_sporadic_28 : decode c_Hs_sporadic 28 = .ok (.iload_n 2, 1) := by decide +kernel
theorem d_Hs_sporadic_29 : decode c_Hs_sporadic 29 = .ok (.iload_n 3, 1) := by decide +kernel
theorem d_Hs_sporadic_30 : decode c_Hs_sporadic 30 = .ok (.if_icmp .ne 5, 3) := by decide +kernel
theorem d_Hs_sporadic_33 : decode c_Hs_sporadic 33 = .ok (.iconst (-1), 1) := by decide +kernel
theorem d_Hs_sporadic_34 : decode c_Hs_sporadic 34 = .ok (.ireturn, 1) := by decide +kernel
theorem d_Hs_sporadic_35 : decode c_Hs_sporadic 35 = .ok (.aload_n 0, 1) := by decide +kernel
theorem d_Hs_sporadic_36 : decode c_Hs_sporadic 36 = .ok (.iload_n 1, 1) := by decide +kernel
theorem d_Hs_sporadic_37 : decode c_Hs_sporadic 37 = .ok (.invokevirtual 110, 3) := by decide +kernel
theorem d_Hs_sporadic_40 : decode c_Hs_sporadic 40 = .ok (.ifCond .eq 24, 3) := by decide +kernel
theorem d_Hs_sporadic_43 : decode c_Hs_sporadic 43 = .ok (.aload_n 0, 1) := by decide +kernel
theorem d_Hs_sporadic_44 : decode c_Hs_sporadic 44 = .ok (.iload_n 2, 1) := by decide +kernel
theorem d_Hs_sporadic_45 : decode c_Hs_sporadic 45 = .ok (.invokevirtual 110, 3) := by decide +kernel
theorem d_Hs_sporadic_48 : decode c_Hs_sporadic 48 = .ok (.ifCond .eq 16, 3) := by decide +kernel
theorem d_Hs_sporadic_51 : decode c_Hs_sporadic 51 = .ok (.iload_n 3, 1) := by decide +kernel
theorem d_Hs_sporadic_52 : decode c_Hs_sporadic 52 = .ok (.iconst (-1), 1) := by decide +kernel
theorem d_Hs_sporadic_53 : decode c_Hs_sporadic 53 = .ok (.if_icmp .eq 13, 3) := by decide +kernel
theorem d_Hs_sporadic_56 : decode c_Hs_sporadic 56 = .ok (.aload_n 0, 1) := by decide +kernel
theorem d_Hs_sporadic_57 : decode c_Hs_sporadic 57 = .ok (.iload_n 3, 1) := by decide +kernel
theorem d_Hs_sporadic_58 : decode c_Hs_sporadic 58 = .ok (.invokevirtual 110, 3) := by decide +kernel
theorem d_Hs_sporadic_61 : decode c_Hs_sporadic 61 = .ok (.ifCond .ne 5, 3) := by decide +kernel
theorem d_Hs_sporadic_64 : decode c_Hs_sporadic 64 = .ok (.iconst (-1), 1) := by decide +kernel
theorem d_Hs_sporadic_65 : decode c_Hs_sporadic 65 = .ok (.ireturn, 1) := by decide +kernel
theorem d_Hs_sporadic_66 : decode c_Hs_sporadic 66 = .ok (.aload_n 0, 1) := by decide +kernel
theorem d_Hs_sporadic_67 : decode c_Hs_sporadic 67 = .ok (.getfield 19, 3) := by decide +kernel
theorem d_Hs_sporadic_70 : decode c_Hs_sporadic 70 = .ok (.new 113, 3) := by decide +kernel
theorem d_Hs_sporadic_73 : decode c_Hs_sporadic 73 = .ok (.dup, 1) := by decide +kernel
theorem d_Hs_sporadic_74 : decode c_Hs_sporadic 74 = .ok (.aload_n 0, 1) := by decide +kernel
theorem d_Hs_sporadic_75 : decode c_Hs_sporadic 75 = .ok (.iload_n 1, 1) := by decide +kernel
theorem d_Hs_sporadic_76 : decode c_Hs_sporadic 76 = .ok (.iload_n 2, 1) := by decide +kernel
theorem d_Hs_sporadic_77 : decode c_Hs_sporadic 77 = .ok (.iload_n 3, 1) := by decide +kernel
theorem d_Hs_sporadic_78 : decode c_Hs_sporadic 78 = .ok (.invokevirtual 115, 3) := by decide +kernel
theorem d_Hs_sporadic_81 : decode c_Hs_sporadic 81 = .ok (.invokespecial 119, 3) := by decide +kernel
theorem d_Hs_sporadic_84 : decode c_Hs_sporadic 84 = .ok (.invokevirtual 79, 3) := by decide +kernel
theorem d_Hs_sporadic_87 : decode c_Hs_sporadic 87 = .ok (.pop, 1) := by decide +kernel
theorem d_Hs_sporadic_88 : decode c_Hs_sporadic 88 = .ok (.aload_n 0, 1) := by decide +kernel
theorem d_Hs_sporadic_89 : decode c_Hs_sporadic 89 = .ok (.getfield 19, 3) := by decide +kernel
theorem d_Hs_sporadic_92 : decode c_Hs_sporadic 92 = .ok (.invokevirtual 58, 3) := by decide +kernel
theorem d_Hs_sporadic_95 : decode c_Hs_sporadic 95 = .ok (.iconst 1, 1) := by decide +kernel
theorem d_Hs_sporadic_96 : decode c_Hs_sporadic 96 = .ok (.isub, 1) := by decide +kernel
theorem d_Hs_sporadic_97 : decode c_Hs_sporadic 97 = .ok (.ireturn, 1) := by decide +kernel
def t_Hs_sporadic (zz : Nat × Nat) : List (Nat × mx_O) := [(0, o_aload 1 0),
  (1, o_get 0 8),
  (4, o_if 33 (fun x => ¬ x = 0)),
  (7, o_aload 1 0),
  (8, o_get 0 2),
  (11, o_call 5 134 1 0 0 (mx_rv 9) (S_Al_size zz)),
  (14, o_push 1 (.int 2)),
  (15, o_icmp 33 (fun x y => y ≤ x)),
  (18, o_iload 1 1),
  (19, o_iload 1 2),
  (20, o_icmp 33 (fun x y => x = y)),
  (23, o_iload 1 1),
  (24, o_iload 1 3),
  (25, o_icmp 33 (fun x y => x = y)),
  (28, o_iload 1 2),
  (29, o_iload 1 3),
  (30, o_icmp 35 (fun x y => ¬ x = y)),
  (33, o_push 1 (.int (-1))),
  (34, o_iret),
  (35, o_aload 1 0),
  (36, o_iload 1 1),
  (37, o_call 5 134 2 0 0 (mx_rv 0) (S_Hs_isMasters zz)),
  (40, o_if 64 (fun x => x = 0)),
  (43, o_aload 1 0),
  (44, o_iload 1 2),
  (45, o_call 5 134 2 0 0 (mx_rv 0) (S_Hs_isMasters zz)),
  (48, o_if 64 (fun x => x = 0)),
  (51, o_iload 1 3),
  (52, o_push 1 (.int (-1))),
  (53, o_icmp 66 (fun x y => x = y)),
  (56, o_aload 1 0),
  (57, o_iload 1 3),
  (58, o_call 5 134 2 0 0 (mx_rv 0) (S_Hs_isMasters zz)),
  (61, o_if 66 (fun x => ¬ x = 0)),
  (64, o_push 1 (.int (-1))),
  (65, o_iret),
  (66, o_aload 1 0),
  (67, o_get 0 2),
  (70, o_new 5 134 3 1 [.null]),
  (73, o_dup),
  (74, o_aload 1 0),
  (75, o_iload 1 1),
  (76, o_iload 1 2),
  (77, o_iload 1 3),
  (78, o_call 5 134 4 2 5 (mx_rv 0) (S_Hs_rowOf zz)),
  (81, o_call 5 134 2 0 0 mx_rr (S_Gr_init zz)),
  (84, o_call 5 134 2 2 128 (mx_rv 9) (S_Al_add zz)),
  (87, o_pop),
  (88, o_aload 1 0),
  (89, o_get 0 2),
  (92, o_call 5 134 1 0 0 (mx_rv 9) (S_Al_size zz)),
  (95, o_push 1 (.int 1)),
  (96, o_ii (fun x y => x - y)),
  (97, o_iret)]
set_option maxRecDepth 100000 in
theorem tm_Hs_sporadic (zz : Nat × Nat) : mx_All (fun _ o => mx_Mono o) (t_Hs_sporadic zz) := by
  refine mx_all_cons (mo_st) ?_
  refine mx_all_cons (mo_st) ?_
  refine mx_all_cons (mo_br) ?_
  refine mx_all_cons (mo_st) ?_
  refine mx_all_cons (mo_st) ?_
  refine mx_all_cons (mo_call (sm_Al_size zz)) ?_
  refine mx_all_cons (mo_st) ?_
  refine mx_all_cons (mo_br) ?_
  refine mx_all_cons (mo_st) ?_
  refine mx_all_cons (mo_st) ?_
  refine mx_all_cons (mo_br) ?_
  refine mx_all_cons (mo_st) ?_
  refine mx_all_cons (mo_st) ?_
  refine mx_all_cons (mo_br) ?_
  refine mx_all_cons (mo_st) ?_
  refine mx_all_cons (mo_st) ?_
  refine mx_all_cons (mo_br) ?_
  refine mx_all_cons (mo_st) ?_
  refine mx_all_cons (mo_ret) ?_
  refine mx_all_cons (mo_st) ?_
  refine mx_all_cons (mo_st) ?_
  refine mx_all_cons (mo_call (sm_Hs_isMasters zz)) ?_
  refine mx_all_cons (mo_br) ?_
  refine mx_all_cons (mo_st) ?_
  refine mx_all_cons (mo_st) ?_
  refine mx_all_cons (mo_call (sm_Hs_isMasters zz)) ?_
  refine mx_all_cons (mo_br) ?_
  refine mx_all_cons (mo_st) ?_
  refine mx_all_cons (mo_st) ?_
  refine mx_all_cons (mo_br) ?_
  refine mx_all_cons (mo_st) ?_
  refine mx_all_cons (mo_st) ?_
  refine mx_all_cons (mo_call (sm_Hs_isMasters zz)) ?_
  refine mx_all_cons (mo_br) ?_
  refine mx_all_cons (mo_st) ?_
  refine mx_all_cons (mo_ret) ?_
  refine mx_all_cons (mo_st) ?_
  refine mx_all_cons (mo_st) ?_
  refine mx_all_cons (mo_al) ?_
  refine mx_all_cons (mo_st) ?_
  refine mx_all_cons (mo_st) ?_
  refine mx_all_cons (mo_st) ?_
  refine mx_all_cons (mo_st) ?_
  refine mx_all_cons (mo_st) ?_
  refine mx_all_cons (mo_call (sm_Hs_rowOf zz)) ?_
  refine mx_all_cons (mo_call (sm_Gr_init zz)) ?_
  refine mx_all_cons (mo_call (sm_Al_add zz)) ?_
  refine mx_all_cons (mo_st) ?_
  refine mx_all_cons (mo_st) ?_
  refine mx_all_cons (mo_st) ?_
  refine mx_all_cons (mo_call (sm_Al_size zz)) ?_
  refine mx_all_cons (mo_st) ?_
  refine mx_all_cons (mo_st) ?_
  refine mx_all_cons (mo_ret) ?_
  exact mx_all_nil
def S_Hs_sporadic (zz : Nat × Nat) : mx_Sp := mx_S 4 5 134 (t_Hs_sporadic zz)
theorem sm_Hs_sporadic (zz : Nat × Nat) : mx_SMono (S_Hs_sporadic zz) := mx_S_mono (tm_Hs_sporadic zz)
abbrev rm_Hs_sporadic : Room := { frames := 7, cells := 5, slots := 134, locals := 191 }
set_option maxHeartbeats 4000000 in
set_option maxRecDepth 100000 in
theorem m_Hs_sporadic (l : Launch) (zz : Nat × Nat) : mx_Met l y_Hs_sporadic (wsOf y_Hs_sporadic c_Hs_sporadic 4 (some .int)) rm_Hs_sporadic wcl (mx_Z zz) 5 134 (S_Hs_sporadic zz) := by
  refine mx_met (cc := c_Hs_sporadic) (ret := (some .int)) (by decide) rfl ?_
  intro p e s m args below meth c D A Post X hz hr hlk hnm
  have hm : ∀ w ∈ mw, w.before args s = true := fun w h => X.1.2.2.2.2 w (List.mem_cons_of_mem _ h)
  refine mx_all_cons (ok_aload (fun hl kk => lv_aload_n X.1.1 X.1.2.1 d_Hs_sporadic_0 rfl hl kk) (fun hl kk => lv_aload_nN X.1.1 X.1.2.1 d_Hs_sporadic_0 rfl hl kk)) ?_
  refine mx_all_cons (ok_get (C := "HeaderSchedule") (T := T_Hs) (N := 11) X (mw_up in_Hs) rfl 8 (by decide) (hm _ w166) (fun _ h9 => h9) d_Hs_sporadic_1) ?_
  refine mx_all_cons (ok_if (fun kt kf => lv_if_ne X.1.1 X.1.2.1 d_Hs_sporadic_4 (by decide) kt (fun z => kf (fun g => g z)))) ?_
  refine mx_all_cons (ok_aload (fun hl kk => lv_aload_n X.1.1 X.1.2.1 d_Hs_sporadic_7 rfl hl kk) (fun hl kk => lv_aload_nN X.1.1 X.1.2.1 d_Hs_sporadic_7 rfl hl kk)) ?_
  refine mx_all_cons (ok_get (C := "HeaderSchedule") (T := T_Hs) (N := 11) X (mw_up in_Hs) rfl 2 (by decide) (hm _ w160) (fun _ h9 => h9) d_Hs_sporadic_8) ?_
  refine mx_all_cons (ok_callV (C := "java/util/ArrayList") (T := T_Al) (N := 3) X (mx_Zok_Z zz) hz ⟨(Nat.le_of_ble_eq_true rfl), (Nat.le_of_ble_eq_true rfl)⟩ (m_Al_size l zz) ⟨mx_cwB 0 hm w199 w196 w36 rfl rfl (by decide +kernel) ⟨(Nat.le_of_ble_eq_true rfl), (Nat.le_of_ble_eq_true rfl)⟩, (hm _ w197), hm _ w198⟩ rfl d_Hs_sporadic_11) ?_
  refine mx_all_cons (ok_push (fun kk => lv_iconst X.1.1 X.1.2.1 d_Hs_sporadic_14 (by decide) kk)) ?_
  refine mx_all_cons (ok_icmp (fun kt kf => lv_icmp_ge X.1.1 X.1.2.1 d_Hs_sporadic_15 (by decide) kt kf)) ?_
  refine mx_all_cons (ok_iload (fun hl kk => lv_iload_n X.1.1 X.1.2.1 d_Hs_sporadic_18 rfl hl kk)) ?_
  refine mx_all_cons (ok_iload (fun hl kk => lv_iload_n X.1.1 X.1.2.1 d_Hs_sporadic_19 rfl hl kk)) ?_
  refine mx_all_cons (ok_icmp (fun kt kf => lv_icmp_eq X.1.1 X.1.2.1 d_Hs_sporadic_20 (by decide) kt kf)) ?_
  refine mx_all_cons (ok_iload (fun hl kk => lv_iload_n X.1.1 X.1.2.1 d_Hs_sporadic_23 rfl hl kk)) ?_
  refine mx_all_cons (ok_iload (fun hl kk => lv_iload_n X.1.1 X.1.2.1 d_Hs_sporadic_24 rfl hl kk)) ?_
  refine mx_all_cons (ok_icmp (fun kt kf => lv_icmp_eq X.1.1 X.1.2.1 d_Hs_sporadic_25 (by decide) kt kf)) ?_
  refine mx_all_cons (ok_iload (fun hl kk => lv_iload_n X.1.1 X.1.2.1 d_Hs_sporadic_28 rfl hl kk)) ?_
  refine mx_all_cons (ok_iload (fun hl kk => lv_iload_n X.1.1 X.1.2.1 d_Hs_sporadic_29 rfl hl kk)) ?_
  refine mx_all_cons (ok_icmp (fun kt kf => lv_icmp_ne X.1.1 X.1.2.1 d_Hs_sporadic_30 (by decide) kt (fun z => kf (fun g => g z)))) ?_
  refine mx_all_cons (ok_push (fun kk => lv_iconst X.1.1 X.1.2.1 d_Hs_sporadic_33 (by decide) kk)) ?_
  refine mx_all_cons (ok_iret X hr hlk d_Hs_sporadic_34) ?_
  refine mx_all_cons (ok_aload (fun hl kk => lv_aload_n X.1.1 X.1.2.1 d_Hs_sporadic_35 rfl hl kk) (fun hl kk => lv_aload_nN X.1.1 X.1.2.1 d_Hs_sporadic_35 rfl hl kk)) ?_
  refine mx_all_cons (ok_iload (fun hl kk => lv_iload_n X.1.1 X.1.2.1 d_Hs_sporadic_36 rfl hl kk)) ?_
  refine mx_all_cons (ok_callV (C := "HeaderSchedule") (T := T_Hs) (N := 11) X (mx_Zok_Z zz) hz ⟨(Nat.le_of_ble_eq_true rfl), (Nat.le_of_ble_eq_true rfl)⟩ (m_Hs_isMasters l zz) ⟨mx_cwB 1 hm w387 w384 w33 rfl rfl (by decide +kernel) ⟨(Nat.le_of_ble_eq_true rfl), (Nat.le_of_ble_eq_true rfl)⟩, (hm _ w386), hm _ w5⟩ rfl d_Hs_sporadic_37) ?_
  refine mx_all_cons (ok_if (fun kt kf => lv_if_eq X.1.1 X.1.2.1 d_Hs_sporadic_40 (by decide) kt kf)) ?_
  refine mx_all_cons (ok_aload (fun hl kk => lv_aload_n X.1.1 X.1.2.1 d_Hs_sporadic_43 rfl hl kk) (fun hl kk => lv_aload_nN X.1.1 X.1.2.1 d_Hs_sporadic_43 rfl hl kk)) ?_
  refine mx_all_cons (ok_iload (fun hl kk => lv_iload_n X.1.1 X.1.2.1 d_Hs_sporadic_44 rfl hl kk)) ?_
  refine mx_all_cons (ok_callV (C := "HeaderSchedule") (T := T_Hs) (N := 11) X (mx_Zok_Z zz) hz ⟨(Nat.le_of_ble_eq_true rfl), (Nat.le_of_ble_eq_true rfl)⟩ (m_Hs_isMasters l zz) ⟨mx_cwB 1 hm w387 w384 w33 rfl rfl (by decide +kernel) ⟨(Nat.le_of_ble_eq_true rfl), (Nat.le_of_ble_eq_true rfl)⟩, (hm _ w386), hm _ w5⟩ rfl d_Hs_sporadic_45) ?_
  refine mx_all_cons (ok_if (fun kt kf => lv_if_eq X.1.1 X.1.2.1 d_Hs_sporadic_48 (by decide) kt kf)) ?_
  refine mx_all_cons (ok_iload (fun hl kk => lv_iload_n X.1.1 X.1.2.1 d_Hs_sporadic_51 rfl hl kk)) ?_
  refine mx_all_cons (ok_push (fun kk => lv_iconst X.1.1 X.1.2.1 d_Hs_sporadic_52 (by decide) kk)) ?_
  refine mx_all_cons (ok_icmp (fun kt kf => lv_icmp_eq X.1.1 X.1.2.1 d_Hs_sporadic_53 (by decide) kt kf)) ?_
  refine mx_all_cons (ok_aload (fun hl kk => lv_aload_n X.1.1 X.1.2.1 d_Hs_sporadic_56 rfl hl kk) (fun hl kk => lv_aload_nN X.1.1 X.1.2.1 d_Hs_sporadic_56 rfl hl kk)) ?_
  refine mx_all_cons (ok_iload (fun hl kk => lv_iload_n X.1.1 X.1.2.1 d_Hs_sporadic_57 rfl hl kk)) ?_
  refine mx_all_cons (ok_callV (C := "HeaderSchedule") (T := T_Hs) (N := 11) X (mx_Zok_Z zz) hz ⟨(Nat.le_of_ble_eq_true rfl), (Nat.le_of_ble_eq_true rfl)⟩ (m_Hs_isMasters l zz) ⟨mx_cwB 1 hm w387 w384 w33 rfl rfl (by decide +kernel) ⟨(Nat.le_of_ble_eq_true rfl), (Nat.le_of_ble_eq_true rfl)⟩, (hm _ w386), hm _ w5⟩ rfl d_Hs_sporadic_58) ?_
  refine mx_all_cons (ok_if (fun kt kf => lv_if_ne X.1.1 X.1.2.1 d_Hs_sporadic_61 (by decide) kt (fun z => kf (fun g => g z)))) ?_
  refine mx_all_cons (ok_push (fun kk => lv_iconst X.1.1 X.1.2.1 d_Hs_sporadic_64 (by decide) kk)) ?_
  refine mx_all_cons (ok_iret X hr hlk d_Hs_sporadic_65) ?_
  refine mx_all_cons (ok_aload (fun hl kk => lv_aload_n X.1.1 X.1.2.1 d_Hs_sporadic_66 rfl hl kk) (fun hl kk => lv_aload_nN X.1.1 X.1.2.1 d_Hs_sporadic_66 rfl hl kk)) ?_
  refine mx_all_cons (ok_get (C := "HeaderSchedule") (T := T_Hs) (N := 11) X (mw_up in_Hs) rfl 2 (by decide) (hm _ w160) (fun _ h9 => h9) d_Hs_sporadic_67) ?_
  refine mx_all_cons (ok_new (C := "HeaderSchedule$Group") (T := T_Gr) X ⟨(Nat.le_of_ble_eq_true rfl), (Nat.le_of_ble_eq_true rfl)⟩ (mw_up in_Gr) ty_Gr tyok_Gr rfl (hm _ w388) (hm _ w389) (hm _ w49) (by decide) d_Hs_sporadic_70) ?_
  refine mx_all_cons (ok_dup X d_Hs_sporadic_73) ?_
  refine mx_all_cons (ok_aload (fun hl kk => lv_aload_n X.1.1 X.1.2.1 d_Hs_sporadic_74 rfl hl kk) (fun hl kk => lv_aload_nN X.1.1 X.1.2.1 d_Hs_sporadic_74 rfl hl kk)) ?_
  refine mx_all_cons (ok_iload (fun hl kk => lv_iload_n X.1.1 X.1.2.1 d_Hs_sporadic_75 rfl hl kk)) ?_
  refine mx_all_cons (ok_iload (fun hl kk => lv_iload_n X.1.1 X.1.2.1 d_Hs_sporadic_76 rfl hl kk)) ?_
  refine mx_all_cons (ok_iload (fun hl kk => lv_iload_n X.1.1 X.1.2.1 d_Hs_sporadic_77 rfl hl kk)) ?_
  refine mx_all_cons (ok_callV (C := "HeaderSchedule") (T := T_Hs) (N := 11) X (mx_Zok_Z zz) hz ⟨(Nat.le_of_ble_eq_true rfl), (Nat.le_of_ble_eq_true rfl)⟩ (m_Hs_rowOf l zz) ⟨mx_cwB 3 hm w393 w390 w33 rfl rfl (by decide +kernel) ⟨(Nat.le_of_ble_eq_true rfl), (Nat.le_of_ble_eq_true rfl)⟩, (hm _ w392), hm _ w6⟩ rfl d_Hs_sporadic_78) ?_
  refine mx_all_cons (ok_callI X (mx_Zok_Z zz) hz ⟨(Nat.le_of_ble_eq_true rfl), (Nat.le_of_ble_eq_true rfl)⟩ (m_Gr_init l zz) ⟨mx_cwB 1 hm w397 w395 w49 rfl rfl (by decide +kernel) ⟨(Nat.le_of_ble_eq_true rfl), (Nat.le_of_ble_eq_true rfl)⟩, rfl, (hm _ w396)⟩ d_Hs_sporadic_81) ?_
  refine mx_all_cons (ok_callV (C := "java/util/ArrayList") (T := T_Al) (N := 3) X (mx_Zok_Z zz) hz ⟨(Nat.le_of_ble_eq_true rfl), (Nat.le_of_ble_eq_true rfl)⟩ (m_Al_add l zz) ⟨mx_cwB 1 hm w260 w257 w36 rfl rfl (by decide +kernel) ⟨(Nat.le_of_ble_eq_true rfl), (Nat.le_of_ble_eq_true rfl)⟩, (hm _ w258), hm _ w259⟩ rfl d_Hs_sporadic_84) ?_
  refine mx_all_cons (ok_pop X d_Hs_sporadic_87) ?_
  refine mx_all_cons (ok_aload (fun hl kk => lv_aload_n X.1.1 X.1.2.1 d_Hs_sporadic_88 rfl hl kk) (fun hl kk => lv_aload_nN X.1.1 X.1.2.1 d_Hs_sporadic_88 rfl hl kk)) ?_
  refine mx_all_cons (ok_get (C := "HeaderSchedule") (T := T_Hs) (N := 11) X (mw_up in_Hs) rfl 2 (by decide) (hm _ w160) (fun _ h9 => h9) d_Hs_sporadic_89) ?_
  refine mx_all_cons (ok_callV (C := "java/util/ArrayList") (T := T_Al) (N := 3) X (mx_Zok_Z zz) hz ⟨(Nat.le_of_ble_eq_true rfl), (Nat.le_of_ble_eq_true rfl)⟩ (m_Al_size l zz) ⟨mx_cwB 0 hm w199 w196 w36 rfl rfl (by decide +kernel) ⟨(Nat.le_of_ble_eq_true rfl), (Nat.le_of_ble_eq_true rfl)⟩, (hm _ w197), hm _ w198⟩ rfl d_Hs_sporadic_92) ?_
  refine mx_all_cons (ok_push (fun kk => lv_iconst X.1.1 X.1.2.1 d_Hs_sporadic_95 (by decide) kk)) ?_
  refine mx_all_cons (ok_ii (fun kk => lv_isub X.1.1 X.1.2.1 d_Hs_sporadic_96 kk)) ?_
  refine mx_all_cons (ok_iret X hr hlk d_Hs_sporadic_97) ?_
  exact mx_all_nil
theorem st_Hs_sporadic_0 (zz : Nat × Nat) (r : mx_T) (ls : mx_L) (st : List Value) (h : mx_H) (c n : Nat) : mx_G r (t_Hs_sporadic zz) 0 ls st h c n = (o_aload 1 0) r (mx_G r (t_Hs_sporadic zz)) 0 ls st h c n := mx_G_eq (tm_Hs_sporadic zz) r 0 ls st h c n
theorem st_Hs_sporadic_1 (zz : Nat × Nat) (r : mx_T) (ls : mx_L) (st : List Value) (h : mx_H) (c n : Nat) : mx_G r (t_Hs_sporadic zz) 1 ls st h c n = (o_get 0 8) r (mx_G r (t_Hs_sporadic zz)) 1 ls st h c n := mx_G_eq (tm_Hs_sporadic zz) r 1 ls st h c n
theorem st_Hs_sporadic_4 (zz : Nat × Nat) (r : mx_T) (ls : mx_L) (st : List Value) (h : mx_H) (c n : Nat) : mx_G r (t_Hs_sporadic zz) 4 ls st h c n = (o_if 33 (fun x => ¬ x = 0)) r (mx_G r (t_Hs_sporadic zz)) 4 ls st h c n := mx_G_eq (tm_Hs_sporadic zz) r 4 ls st h c n
theorem st_Hs_sporadic_7 (zz : Nat × Nat) (r : mx_T) (ls : mx_L) (st : List Value) (h : mx_H) (c n : Nat) : mx_G r (t_Hs_sporadic zz) 7 ls st h c n = (o_aload 1 0) r (mx_G r (t_Hs_sporadic zz)) 7 ls st h c n := mx_G_eq (tm_Hs_sporadic zz) r 7 ls st h c n
theorem st_Hs_sporadic_8 (zz : Nat × Nat) (r : mx_T) (ls : mx_L) (st : List Value) (h : mx_H) (c n : Nat) : mx_G r (t_Hs_sporadic zz) 8 ls st h c n = (o_get 0 2) r (mx_G r (t_Hs_sporadic zz)) 8 ls st h c n := mx_G_eq (tm_Hs_sporadic zz) r 8 ls st h c n
theorem st_Hs_sporadic_11 (zz : Nat × Nat) (r : mx_T) (ls : mx_L) (st : List Value) (h : mx_H) (c n : Nat) : mx_G r (t_Hs_sporadic zz) 11 ls st h c n = (o_call 5 134 1 0 0 (mx_rv 9) (S_Al_size zz)) r (mx_G r (t_Hs_sporadic zz)) 11 ls st h c n := mx_G_eq (tm_Hs_sporadic zz) r 11 ls st h c n
theorem st_Hs_sporadic_14 (zz : Nat × Nat) (r : mx_T) (ls : mx_L) (st : List Value) (h : mx_H) (c n : Nat) : mx_G r (t_Hs_sporadic zz) 14 ls st h c n = (o_push 1 (.int 2)) r (mx_G r (t_Hs_sporadic zz)) 14 ls st h c n := mx_G_eq (tm_Hs_sporadic zz) r 14 ls st h c n
theorem st_Hs_sporadic_15 (zz : Nat × Nat) (r : mx_T) (ls : mx_L) (st : List Value) (h : mx_H) (c n : Nat) : mx_G r (t_Hs_sporadic zz) 15 ls st h c n = (o_icmp 33 (fun x y => y ≤ x)) r (mx_G r (t_Hs_sporadic zz)) 15 ls st h c n := mx_G_eq (tm_Hs_sporadic zz) r 15 ls st h c n
theorem st_Hs_sporadic_18 (zz : Nat × Nat) (r : mx_T) (ls : mx_L) (st : List Value) (h : mx_H) (c n : Nat) : mx_G r (t_Hs_sporadic zz) 18 ls st h c n = (o_iload 1 1) r (mx_G r (t_Hs_sporadic zz)) 18 ls st h c n := mx_G_eq (tm_Hs_sporadic zz) r 18 ls st h c n
theorem st_Hs_sporadic_19 (zz : Nat × Nat) (r : mx_T) (ls : mx_L) (st : List Value) (h : mx_H) (c n : Nat) : mx_G r (t_Hs_sporadic zz) 19 ls st h c n = (o_iload 1 2) r (mx_G r (t_Hs_sporadic zz)) 19 ls st h c n := mx_G_eq (tm_Hs_sporadic zz) r 19 ls st h c n
theorem st_Hs_sporadic_20 (zz : Nat × Nat) (r : mx_T) (ls : mx_L) (st : List Value) (h : mx_H) (c n : Nat) : mx_G r (t_Hs_sporadic zz) 20 ls st h c n = (o_icmp 33 (fun x y => x = y)) r (mx_G r (t_Hs_sporadic zz)) 20 ls st h c n := mx_G_eq (tm_Hs_sporadic zz) r 20 ls st h c n
theorem st_Hs_sporadic_23 (zz : Nat × Nat) (r : mx_T) (ls : mx_L) (st : List Value) (h : mx_H) (c n : Nat) : mx_G r (t_Hs_sporadic zz) 23 ls st h c n = (o_iload 1 1) r (mx_G r (t_Hs_sporadic zz)) 23 ls st h c n := mx_G_eq (tm_Hs_sporadic zz) r 23 ls st h c n
theorem st_Hs_sporadic_24 (zz : Nat × Nat) (r : mx_T) (ls : mx_L) (st : List Value) (h : mx_H) (c n : Nat) : mx_G r (t_Hs_sporadic zz) 24 ls st h c n = (o_iload 1 3) r (mx_G r (t_Hs_sporadic zz)) 24 ls st h c n := mx_G_eq (tm_Hs_sporadic zz) r 24 ls st h c n
theorem st_Hs_sporadic_25 (zz : Nat × Nat) (r : mx_T) (ls : mx_L) (st : List Value) (h : mx_H) (c n : Nat) : mx_G r (t_Hs_sporadic zz) 25 ls st h c n = (o_icmp 33 (fun x y => x = y)) r (mx_G r (t_Hs_sporadic zz)) 25 ls st h c n := mx_G_eq (tm_Hs_sporadic zz) r 25 ls st h c n
theorem st_Hs_sporadic_28 (zz : Nat × Nat) (r : mx_T) (ls : mx_L) (st : List Value) (h : mx_H) (c n : Nat) : mx_G r (t_Hs_sporadic zz) 28 ls st h c n = (o_iload 1 2) r (mx_G r (t_Hs_sporadic zz)) 28 ls st h c n := mx_G_eq (tm_Hs_sporadic zz) r 28 ls st h c n
theorem st_Hs_sporadic_29 (zz : Nat × Nat) (r : mx_T) (ls : mx_L) (st : List Value) (h : mx_H) (c n : Nat) : mx_G r (t_Hs_sporadic zz) 29 ls st h c n = (o_iload 1 3) r (mx_G r (t_Hs_sporadic zz)) 29 ls st h c n := mx_G_eq (tm_Hs_sporadic zz) r 29 ls st h c n
theorem st_Hs_sporadic_30 (zz : Nat × Nat) (r : mx_T) (ls : mx_L) (st : List Value) (h : mx_H) (c n : Nat) : mx_G r (t_Hs_sporadic zz) 30 ls st h c n = (o_icmp 35 (fun x y => ¬ x = y)) r (mx_G r (t_Hs_sporadic zz)) 30 ls st h c n := mx_G_eq (tm_Hs_sporadic zz) r 30 ls st h c n
theorem st_Hs_sporadic_33 (zz : Nat × Nat) (r : mx_T) (ls : mx_L) (st : List Value) (h : mx_H) (c n : Nat) : mx_G r (t_Hs_sporadic zz) 33 ls st h c n = (o_push 1 (.int (-1))) r (mx_G r (t_Hs_sporadic zz)) 33 ls st h c n := mx_G_eq (tm_Hs_sporadic zz) r 33 ls st h c n
theorem st_Hs_sporadic_34 (zz : Nat × Nat) (r : mx_T) (ls : mx_L) (st : List Value) (h : mx_H) (c n : Nat) : mx_G r (t_Hs_sporadic zz) 34 ls st h c n = (o_iret) r (mx_G r (t_Hs_sporadic zz)) 34 ls st h c n := mx_G_eq (tm_Hs_sporadic zz) r 34 ls st h c n
theorem st_Hs_sporadic_35 (zz : Nat × Nat) (r : mx_T) (ls : mx_L) (st : List Value) (h : mx_H) (c n : Nat) : mx_G r (t_Hs_sporadic zz) 35 ls st h c n = (o_aload 1 0) r (mx_G r (t_Hs_sporadic zz)) 35 ls st h c n := mx_G_eq (tm_Hs_sporadic zz) r 35 ls st h c n
theorem st_Hs_sporadic_36 (zz : Nat × Nat) (r : mx_T) (ls : mx_L) (st : List Value) (h : mx_H) (c n : Nat) : mx_G r (t_Hs_sporadic zz) 36 ls st h c n = (o_iload 1 1) r (mx_G r (t_Hs_sporadic zz)) 36 ls st h c n := mx_G_eq (tm_Hs_sporadic zz) r 36 ls st h c n
theorem st_Hs_sporadic_37 (zz : Nat × Nat) (r : mx_T) (ls : mx_L) (st : List Value) (h : mx_H) (c n : Nat) : mx_G r (t_Hs_sporadic zz) 37 ls st h c n = (o_call 5 134 2 0 0 (mx_rv 0) (S_Hs_isMasters zz)) r (mx_G r (t_Hs_sporadic zz)) 37 ls st h c n := mx_G_eq (tm_Hs_sporadic zz) r 37 ls st h c n
theorem st_Hs_sporadic_40 (zz : Nat × Nat) (r : mx_T) (ls : mx_L) (st : List Value) (h : mx_H) (c n : Nat) : mx_G r (t_Hs_sporadic zz) 40 ls st h c n = (o_if 64 (fun x => x = 0)) r (mx_G r (t_Hs_sporadic zz)) 40 ls st h c n := mx_G_eq (tm_Hs_sporadic zz) r 40 ls st h c n
theorem st_Hs_sporadic_43 (zz : Nat × Nat) (r : mx_T) (ls : mx_L) (st : List Value) (h : mx_H) (c n : Nat) : mx_G r (t_Hs_sporadic zz) 43 ls st h c n = (o_aload 1 0) r (mx_G r (t_Hs_sporadic zz)) 43 ls st h c n := mx_G_eq (tm_Hs_sporadic zz) r 43 ls st h c n
theorem st_Hs_sporadic_44 (zz : Nat × Nat) (r : mx_T) (ls : mx_L) (st : List Value) (h : mx_H) (c n : Nat) : mx_G r (t_Hs_sporadic zz) 44 ls st h c n = (o_iload 1 2) r (mx_G r (t_Hs_sporadic zz)) 44 ls st h c n := mx_G_eq (tm_Hs_sporadic zz) r 44 ls st h c n
theorem st_Hs_sporadic_45 (zz : Nat × Nat) (r : mx_T) (ls : mx_L) (st : List Value) (h : mx_H) (c n : Nat) : mx_G r (t_Hs_sporadic zz) 45 ls st h c n = (o_call 5 134 2 0 0 (mx_rv 0) (S_Hs_isMasters zz)) r (mx_G r (t_Hs_sporadic zz)) 45 ls st h c n := mx_G_eq (tm_Hs_sporadic zz) r 45 ls st h c n
theorem st_Hs_sporadic_48 (zz : Nat × Nat) (r : mx_T) (ls : mx_L) (st : List Value) (h : mx_H) (c n : Nat) : mx_G r (t_Hs_sporadic zz) 48 ls st h c n = (o_if 64 (fun x => x = 0)) r (mx_G r (t_Hs_sporadic zz)) 48 ls st h c n := mx_G_eq (tm_Hs_sporadic zz) r 48 ls st h c n
theorem st_Hs_sporadic_51 (zz : Nat × Nat) (r : mx_T) (ls : mx_L) (st : List Value) (h : mx_H) (c n : Nat) : mx_G r (t_Hs_sporadic zz) 51 ls st h c n = (o_iload 1 3) r (mx_G r (t_Hs_sporadic zz)) 51 ls st h c n := mx_G_eq (tm_Hs_sporadic zz) r 51 ls st h c n
theorem st_Hs_sporadic_52 (zz : Nat × Nat) (r : mx_T) (ls : mx_L) (st : List Value) (h : mx_H) (c n : Nat) : mx_G r (t_Hs_sporadic zz) 52 ls st h c n = (o_push 1 (.int (-1))) r (mx_G r (t_Hs_sporadic zz)) 52 ls st h c n := mx_G_eq (tm_Hs_sporadic zz) r 52 ls st h c n
theorem st_Hs_sporadic_53 (zz : Nat × Nat) (r : mx_T) (ls : mx_L) (st : List Value) (h : mx_H) (c n : Nat) : mx_G r (t_Hs_sporadic zz) 53 ls st h c n = (o_icmp 66 (fun x y => x = y)) r (mx_G r (t_Hs_sporadic zz)) 53 ls st h c n := mx_G_eq (tm_Hs_sporadic zz) r 53 ls st h c n
theorem st_Hs_sporadic_56 (zz : Nat × Nat) (r : mx_T) (ls : mx_L) (st : List Value) (h : mx_H) (c n : Nat) : mx_G r (t_Hs_sporadic zz) 56 ls st h c n = (o_aload 1 0) r (mx_G r (t_Hs_sporadic zz)) 56 ls st h c n := mx_G_eq (tm_Hs_sporadic zz) r 56 ls st h c n
theorem st_Hs_sporadic_57 (zz : Nat × Nat) (r : mx_T) (ls : mx_L) (st : List Value) (h : mx_H) (c n : Nat) : mx_G r (t_Hs_sporadic zz) 57 ls st h c n = (o_iload 1 3) r (mx_G r (t_Hs_sporadic zz)) 57 ls st h c n := mx_G_eq (tm_Hs_sporadic zz) r 57 ls st h c n
theorem st_Hs_sporadic_58 (zz : Nat × Nat) (r : mx_T) (ls : mx_L) (st : List Value) (h : mx_H) (c n : Nat) : mx_G r (t_Hs_sporadic zz) 58 ls st h c n = (o_call 5 134 2 0 0 (mx_rv 0) (S_Hs_isMasters zz)) r (mx_G r (t_Hs_sporadic zz)) 58 ls st h c n := mx_G_eq (tm_Hs_sporadic zz) r 58 ls st h c n
theorem st_Hs_sporadic_61 (zz : Nat × Nat) (r : mx_T) (ls : mx_L) (st : List Value) (h : mx_H) (c n : Nat) : mx_G r (t_Hs_sporadic zz) 61 ls st h c n = (o_if 66 (fun x => ¬ x = 0)) r (mx_G r (t_Hs_sporadic zz)) 61 ls st h c n := mx_G_eq (tm_Hs_sporadic zz) r 61 ls st h c n
theorem st_Hs_sporadic_64 (zz : Nat × Nat) (r : mx_T) (ls : mx_L) (st : List Value) (h : mx_H) (c n : Nat) : mx_G r (t_Hs_sporadic zz) 64 ls st h c n = (o_push 1 (.int (-1))) r (mx_G r (t_Hs_sporadic zz)) 64 ls st h c n := mx_G_eq (tm_Hs_sporadic zz) r 64 ls st h c n
theorem st_Hs_sporadic_65 (zz : Nat × Nat) (r : mx_T) (ls : mx_L) (st : List Value) (h : mx_H) (c n : Nat) : mx_G r (t_Hs_sporadic zz) 65 ls st h c n = (o_iret) r (mx_G r (t_Hs_sporadic zz)) 65 ls st h c n := mx_G_eq (tm_Hs_sporadic zz) r 65 ls st h c n
theorem st_Hs_sporadic_66 (zz : Nat × Nat) (r : mx_T) (ls : mx_L) (st : List Value) (h : mx_H) (c n : Nat) : mx_G r (t_Hs_sporadic zz) 66 ls st h c n = (o_aload 1 0) r (mx_G r (t_Hs_sporadic zz)) 66 ls st h c n := mx_G_eq (tm_Hs_sporadic zz) r 66 ls st h c n
theorem st_Hs_sporadic_67 (zz : Nat × Nat) (r : mx_T) (ls : mx_L) (st : List Value) (h : mx_H) (c n : Nat) : mx_G r (t_Hs_sporadic zz) 67 ls st h c n = (o_get 0 2) r (mx_G r (t_Hs_sporadic zz)) 67 ls st h c n := mx_G_eq (tm_Hs_sporadic zz) r 67 ls st h c n
theorem st_Hs_sporadic_70 (zz : Nat × Nat) (r : mx_T) (ls : mx_L) (st : List Value) (h : mx_H) (c n : Nat) : mx_G r (t_Hs_sporadic zz) 70 ls st h c n = (o_new 5 134 3 1 [.null]) r (mx_G r (t_Hs_sporadic zz)) 70 ls st h c n := mx_G_eq (tm_Hs_sporadic zz) r 70 ls st h c n
theorem st_Hs_sporadic_73 (zz : Nat × Nat) (r : mx_T) (ls : mx_L) (st : List Value) (h : mx_H) (c n : Nat) : mx_G r (t_Hs_sporadic zz) 73 ls st h c n = (o_dup) r (mx_G r (t_Hs_sporadic zz)) 73 ls st h c n := mx_G_eq (tm_Hs_sporadic zz) r 73 ls st h c n
theorem st_Hs_sporadic_74 (zz : Nat × Nat) (r : mx_T) (ls : mx_L) (st : List Value) (h : mx_H) (c n : Nat) : mx_G r (t_Hs_sporadic zz) 74 ls st h c n = (o_aload 1 0) r (mx_G r (t_Hs_sporadic zz)) 74 ls st h c n := mx_G_eq (tm_Hs_sporadic zz) r 74 ls st h c n
theorem st_Hs_sporadic_75 (zz : Nat × Nat) (r : mx_T) (ls : mx_L) (st : List Value) (h : mx_H) (c n : Nat) : mx_G r (t_Hs_sporadic zz) 75 ls st h c n = (o_iload 1 1) r (mx_G r (t_Hs_sporadic zz)) 75 ls st h c n := mx_G_eq (tm_Hs_sporadic zz) r 75 ls st h c n
theorem st_Hs_sporadic_76 (zz : Nat × Nat) (r : mx_T) (ls : mx_L) (st : List Value) (h : mx_H) (c n : Nat) : mx_G r (t_Hs_sporadic zz) 76 ls st h c n = (o_iload 1 2) r (mx_G r (t_Hs_sporadic zz)) 76 ls st h c n := mx_G_eq (tm_Hs_sporadic zz) r 76 ls st h c n
theorem st_Hs_sporadic_77 (zz : Nat × Nat) (r : mx_T) (ls : mx_L) (st : List Value) (h : mx_H) (c n : Nat) : mx_G r (t_Hs_sporadic zz) 77 ls st h c n = (o_iload 1 3) r (mx_G r (t_Hs_sporadic zz)) 77 ls st h c n := mx_G_eq (tm_Hs_sporadic zz) r 77 ls st h c n
theorem st_Hs_sporadic_78 (zz : Nat × Nat) (r : mx_T) (ls : mx_L) (st : List Value) (h : mx_H) (c n : Nat) : mx_G r (t_Hs_sporadic zz) 78 ls st h c n = (o_call 5 134 4 2 5 (mx_rv 0) (S_Hs_rowOf zz)) r (mx_G r (t_Hs_sporadic zz)) 78 ls st h c n := mx_G_eq (tm_Hs_sporadic zz) r 78 ls st h c n
theorem st_Hs_sporadic_81 (zz : Nat × Nat) (r : mx_T) (ls : mx_L) (st : List Value) (h : mx_H) (c n : Nat) : mx_G r (t_Hs_sporadic zz) 81 ls st h c n = (o_call 5 134 2 0 0 mx_rr (S_Gr_init zz)) r (mx_G r (t_Hs_sporadic zz)) 81 ls st h c n := mx_G_eq (tm_Hs_sporadic zz) r 81 ls st h c n
theorem st_Hs_sporadic_84 (zz : Nat × Nat) (r : mx_T) (ls : mx_L) (st : List Value) (h : mx_H) (c n : Nat) : mx_G r (t_Hs_sporadic zz) 84 ls st h c n = (o_call 5 134 2 2 128 (mx_rv 9) (S_Al_add zz)) r (mx_G r (t_Hs_sporadic zz)) 84 ls st h c n := mx_G_eq (tm_Hs_sporadic zz) r 84 ls st h c n
theorem st_Hs_sporadic_87 (zz : Nat × Nat) (r : mx_T) (ls : mx_L) (st : List Value) (h : mx_H) (c n : Nat) : mx_G r (t_Hs_sporadic zz) 87 ls st h c n = (o_pop) r (mx_G r (t_Hs_sporadic zz)) 87 ls st h c n := mx_G_eq (tm_Hs_sporadic zz) r 87 ls st h c n
theorem st_Hs_sporadic_88 (zz : Nat × Nat) (r : mx_T) (ls : mx_L) (st : List Value) (h : mx_H) (c n : Nat) : mx_G r (t_Hs_sporadic zz) 88 ls st h c n = (o_aload 1 0) r (mx_G r (t_Hs_sporadic zz)) 88 ls st h c n := mx_G_eq (tm_Hs_sporadic zz) r 88 ls st h c n
theorem st_Hs_sporadic_89 (zz : Nat × Nat) (r : mx_T) (ls : mx_L) (st : List Value) (h : mx_H) (c n : Nat) : mx_G r (t_Hs_sporadic zz) 89 ls st h c n = (o_get 0 2) r (mx_G r (t_Hs_sporadic zz)) 89 ls st h c n := mx_G_eq (tm_Hs_sporadic zz) r 89 ls st h c n
theorem st_Hs_sporadic_92 (zz : Nat × Nat) (r : mx_T) (ls : mx_L) (st : List Value) (h : mx_H) (c n : Nat) : mx_G r (t_Hs_sporadic zz) 92 ls st h c n = (o_call 5 134 1 0 0 (mx_rv 9) (S_Al_size zz)) r (mx_G r (t_Hs_sporadic zz)) 92 ls st h c n := mx_G_eq (tm_Hs_sporadic zz) r 92 ls st h c n
theorem st_Hs_sporadic_95 (zz : Nat × Nat) (r : mx_T) (ls : mx_L) (st : List Value) (h : mx_H) (c n : Nat) : mx_G r (t_Hs_sporadic zz) 95 ls st h c n = (o_push 1 (.int 1)) r (mx_G r (t_Hs_sporadic zz)) 95 ls st h c n := mx_G_eq (tm_Hs_sporadic zz) r 95 ls st h c n
theorem st_Hs_sporadic_96 (zz : Nat × Nat) (r : mx_T) (ls : mx_L) (st : List Value) (h : mx_H) (c n : Nat) : mx_G r (t_Hs_sporadic zz) 96 ls st h c n = (o_ii (fun x y => x - y)) r (mx_G r (t_Hs_sporadic zz)) 96 ls st h c n := mx_G_eq (tm_Hs_sporadic zz) r 96 ls st h c n
theorem st_Hs_sporadic_97 (zz : Nat × Nat) (r : mx_T) (ls : mx_L) (st : List Value) (h : mx_H) (c n : Nat) : mx_G r (t_Hs_sporadic zz) 97 ls st h c n = (o_iret) r (mx_G r (t_Hs_sporadic zz)) 97 ls st h c n := mx_G_eq (tm_Hs_sporadic zz) r 97 ls st h c n
theorem d_Hs_isTable_0 : decode c_Hs_isTable 0 = .ok (.iload_n 0, 1) := by decide +kernel
theorem d_Hs_isTable_1 : decode c_Hs_isTable 1 = .ok (.iconst 0, 1) := by decide +kernel
theorem d_Hs_isTable_2 : decode c_Hs_isTable 2 = .ok (.iconst 2, 1) := by decide +kernel
theorem d_Hs_isTable_3 : decode c_Hs_isTable 3 = .ok (.invokestatic 66, 3) := by decide +kernel
theorem d_Hs_isTable_6 : decode c_Hs_isTable 6 = .ok (.ireturn, 1) := by decide +kernel
def t_Hs_isTable (zz : Nat × Nat) : List (Nat × mx_O) := [(0, o_iload 1 0),
  (1, o_push 1 (.int 0)),
  (2, o_push 1 (.int 2)),
  (3, o_call 0 0 3 0 0 (fun _ _ => True) (S_Hs_isWithin zz)),
  (6, o_zret)]
set_option maxRecDepth 100000 in
theorem tm_Hs_isTable (zz : Nat × Nat) : mx_All (fun _ o => mx_Mono o) (t_Hs_isTable zz) := by
  refine mx_all_cons (mo_st) ?_
  refine mx_all_cons (mo_st) ?_
  refine mx_all_cons (mo_st) ?_
  refine mx_all_cons (mo_call (sm_Hs_isWithin zz)) ?_
  refine mx_all_cons (mo_zret) ?_
  exact mx_all_nil
def S_Hs_isTable (zz : Nat × Nat) : mx_Sp := mx_S 1 0 0 (t_Hs_isTable zz)
theorem sm_Hs_isTable (zz : Nat × Nat) : mx_SMono (S_Hs_isTable zz) := mx_S_mono (tm_Hs_isTable zz)
abbrev rm_Hs_isTable : Room := { frames := 1, cells := 0, slots := 0, locals := 22 }
set_option maxHeartbeats 4000000 in
set_option maxRecDepth 100000 in
theorem m_Hs_isTable (l : Launch) (zz : Nat × Nat) : mx_Met l y_Hs_isTable (wsOf y_Hs_isTable c_Hs_isTable 1 (some .boolean)) rm_Hs_isTable wcl (mx_Z zz) 0 0 (S_Hs_isTable zz) := by
  refine mx_met (cc := c_Hs_isTable) (ret := (some .boolean)) (by decide) rfl ?_
  intro p e s m args below meth c D A Post X hz hr hlk hnm
  have hm : ∀ w ∈ mw, w.before args s = true := fun w h => X.1.2.2.2.2 w (List.mem_cons_of_mem _ h)
  refine mx_all_cons (ok_iload (fun hl kk => lv_iload_n X.1.1 X.1.2.1 d_Hs_isTable_0 rfl hl kk)) ?_
  refine mx_all_cons (ok_push (fun kk => lv_iconst X.1.1 X.1.2.1 d_Hs_isTable_1 (by decide) kk)) ?_
  refine mx_all_cons (ok_push (fun kk => lv_iconst X.1.1 X.1.2.1 d_Hs_isTable_2 (by decide) kk)) ?_
  refine mx_all_cons (ok_callS X (mx_Zok_Z zz) hz ⟨(Nat.le_of_ble_eq_true rfl), (Nat.le_of_ble_eq_true rfl)⟩ (m_Hs_isWithin l zz) ⟨mx_cwB 3 hm w206 w204 w33 rfl rfl (by decide +kernel) ⟨(Nat.le_of_ble_eq_true rfl), (Nat.le_of_ble_eq_true rfl)⟩, (hm _ w205)⟩ d_Hs_isTable_3) ?_
  refine mx_all_cons (ok_zret X hr hlk d_Hs_isTable_6) ?_
  exact mx_all_nil
theorem st_Hs_isTable_0 (zz : Nat × Nat) (r : mx_T) (ls : mx_L) (st : List Value) (h : mx_H) (c n : Nat) : mx_G r (t_Hs_isTable zz) 0 ls st h c n = (o_iload 1 0) r (mx_G r (t_Hs_isTable zz)) 0 ls st h c n := mx_G_eq (tm_Hs_isTable zz) r 0 ls st h c n
theorem st_Hs_isTable_1 (zz : Nat × Nat) (r : mx_T) (ls : mx_L) (st : List Value) (h : mx_H) (c n : Nat) : mx_G r (t_Hs_isTable zz) 1 ls st h c n = (o_push 1 (.int 0)) r (mx_G r (t_Hs_isTable zz)) 1 ls st h c n := mx_G_eq (tm_Hs_isTable zz) r 1 ls st h c n
theorem st_Hs_isTable_2 (zz : Nat × Nat) (r : mx_T) (ls : mx_L) (st : List Value) (h : mx_H) (c n : Nat) : mx_G r (t_Hs_isTable zz) 2 ls st h c n = (o_push 1 (.int 2)) r (mx_G r (t_Hs_isTable zz)) 2 ls st h c n := mx_G_eq (tm_Hs_isTable zz) r 2 ls st h c n
theorem st_Hs_isTable_3 (zz : Nat × Nat) (r : mx_T) (ls : mx_L) (st : List Value) (h : mx_H) (c n : Nat) : mx_G r (t_Hs_isTable zz) 3 ls st h c n = (o_call 0 0 3 0 0 (fun _ _ => True) (S_Hs_isWithin zz)) r (mx_G r (t_Hs_isTable zz)) 3 ls st h c n := mx_G_eq (tm_Hs_isTable zz) r 3 ls st h c n
theorem st_Hs_isTable_6 (zz : Nat × Nat) (r : mx_T) (ls : mx_L) (st : List Value) (h : mx_H) (c n : Nat) : mx_G r (t_Hs_isTable zz) 6 ls st h c n = (o_zret) r (mx_G r (t_Hs_isTable zz)) 6 ls st h c n := mx_G_eq (tm_Hs_isTable zz) r 6 ls st h c n
theorem d_Hs_isAssociable_0 : decode c_Hs_isAssociable 0 = .ok (.aload_n 0, 1) := by decide +kernel
theorem d_Hs_isAssociable_1 : decode c_Hs_isAssociable 1 = .ok (.iload_n 1, 1) := by decide +kernel
theorem d_Hs_isAssociable_2 : decode c_Hs_isAssociable 2 = .ok (.invokevirtual 83, 3) := by decide +kernel
theorem d_Hs_isAssociable_5 : decode c_Hs_isAssociable 5 = .ok (.astore_n 2, 1) := by decide +kernel
theorem d_Hs_isAssociable_6 : decode c_Hs_isAssociable 6 = .ok (.aload_n 2, 1) := by decide +kernel
theorem d_Hs_isAssociable_7 : decode c_Hs_isAssociable 7 = .ok (.ifnull 27, 3) := by decide +kernel
theorem d_Hs_isAssociable_10 : decode c_Hs_isAssociable 10 = .ok (.aload_n 2, 1) := by decide +kernel
theorem d_Hs_isAssociable_11 : decode c_Hs_isAssociable 11 = .ok (.getfield 217, 3) := by decide +kernel
theorem d_Hs_isAssociable_14 : decode c_Hs_isAssociable 14 = .ok (.ifCond .eq 20, 3) := by decide +kernel
theorem d_Hs_isAssociable_17 : decode c_Hs_isAssociable 17 = .ok (.aload_n 2, 1) := by decide +kernel
theorem d_Hs_isAssociable_18 : decode c_Hs_isAssociable 18 = .ok (.getfield 95, 3) := by decide +kernel
theorem d_Hs_isAssociable_21 : decode c_Hs_isAssociable 21 = .ok (.ldc2_w 220, 3) := by decide +kernel
theorem d_Hs_isAssociable_24 : decode c_Hs_isAssociable 24 = .ok (.land, 1) := by decide +kernel
theorem d_Hs_isAssociable_25 : decode c_Hs_isAssociable 25 = .ok (.lconst 0, 1) := by decide +kernel
theorem d_Hs_isAssociable_26 : decode c_Hs_isAssociable 26 = .ok (.lcmp, 1) := by decide +kernel
theorem d_Hs_isAssociable_27 : decode c_Hs_isAssociable 27 = .ok (.ifCond .ne 7, 3) := by decide +kernel
theorem d_Hs_isAssociable_30 : decode c_Hs_isAssociable 30 = .ok (.iconst 1, 1) := by decide +kernel
theorem d_Hs_isAssociable_31 : decode c_Hs_isAssociable 31 = .ok (.goto 4, 3) := by decide +kernel
theorem d_Hs_isAssociable_34 : decode c_Hs_isAssociable 34 = .ok (.iconst 0, 1) := by decide +kernel
theorem d_Hs_isAssociable_35 : decode c_Hs_isAssociable 35 = .ok (.ireturn, 1) := by decide +kernel
def t_Hs_isAssociable (zz : Nat × Nat) : List (Nat × mx_O) := [(0, o_aload 1 0),
  (1, o_iload 1 1),
  (2, o_call 0 0 2 0 0 (mx_rv 0) (S_Hs_frameAt zz)),
  (5, o_astore 1 2),
  (6, o_aload 1 2),
  (7, o_ifnull 34),
  (10, o_aload 1 2),
  (11, o_get 1 2),
  (14, o_if 34 (fun x => x = 0)),
  (17, o_aload 1 2),
  (18, o_get 1 6),
  (21, o_push 3 (.long 255)),
  (24, o_ll (fun x y => .long (x &&& y))),
  (25, o_push 1 (.long 0)),
  (26, o_ll (fun x y => .int (lg_cmp x y))),
  (27, o_if 34 (fun x => ¬ x = 0)),
  (30, o_push 1 (.int 1)),
  (31, o_goto 35),
  (34, o_push 1 (.int 0)),
  (35, o_zret)]
set_option maxRecDepth 100000 in
theorem tm_Hs_isAssociable (zz : Nat × Nat) : mx_All (fun _ o => mx_Mono o) (t_Hs_isAssociable zz) := by
  refine mx_all_cons (mo_st) ?_
  refine mx_all_cons (mo_st) ?_
  refine mx_all_cons (mo_call (sm_Hs_frameAt zz)) ?_
  refine mx_all_cons (mo_st) ?_
  refine mx_all_cons (mo_st) ?_
  refine mx_all_cons (mo_st) ?_
  refine mx_all_cons (mo_st) ?_
  refine mx_all_cons (mo_st) ?_
  refine mx_all_cons (mo_br) ?_
  refine mx_all_cons (mo_st) ?_
  refine mx_all_cons (mo_st) ?_
  refine mx_all_cons (mo_st) ?_
  refine mx_all_cons (mo_st) ?_
  refine mx_all_cons (mo_st) ?_
  refine mx_all_cons (mo_st) ?_
  refine mx_all_cons (mo_br) ?_
  refine mx_all_cons (mo_st) ?_
  refine mx_all_cons (mo_st) ?_
  refine mx_all_cons (mo_st) ?_
  refine mx_all_cons (mo_zret) ?_
  exact mx_all_nil
def S_Hs_isAssociable (zz : Nat × Nat) : mx_Sp := mx_S 3 0 0 (t_Hs_isAssociable zz)
theorem sm_Hs_isAssociable (zz : Nat × Nat) : mx_SMono (S_Hs_isAssociable zz) := mx_S_mono (tm_Hs_isAssociable zz)
abbrev rm_Hs_isAssociable : Room := { frames := 4, cells := 0, slots := 0, locals := 85 }
set_option maxHeartbeats 4000000 in
set_option maxRecDepth 100000 in
theorem m_Hs_isAssociable (l : Launch) (zz : Nat × Nat) : mx_Met l y_Hs_isAssociable (wsOf y_Hs_isAssociable c_Hs_isAssociable 3 (some .boolean)) rm_Hs_isAssociable wcl (mx_Z zz) 0 0 (S_Hs_isAssociable zz) := by
  refine mx_met (cc := c_Hs_isAssociable) (ret := (some .boolean)) (by decide) rfl ?_
  intro p e s m args below meth c D A Post X hz hr hlk hnm
  have hm : ∀ w ∈ mw, w.before args s = true := fun w h => X.1.2.2.2.2 w (List.mem_cons_of_mem _ h)
  refine mx_all_cons (ok_aload (fun hl kk => lv_aload_n X.1.1 X.1.2.1 d_Hs_isAssociable_0 rfl hl kk) (fun hl kk => lv_aload_nN X.1.1 X.1.2.1 d_Hs_isAssociable_0 rfl hl kk)) ?_
  refine mx_all_cons (ok_iload (fun hl kk => lv_iload_n X.1.1 X.1.2.1 d_Hs_isAssociable_1 rfl hl kk)) ?_
  refine mx_all_cons (ok_callV (C := "HeaderSchedule") (T := T_Hs) (N := 11) X (mx_Zok_Z zz) hz ⟨(Nat.le_of_ble_eq_true rfl), (Nat.le_of_ble_eq_true rfl)⟩ (m_Hs_frameAt l zz) ⟨mx_cwB 1 hm w322 w319 w33 rfl rfl (by decide +kernel) ⟨(Nat.le_of_ble_eq_true rfl), (Nat.le_of_ble_eq_true rfl)⟩, (hm _ w321), hm _ w4⟩ rfl d_Hs_isAssociable_2) ?_
  refine mx_all_cons (ok_astore (fun hl kk => lv_astore_n X.1.1 X.1.2.1 d_Hs_isAssociable_5 rfl hl (by decide) rfl kk) (fun hl kk => lv_astore_nN X.1.1 X.1.2.1 d_Hs_isAssociable_5 rfl hl (by decide) rfl kk)) ?_
  refine mx_all_cons (ok_aload (fun hl kk => lv_aload_n X.1.1 X.1.2.1 d_Hs_isAssociable_6 rfl hl kk) (fun hl kk => lv_aload_nN X.1.1 X.1.2.1 d_Hs_isAssociable_6 rfl hl kk)) ?_
  refine mx_all_cons (ok_ifnull X d_Hs_isAssociable_7 (by decide)) ?_
  refine mx_all_cons (ok_aload (fun hl kk => lv_aload_n X.1.1 X.1.2.1 d_Hs_isAssociable_10 rfl hl kk) (fun hl kk => lv_aload_nN X.1.1 X.1.2.1 d_Hs_isAssociable_10 rfl hl kk)) ?_
  refine mx_all_cons (ok_get (C := "HeaderSchedule$Frame") (T := T_Fr) (N := 8) X (mw_up in_Fr) rfl 2 (by decide) (hm _ w226) (fun _ h9 => h9) d_Hs_isAssociable_11) ?_
  refine mx_all_cons (ok_if (fun kt kf => lv_if_eq X.1.1 X.1.2.1 d_Hs_isAssociable_14 (by decide) kt kf)) ?_
  refine mx_all_cons (ok_aload (fun hl kk => lv_aload_n X.1.1 X.1.2.1 d_Hs_isAssociable_17 rfl hl kk) (fun hl kk => lv_aload_nN X.1.1 X.1.2.1 d_Hs_isAssociable_17 rfl hl kk)) ?_
  refine mx_all_cons (ok_get (C := "HeaderSchedule$Frame") (T := T_Fr) (N := 8) X (mw_up in_Fr) rfl 6 (by decide) (hm _ w235) (fun _ h9 => h9) d_Hs_isAssociable_18) ?_
  refine mx_all_cons (ok_push (fun kk => lv_ldc2 X.1.1 X.1.2.1 X.1.2.2.2.1 (hm _ w414) d_Hs_isAssociable_21 kk)) ?_
  refine mx_all_cons (ok_ll (fun kk => lv_land X.1.1 X.1.2.1 d_Hs_isAssociable_24 kk)) ?_
  refine mx_all_cons (ok_push (fun kk => lv_lconst X.1.1 X.1.2.1 d_Hs_isAssociable_25 (by decide) kk)) ?_
  refine mx_all_cons (ok_ll (fun kk => W.lcmp X.1.1 X.1.2.1 d_Hs_isAssociable_26 kk)) ?_
  refine mx_all_cons (ok_if (fun kt kf => lv_if_ne X.1.1 X.1.2.1 d_Hs_isAssociable_27 (by decide) kt (fun z => kf (fun g => g z)))) ?_
  refine mx_all_cons (ok_push (fun kk => lv_iconst X.1.1 X.1.2.1 d_Hs_isAssociable_30 (by decide) kk)) ?_
  refine mx_all_cons (ok_goto X d_Hs_isAssociable_31 (by decide)) ?_
  refine mx_all_cons (ok_push (fun kk => lv_iconst X.1.1 X.1.2.1 d_Hs_isAssociable_34 (by decide) kk)) ?_
  refine mx_all_cons (ok_zret X hr hlk d_Hs_isAssociable_35) ?_
  exact mx_all_nil
theorem st_Hs_isAssociable_0 (zz : Nat × Nat) (r : mx_T) (ls : mx_L) (st : List Value) (h : mx_H) (c n : Nat) : mx_G r (t_Hs_isAssociable zz) 0 ls st h c n = (o_aload 1 0) r (mx_G r (t_Hs_isAssociable zz)) 0 ls st h c n := mx_G_eq (tm_Hs_isAssociable zz) r 0 ls st h c n
theorem st_Hs_isAssociable_1 (zz : Nat × Nat) (r : mx_T) (ls : mx_L) (st : List Value) (h : mx_H) (c n : Nat) : mx_G r (t_Hs_isAssociable zz) 1 ls st h c n = (o_iload 1 1) r (mx_G r (t_Hs_isAssociable zz)) 1 ls st h c n := mx_G_eq (tm_Hs_isAssociable zz) r 1 ls st h c n
theorem st_Hs_isAssociable_2 (zz : Nat × Nat) (r : mx_T) (ls : mx_L) (st : List Value) (h : mx_H) (c n : Nat) : mx_G r (t_Hs_isAssociable zz) 2 ls st h c n = (o_call 0 0 2 0 0 (mx_rv 0) (S_Hs_frameAt zz)) r (mx_G r (t_Hs_isAssociable zz)) 2 ls st h c n := mx_G_eq (tm_Hs_isAssociable zz) r 2 ls st h c n
theorem st_Hs_isAssociable_5 (zz : Nat × Nat) (r : mx_T) (ls : mx_L) (st : List Value) (h : mx_H) (c n : Nat) : mx_G r (t_Hs_isAssociable zz) 5 ls st h c n = (o_astore 1 2) r (mx_G r (t_Hs_isAssociable zz)) 5 ls st h c n := mx_G_eq (tm_Hs_isAssociable zz) r 5 ls st h c n
theorem st_Hs_isAssociable_6 (zz : Nat × Nat) (r : mx_T) (ls : mx_L) (st : List Value) (h : mx_H) (c n : Nat) : mx_G r (t_Hs_isAssociable zz) 6 ls st h c n = (o_aload 1 2) r (mx_G r (t_Hs_isAssociable zz)) 6 ls st h c n := mx_G_eq (tm_Hs_isAssociable zz) r 6 ls st h c n
theorem st_Hs_isAssociable_7 (zz : Nat × Nat) (r : mx_T) (ls : mx_L) (st : List Value) (h : mx_H) (c n : Nat) : mx_G r (t_Hs_isAssociable zz) 7 ls st h c n = (o_ifnull 34) r (mx_G r (t_Hs_isAssociable zz)) 7 ls st h c n := mx_G_eq (tm_Hs_isAssociable zz) r 7 ls st h c n
theorem st_Hs_isAssociable_10 (zz : Nat × Nat) (r : mx_T) (ls : mx_L) (st : List Value) (h : mx_H) (c n : Nat) : mx_G r (t_Hs_isAssociable zz) 10 ls st h c n = (o_aload 1 2) r (mx_G r (t_Hs_isAssociable zz)) 10 ls st h c n := mx_G_eq (tm_Hs_isAssociable zz) r 10 ls st h c n
theorem st_Hs_isAssociable_11 (zz : Nat × Nat) (r : mx_T) (ls : mx_L) (st : List Value) (h : mx_H) (c n : Nat) : mx_G r (t_Hs_isAssociable zz) 11 ls st h c n = (o_get 1 2) r (mx_G r (t_Hs_isAssociable zz)) 11 ls st h c n := mx_G_eq (tm_Hs_isAssociable zz) r 11 ls st h c n
theorem st_Hs_isAssociable_14 (zz : Nat × Nat) (r : mx_T) (ls : mx_L) (st : List Value) (h : mx_H) (c n : Nat) : mx_G r (t_Hs_isAssociable zz) 14 ls st h c n = (o_if 34 (fun x => x = 0)) r (mx_G r (t_Hs_isAssociable zz)) 14 ls st h c n := mx_G_eq (tm_Hs_isAssociable zz) r 14 ls st h c n
theorem st_Hs_isAssociable_17 (zz : Nat × Nat) (r : mx_T) (ls : mx_L) (st : List Value) (h : mx_H) (c n : Nat) : mx_G r (t_Hs_isAssociable zz) 17 ls st h c n = (o_aload 1 2) r (mx_G r (t_Hs_isAssociable zz)) 17 ls st h c n := mx_G_eq (tm_Hs_isAssociable zz) r 17 ls st h c n
theorem st_Hs_isAssociable_18 (zz : Nat × Nat) (r : mx_T) (ls : mx_L) (st : List Value) (h : mx_H) (c n : Nat) : mx_G r (t_Hs_isAssociable zz) 18 ls st h c n = (o_get 1 6) r (mx_G r (t_Hs_isAssociable zz)) 18 ls st h c n := mx_G_eq (tm_Hs_isAssociable zz) r 18 ls st h c n
theorem st_Hs_isAssociable_21 (zz : Nat × Nat) (r : mx_T) (ls : mx_L) (st : List Value) (h : mx_H) (c n : Nat) : mx_G r (t_Hs_isAssociable zz) 21 ls st h c n = (o_push 3 (.long 255)) r (mx_G r (t_Hs_isAssociable zz)) 21 ls st h c n := mx_G_eq (tm_Hs_isAssociable zz) r 21 ls st h c n
theorem st_Hs_isAssociable_24 (zz : Nat × Nat) (r : mx_T) (ls : mx_L) (st : List Value) (h : mx_H) (c n : Nat) : mx_G r (t_Hs_isAssociable zz) 24 ls st h c n = (o_ll (fun x y => .long (x &&& y))) r (mx_G r (t_Hs_isAssociable zz)) 24 ls st h c n := mx_G_eq (tm_Hs_isAssociable zz) r 24 ls st h c n
theorem st_Hs_isAssociable_25 (zz : Nat × Nat) (r : mx_T) (ls : mx_L) (st : List Value) (h : mx_H) (c n : Nat) : mx_G r (t_Hs_isAssociable zz) 25 ls st h c n = (o_push 1 (.long 0)) r (mx_G r (t_Hs_isAssociable zz)) 25 ls st h c n := mx_G_eq (tm_Hs_isAssociable zz) r 25 ls st h c n
theorem st_Hs_isAssociable_26 (zz : Nat × Nat) (r : mx_T) (ls : mx_L) (st : List Value) (h : mx_H) (c n : Nat) : mx_G r (t_Hs_isAssociable zz) 26 ls st h c n = (o_ll (fun x y => .int (lg_cmp x y))) r (mx_G r (t_Hs_isAssociable zz)) 26 ls st h c n := mx_G_eq (tm_Hs_isAssociable zz) r 26 ls st h c n
theorem st_Hs_isAssociable_27 (zz : Nat × Nat) (r : mx_T) (ls : mx_L) (st : List Value) (h : mx_H) (c n : Nat) : mx_G r (t_Hs_isAssociable zz) 27 ls st h c n = (o_if 34 (fun x => ¬ x = 0)) r (mx_G r (t_Hs_isAssociable zz)) 27 ls st h c n := mx_G_eq (tm_Hs_isAssociable zz) r 27 ls st h c n
theorem st_Hs_isAssociable_30 (zz : Nat × Nat) (r : mx_T) (ls : mx_L) (st : List Value) (h : mx_H) (c n : Nat) : mx_G r (t_Hs_isAssociable zz) 30 ls st h c n = (o_push 1 (.int 1)) r (mx_G r (t_Hs_isAssociable zz)) 30 ls st h c n := mx_G_eq (tm_Hs_isAssociable zz) r 30 ls st h c n
theorem st_Hs_isAssociable_31 (zz : Nat × Nat) (r : mx_T) (ls : mx_L) (st : List Value) (h : mx_H) (c n : Nat) : mx_G r (t_Hs_isAssociable zz) 31 ls st h c n = (o_goto 35) r (mx_G r (t_Hs_isAssociable zz)) 31 ls st h c n := mx_G_eq (tm_Hs_isAssociable zz) r 31 ls st h c n
theorem st_Hs_isAssociable_34 (zz : Nat × Nat) (r : mx_T) (ls : mx_L) (st : List Value) (h : mx_H) (c n : Nat) : mx_G r (t_Hs_isAssociable zz) 34 ls st h c n = (o_push 1 (.int 0)) r (mx_G r (t_Hs_isAssociable zz)) 34 ls st h c n := mx_G_eq (tm_Hs_isAssociable zz) r 34 ls st h c n
theorem st_Hs_isAssociable_35 (zz : Nat × Nat) (r : mx_T) (ls : mx_L) (st : List Value) (h : mx_H) (c n : Nat) : mx_G r (t_Hs_isAssociable zz) 35 ls st h c n = (o_zret) r (mx_G r (t_Hs_isAssociable zz)) 35 ls st h c n := mx_G_eq (tm_Hs_isAssociable zz) r 35 ls st h c n
theorem d_Fr_isLike_0 : decode c_Fr_isLike 0 = .ok (.aload_n 0, 1) := by decide +kernel
theorem d_Fr_isLike_1 : decode c_Fr_isLike 1 = .ok (.getfield 31, 3) := by decide +kernel
theorem d_Fr_isLike_4 : decode c_Fr_isLike 4 = .ok (.aload_n 1, 1) := by decide +kernel
theorem d_Fr_isLike_5 : decode c_Fr_isLike 5 = .ok (.getfield 31, 3) := by decide +kernel
theorem d_Fr_isLike_8 : decode c_Fr_isLike 8 = .ok (.if_icmp .eq 29, 3) := by decide +kernel
theorem d_Fr_isLike_11 : decode c_Fr_isLike 11 = .ok (.aload_n 0, 1) := by decide +kernel
theorem d_Fr_isLike_12 : decode c_Fr_isLike 12 = .ok (.getfield 34, 3) := by decide +kernel
theorem d_Fr_isLike_15 : decode c_Fr_isLike 15 = .ok (.aload_n 1, 1) := by decide +kernel
theorem d_Fr_isLike_16 : decode c_Fr_isLike 16 = .ok (.getfield 34, 3) := by decide +kernel
theorem d_Fr_isLike_19 : decode c_Fr_isLike 19 = .ok (.if_icmp .ne 18, 3) := by decide +kernel
theorem d_Fr_isLike_22 : decode c_Fr_isLike 22 = .ok (.aload_n 0, 1) := by decide +kernel
theorem d_Fr_isLike_23 : decode c_Fr_isLike 23 = .ok (.getfield 37, 3) := by decide +kernel
theorem d_Fr_isLike_26 : decode c_Fr_isLike 26 = .ok (.aload_n 1, 1) := by decide +kernel
theorem d_Fr_isLike_27 : decode c_Fr_isLike 27 = .ok (.getfield 37, 3) := by decide +kernel
theorem d_Fr_isLike_30 : decode c_Fr_isLike 30 = .ok (.if_icmp .ne 7, 3) := by decide +kernel
theorem d_Fr_isLike_33 : decode c_Fr_isLike 33 = .ok (.iconst 1, 1) := by decide +kernel
theorem d_Fr_isLike_34 : decode c_Fr_isLike 34 = .ok (.goto 4, 3) := by decide +kernel
theorem d_Fr_isLike_37 : decode c_Fr_isLike 37 = .ok (.iconst 0, 1) := by decide +kernel
theorem d_Fr_isLike_38 : decode c_Fr_isLike 38 = .ok (.ireturn, 1) := by decide +kernel
def t_Fr_isLike (zz : Nat × Nat) : List (Nat × mx_O) := [(0, o_aload 1 0),
  (1, o_get 1 2),
  (4, o_aload 1 1),
  (5, o_get 1 2),
  (8, o_icmp 37 (fun x y => x = y)),
  (11, o_aload 1 0),
  (12, o_get 1 3),
  (15, o_aload 1 1),
  (16, o_get 1 3),
  (19, o_icmp 37 (fun x y => ¬ x = y)),
  (22, o_aload 1 0),
  (23, o_get 1 4),
  (26, o_aload 1 1),
  (27, o_get 1 4),
  (30, o_icmp 37 (fun x y => ¬ x = y)),
  (33, o_push 1 (.int 1)),
  (34, o_goto 38),
  (37, o_push 1 (.int 0)),
  (38, o_zret)]
set_option maxRecDepth 100000 in
theorem tm_Fr_isLike (zz : Nat × Nat) : mx_All (fun _ o => mx_Mono o) (t_Fr_isLike zz) := by
  refine mx_all_cons (mo_st) ?_
  refine mx_all_cons (mo_st) ?_
  refine mx_all_cons (mo_st) ?_
  refine mx_all_cons (mo_st) ?_
  refine mx_all_cons (mo_br) ?_
  refine mx_all_cons (mo_st) ?_
  refine mx_all_cons (mo_st) ?_
  refine mx_all_cons (mo_st) ?_
  refine mx_all_cons (mo_st) ?_
  refine mx_all_cons (mo_br) ?_
  refine mx_all_cons (mo_st) ?_
  refine mx_all_cons (mo_st) ?_
  refine mx_all_cons (mo_st) ?_
  refine mx_all_cons (mo_st) ?_
  refine mx_all_cons (mo_br) ?_
  refine mx_all_cons (mo_st) ?_
  refine mx_all_cons (mo_st) ?_
  refine mx_all_cons (mo_st) ?_
  refine mx_all_cons (mo_zret) ?_
  exact mx_all_nil
def S_Fr_isLike (zz : Nat × Nat) : mx_Sp := mx_S 2 0 0 (t_Fr_isLike zz)
theorem sm_Fr_isLike (zz : Nat × Nat) : mx_SMono (S_Fr_isLike zz) := mx_S_mono (tm_Fr_isLike zz)
abbrev rm_Fr_isLike : Room := { frames := 0, cells := 0, slots := 0, locals := 0 }
set_option maxHeartbeats 4000000 in
set_option maxRecDepth 100000 in
theorem m_Fr_isLike (l : Launch) (zz : Nat × Nat) : mx_Met l y_Fr_isLike (wsOf y_Fr_isLike c_Fr_isLike 2 (some .boolean)) rm_Fr_isLike wcl (mx_Z zz) 0 0 (S_Fr_isLike zz) := by
  refine mx_met (cc := c_Fr_isLike) (ret := (some .boolean)) (by decide) rfl ?_
  intro p e s m args below meth c D A Post X hz hr hlk hnm
  have hm : ∀ w ∈ mw, w.before args s = true := fun w h => X.1.2.2.2.2 w (List.mem_cons_of_mem _ h)
  refine mx_all_cons (ok_aload (fun hl kk => lv_aload_n X.1.1 X.1.2.1 d_Fr_isLike_0 rfl hl kk) (fun hl kk => lv_aload_nN X.1.1 X.1.2.1 d_Fr_isLike_0 rfl hl kk)) ?_
  refine mx_all_cons (ok_get (C := "HeaderSchedule$Frame") (T := T_Fr) (N := 8) X (mw_up in_Fr) rfl 2 (by decide) (hm _ w225) (fun _ h9 => h9) d_Fr_isLike_1) ?_
  refine mx_all_cons (ok_aload (fun hl kk => lv_aload_n X.1.1 X.1.2.1 d_Fr_isLike_4 rfl hl kk) (fun hl kk => lv_aload_nN X.1.1 X.1.2.1 d_Fr_isLike_4 rfl hl kk)) ?_
  refine mx_all_cons (ok_get (C := "HeaderSchedule$Frame") (T := T_Fr) (N := 8) X (mw_up in_Fr) rfl 2 (by decide) (hm _ w225) (fun _ h9 => h9) d_Fr_isLike_5) ?_
  refine mx_all_cons (ok_icmp (fun kt kf => lv_icmp_eq X.1.1 X.1.2.1 d_Fr_isLike_8 (by decide) kt kf)) ?_
  refine mx_all_cons (ok_aload (fun hl kk => lv_aload_n X.1.1 X.1.2.1 d_Fr_isLike_11 rfl hl kk) (fun hl kk => lv_aload_nN X.1.1 X.1.2.1 d_Fr_isLike_11 rfl hl kk)) ?_
  refine mx_all_cons (ok_get (C := "HeaderSchedule$Frame") (T := T_Fr) (N := 8) X (mw_up in_Fr) rfl 3 (by decide) (hm _ w227) (fun _ h9 => h9) d_Fr_isLike_12) ?_
  refine mx_all_cons (ok_aload (fun hl kk => lv_aload_n X.1.1 X.1.2.1 d_Fr_isLike_15 rfl hl kk) (fun hl kk => lv_aload_nN X.1.1 X.1.2.1 d_Fr_isLike_15 rfl hl kk)) ?_
  refine mx_all_cons (ok_get (C := "HeaderSchedule$Frame") (T := T_Fr) (N := 8) X (mw_up in_Fr) rfl 3 (by decide) (hm _ w227) (fun _ h9 => h9) d_Fr_isLike_16) ?_
  refine mx_all_cons (ok_icmp (fun kt kf => lv_icmp_ne X.1.1 X.1.2.1 d_Fr_isLike_19 (by decide) kt (fun z => kf (fun g => g z)))) ?_
  refine mx_all_cons (ok_aload (fun hl kk => lv_aload_n X.1.1 X.1.2.1 d_Fr_isLike_22 rfl hl kk) (fun hl kk => lv_aload_nN X.1.1 X.1.2.1 d_Fr_isLike_22 rfl hl kk)) ?_
  refine mx_all_cons (ok_get (C := "HeaderSchedule$Frame") (T := T_Fr) (N := 8) X (mw_up in_Fr) rfl 4 (by decide) (hm _ w230) (fun _ h9 => h9) d_Fr_isLike_23) ?_
  refine mx_all_cons (ok_aload (fun hl kk => lv_aload_n X.1.1 X.1.2.1 d_Fr_isLike_26 rfl hl kk) (fun hl kk => lv_aload_nN X.1.1 X.1.2.1 d_Fr_isLike_26 rfl hl kk)) ?_
  refine mx_all_cons (ok_get (C := "HeaderSchedule$Frame") (T := T_Fr) (N := 8) X (mw_up in_Fr) rfl 4 (by decide) (hm _ w230) (fun _ h9 => h9) d_Fr_isLike_27) ?_
  refine mx_all_cons (ok_icmp (fun kt kf => lv_icmp_ne X.1.1 X.1.2.1 d_Fr_isLike_30 (by decide) kt (fun z => kf (fun g => g z)))) ?_
  refine mx_all_cons (ok_push (fun kk => lv_iconst X.1.1 X.1.2.1 d_Fr_isLike_33 (by decide) kk)) ?_
  refine mx_all_cons (ok_goto X d_Fr_isLike_34 (by decide)) ?_
  refine mx_all_cons (ok_push (fun kk => lv_iconst X.1.1 X.1.2.1 d_Fr_isLike_37 (by decide) kk)) ?_
  refine mx_all_cons (ok_zret X hr hlk d_Fr_isLike_38) ?_
  exact mx_all_nil
theorem st_Fr_isLike_0 (zz : Nat × Nat) (r : mx_T) (ls : mx_L) (st : List Value) (h : mx_H) (c n : Nat) : mx_G r (t_Fr_isLike zz) 0 ls st h c n = (o_aload 1 0) r (mx_G r (t_Fr_isLike zz)) 0 ls st h c n := mx_G_eq (tm_Fr_isLike zz) r 0 ls st h c n
theorem st_Fr_isLike_1 (zz : Nat × Nat) (r : mx_T) (ls : mx_L) (st : List Value) (h : mx_H) (c n : Nat) : mx_G r (t_Fr_isLike zz) 1 ls st h c n = (o_get 1 2) r (mx_G r (t_Fr_isLike zz)) 1 ls st h c n := mx_G_eq (tm_Fr_isLike zz) r 1 ls st h c n
theorem st_Fr_isLike_4 (zz : Nat × Nat) (r : mx_T) (ls : mx_L) (st : List Value) (h : mx_H) (c n : Nat) : mx_G r (t_Fr_isLike zz) 4 ls st h c n = (o_aload 1 1) r (mx_G r (t_Fr_isLike zz)) 4 ls st h c n := mx_G_eq (tm_Fr_isLike zz) r 4 ls st h c n
theorem st_Fr_isLike_5 (zz : Nat × Nat) (r : mx_T) (ls : mx_L) (st : List Value) (h : mx_H) (c n : Nat) : mx_G r (t_Fr_isLike zz) 5 ls st h c n = (o_get 1 2) r (mx_G r (t_Fr_isLike zz)) 5 ls st h c n := mx_G_eq (tm_Fr_isLike zz) r 5 ls st h c n
theorem st_Fr_isLike_8 (zz : Nat × Nat) (r : mx_T) (ls : mx_L) (st : List Value) (h : mx_H) (c n : Nat) : mx_G r (t_Fr_isLike zz) 8 ls st h c n = (o_icmp 37 (fun x y => x = y)) r (mx_G r (t_Fr_isLike zz)) 8 ls st h c n := mx_G_eq (tm_Fr_isLike zz) r 8 ls st h c n
theorem st_Fr_isLike_11 (zz : Nat × Nat) (r : mx_T) (ls : mx_L) (st : List Value) (h : mx_H) (c n : Nat) : mx_G r (t_Fr_isLike zz) 11 ls st h c n = (o_aload 1 0) r (mx_G r (t_Fr_isLike zz)) 11 ls st h c n := mx_G_eq (tm_Fr_isLike zz) r 11 ls st h c n
theorem st_Fr_isLike_12 (zz : Nat × Nat) (r : mx_T) (ls : mx_L) (st : List Value) (h : mx_H) (c n : Nat) : mx_G r (t_Fr_isLike zz) 12 ls st h c n = (o_get 1 3) r (mx_G r (t_Fr_isLike zz)) 12 ls st h c n := mx_G_eq (tm_Fr_isLike zz) r 12 ls st h c n
theorem st_Fr_isLike_15 (zz : Nat × Nat) (r : mx_T) (ls : mx_L) (st : List Value) (h : mx_H) (c n : Nat) : mx_G r (t_Fr_isLike zz) 15 ls st h c n = (o_aload 1 1) r (mx_G r (t_Fr_isLike zz)) 15 ls st h c n := mx_G_eq (tm_Fr_isLike zz) r 15 ls st h c n
theorem st_Fr_isLike_16 (zz : Nat × Nat) (r : mx_T) (ls : mx_L) (st : List Value) (h : mx_H) (c n : Nat) : mx_G r (t_Fr_isLike zz) 16 ls st h c n = (o_get 1 3) r (mx_G r (t_Fr_isLike zz)) 16 ls st h c n := mx_G_eq (tm_Fr_isLike zz) r 16 ls st h c n
theorem st_Fr_isLike_19 (zz : Nat × Nat) (r : mx_T) (ls : mx_L) (st : List Value) (h : mx_H) (c n : Nat) : mx_G r (t_Fr_isLike zz) 19 ls st h c n = (o_icmp 37 (fun x y => ¬ x = y)) r (mx_G r (t_Fr_isLike zz)) 19 ls st h c n := mx_G_eq (tm_Fr_isLike zz) r 19 ls st h c n
theorem st_Fr_isLike_22 (zz : Nat × Nat) (r : mx_T) (ls : mx_L) (st : List Value) (h : mx_H) (c n : Nat) : mx_G r (t_Fr_isLike zz) 22 ls st h c n = (o_aload 1 0) r (mx_G r (t_Fr_isLike zz)) 22 ls st h c n := mx_G_eq (tm_Fr_isLike zz) r 22 ls st h c n
theorem st_Fr_isLike_23 (zz : Nat × Nat) (r : mx_T) (ls : mx_L) (st : List Value) (h : mx_H) (c n : Nat) : mx_G r (t_Fr_isLike zz) 23 ls st h c n = (o_get 1 4) r (mx_G r (t_Fr_isLike zz)) 23 ls st h c n := mx_G_eq (tm_Fr_isLike zz) r 23 ls st h c n
theorem st_Fr_isLike_26 (zz : Nat × Nat) (r : mx_T) (ls : mx_L) (st : List Value) (h : mx_H) (c n : Nat) : mx_G r (t_Fr_isLike zz) 26 ls st h c n = (o_aload 1 1) r (mx_G r (t_Fr_isLike zz)) 26 ls st h c n := mx_G_eq (tm_Fr_isLike zz) r 26 ls st h c n
theorem st_Fr_isLike_27 (zz : Nat × Nat) (r : mx_T) (ls : mx_L) (st : List Value) (h : mx_H) (c n : Nat) : mx_G r (t_Fr_isLike zz) 27 ls st h c n = (o_get 1 4) r (mx_G r (t_Fr_isLike zz)) 27 ls st h c n := mx_G_eq (tm_Fr_isLike zz) r 27 ls st h c n
theorem st_Fr_isLike_30 (zz : Nat × Nat) (r : mx_T) (ls : mx_L) (st : List Value) (h : mx_H) (c n : Nat) : mx_G r (t_Fr_isLike zz) 30 ls st h c n = (o_icmp 37 (fun x y => ¬ x = y)) r (mx_G r (t_Fr_isLike zz)) 30 ls st h c n := mx_G_eq (tm_Fr_isLike zz) r 30 ls st h c n
theorem st_Fr_isLike_33 (zz : Nat × Nat) (r : mx_T) (ls : mx_L) (st : List Value) (h : mx_H) (c n : Nat) : mx_G r (t_Fr_isLike zz) 33 ls st h c n = (o_push 1 (.int 1)) r (mx_G r (t_Fr_isLike zz)) 33 ls st h c n := mx_G_eq (tm_Fr_isLike zz) r 33 ls st h c n
theorem st_Fr_isLike_34 (zz : Nat × Nat) (r : mx_T) (ls : mx_L) (st : List Value) (h : mx_H) (c n : Nat) : mx_G r (t_Fr_isLike zz) 34 ls st h c n = (o_goto 38) r (mx_G r (t_Fr_isLike zz)) 34 ls st h c n := mx_G_eq (tm_Fr_isLike zz) r 34 ls st h c n
theorem st_Fr_isLike_37 (zz : Nat × Nat) (r : mx_T) (ls : mx_L) (st : List Value) (h : mx_H) (c n : Nat) : mx_G r (t_Fr_isLike zz) 37 ls st h c n = (o_push 1 (.int 0)) r (mx_G r (t_Fr_isLike zz)) 37 ls st h c n := mx_G_eq (tm_Fr_isLike zz) r 37 ls st h c n
theorem st_Fr_isLike_38 (zz : Nat × Nat) (r : mx_T) (ls : mx_L) (st : List Value) (h : mx_H) (c n : Nat) : mx_G r (t_Fr_isLike zz) 38 ls st h c n = (o_zret) r (mx_G r (t_Fr_isLike zz)) 38 ls st h c n := mx_G_eq (tm_Fr_isLike zz) r 38 ls st h c n
