theorem d_Hs_pending_0 : decode c_Hs_pending 0 = .ok (.aload_n 0, 1) := by decide +kernel
theorem d_Hs_pending_1 : decode c_Hs_pending 1 = .ok (.iload_n 1, 1) := by decide +kernel
theorem d_Hs_pending_2 : decode c_Hs_pending 2 = .ok (.invokevirtual 83, 3) := by decide +kernel
theorem d_Hs_pending_5 : decode c_Hs_pending 5 = .ok (.astore_n 2, 1) := by decide +kernel
theorem d_Hs_pending_6 : decode c_Hs_pending 6 = .ok (.aload_n 2, 1) := by decide +kernel
theorem d_Hs_pending_7 : decode c_Hs_pending 7 = .ok (.ifnull 14, 3) := by decide +kernel
theorem d_Hs_pending_10 : decode c_Hs_pending 10 = .ok (.aload_n 2, 1) := by decide +kernel
theorem d_Hs_pending_11 : decode c_Hs_pending 11 = .ok (.getfield 175, 3) := by decide +kernel
theorem d_Hs_pending_14 : decode c_Hs_pending 14 = .ok (.ifCond .eq 7, 3) := by decide +kernel
theorem d_Hs_pending_17 : decode c_Hs_pending 17 = .ok (.iconst 1, 1) := by decide +kernel
theorem d_Hs_pending_18 : decode c_Hs_pending 18 = .ok (.goto 4, 3) := by decide +kernel
theorem d_Hs_pending_21 : decode c_Hs_pending 21 = .ok (.iconst 0, 1) := by decide +kernel
theorem d_Hs_pending_22 : decode c_Hs_pending 22 = .ok (.ireturn, 1) := by decide +kernel
def t_Hs_pending (zz : Nat × Nat) : List (Nat × mx_O) := [(0, o_aload 1 0),
  (1, o_iload 1 1),
  (2, o_call 0 0 2 0 0 (mx_rv 0) (S_Hs_frameAt zz)),
  (5, o_astore 1 2),
  (6, o_aload 1 2),
  (7, o_ifnull 21),
  (10, o_aload 1 2),
  (11, o_get 1 7),
  (14, o_if 21 (fun x => x = 0)),
  (17, o_push 1 (.int 1)),
  (18, o_goto 22),
  (21, o_push 1 (.int 0)),
  (22, o_zret)]
set_option maxRecDepth 100000 in
theorem tm_Hs_pending (zz : Nat × Nat) : mx_All (fun _ o => mx_Mono o) (t_Hs_pending zz) := by
  refine mx_all_cons (mo_st) ?_
  refine mx_all_cons (mo_st) ?_
  refine mx_all_cons (mo_call (sm_Hs_frameAt zz)) ?_
  refine mx_all_cons (mo_st) ?_
  refine mx_all_cons (mo_st) ?_
  refine mx_all_cons (mo_st) ?_
  refine mx_all_cons (mo_st) ?_
  refine mx_all_cons (mo_st) ?_
  refine mx_all_cons (mo_br) ?_
  refine mx_all_cons (mo_st) ?_
  refine mx_all_cons (mo_st) ?_
  refine mx_all_cons (mo_st) ?_
  refine mx_all_cons (mo_zret) ?_
  exact mx_all_nil
def S_Hs_pending (zz : Nat × Nat) : mx_Sp := mx_S 3 0 0 (t_Hs_pending zz)
theorem sm_Hs_pending (zz : Nat × Nat) : mx_SMono (S_Hs_pending zz) := mx_S_mono (tm_Hs_pending zz)
abbrev rm_Hs_pending : Room := { frames := 4, cells := 0, slots := 0, locals := 85 }
set_option maxHeartbeats 4000000 in
set_option maxRecDepth 100000 in
theorem m_Hs_pending (l : Launch) (zz : Nat × Nat) : mx_Met l y_Hs_pending (wsOf y_Hs_pending c_Hs_pending 3 (some .boolean)) rm_Hs_pending wcl (mx_Z zz) 0 0 (S_Hs_pending zz) := by
  refine mx_met (cc := c_Hs_pending) (ret := (some .boolean)) (by decide) rfl ?_
  intro p e s m args below meth c D A Post X hz hr hlk hnm
  have hm : ∀ w ∈ mw, w.before args s = true := fun w h => X.1.2.2.2.2 w (List.mem_cons_of_mem _ h)
  refine mx_all_cons (ok_aload (fun hl kk => lv_aload_n X.1.1 X.1.2.1 d_Hs_pending_0 rfl hl kk) (fun hl kk => lv_aload_nN X.1.1 X.1.2.1 d_Hs_pending_0 rfl hl kk)) ?_
  refine mx_all_cons (ok_iload (fun hl kk => lv_iload_n X.1.1 X.1.2.1 d_Hs_pending_1 rfl hl kk)) ?_
  refine mx_all_cons (ok_callV (C := "HeaderSchedule") (T := T_Hs) (N := 11) X (mx_Zok_Z zz) hz ⟨(Nat.le_of_ble_eq_true rfl), (Nat.le_of_ble_eq_true rfl)⟩ (m_Hs_frameAt l zz) ⟨mx_cwB 1 hm w322 w319 w33 rfl rfl (by decide +kernel) ⟨(Nat.le_of_ble_eq_true rfl), (Nat.le_of_ble_eq_true rfl)⟩, (hm _ w321), hm _ w4⟩ rfl d_Hs_pending_2) ?_
  refine mx_all_cons (ok_astore (fun hl kk => lv_astore_n X.1.1 X.1.2.1 d_Hs_pending_5 rfl hl (by decide) rfl kk) (fun hl kk => lv_astore_nN X.1.1 X.1.2.1 d_Hs_pending_5 rfl hl (by decide) rfl kk)) ?_
  refine mx_all_cons (ok_aload (fun hl kk => lv_aload_n X.1.1 X.1.2.1 d_Hs_pending_6 rfl hl kk) (fun hl kk => lv_aload_nN X.1.1 X.1.2.1 d_Hs_pending_6 rfl hl kk)) ?_
  refine mx_all_cons (ok_ifnull X d_Hs_pending_7 (by decide)) ?_
  refine mx_all_cons (ok_aload (fun hl kk => lv_aload_n X.1.1 X.1.2.1 d_Hs_pending_10 rfl hl kk) (fun hl kk => lv_aload_nN X.1.1 X.1.2.1 d_Hs_pending_10 rfl hl kk)) ?_
  refine mx_all_cons (ok_get (C := "HeaderSchedule$Frame") (T := T_Fr) (N := 8) X (mw_up in_Fr) rfl 7 (by decide) (hm _ w239) (fun _ h9 => h9) d_Hs_pending_11) ?_
  refine mx_all_cons (ok_if (fun kt kf => lv_if_eq X.1.1 X.1.2.1 d_Hs_pending_14 (by decide) kt kf)) ?_
  refine mx_all_cons (ok_push (fun kk => lv_iconst X.1.1 X.1.2.1 d_Hs_pending_17 (by decide) kk)) ?_
  refine mx_all_cons (ok_goto X d_Hs_pending_18 (by decide)) ?_
  refine mx_all_cons (ok_push (fun kk => lv_iconst X.1.1 X.1.2.1 d_Hs_pending_21 (by decide) kk)) ?_
  refine mx_all_cons (ok_zret X hr hlk d_Hs_pending_22) ?_
  exact mx_all_nil
theorem st_Hs_pending_0 (zz : Nat × Nat) (r : mx_T) (ls : mx_L) (st : List Value) (h : mx_H) (c n : Nat) : mx_G r (t_Hs_pending zz) 0 ls st h c n = (o_aload 1 0) r (mx_G r (t_Hs_pending zz)) 0 ls st h c n := mx_G_eq (tm_Hs_pending zz) r 0 ls st h c n
theorem st_Hs_pending_1 (zz : Nat × Nat) (r : mx_T) (ls : mx_L) (st : List Value) (h : mx_H) (c n : Nat) : mx_G r (t_Hs_pending zz) 1 ls st h c n = (o_iload 1 1) r (mx_G r (t_Hs_pending zz)) 1 ls st h c n := mx_G_eq (tm_Hs_pending zz) r 1 ls st h c n
theorem st_Hs_pending_2 (zz : Nat × Nat) (r : mx_T) (ls : mx_L) (st : List Value) (h : mx_H) (c n : Nat) : mx_G r (t_Hs_pending zz) 2 ls st h c n = (o_call 0 0 2 0 0 (mx_rv 0) (S_Hs_frameAt zz)) r (mx_G r (t_Hs_pending zz)) 2 ls st h c n := mx_G_eq (tm_Hs_pending zz) r 2 ls st h c n
theorem st_Hs_pending_5 (zz : Nat × Nat) (r : mx_T) (ls : mx_L) (st : List Value) (h : mx_H) (c n : Nat) : mx_G r (t_Hs_pending zz) 5 ls st h c n = (o_astore 1 2) r (mx_G r (t_Hs_pending zz)) 5 ls st h c n := mx_G_eq (tm_Hs_pending zz) r 5 ls st h c n
theorem st_Hs_pending_6 (zz : Nat × Nat) (r : mx_T) (ls : mx_L) (st : List Value) (h : mx_H) (c n : Nat) : mx_G r (t_Hs_pending zz) 6 ls st h c n = (o_aload 1 2) r (mx_G r (t_Hs_pending zz)) 6 ls st h c n := mx_G_eq (tm_Hs_pending zz) r 6 ls st h c n
theorem st_Hs_pending_7 (zz : Nat × Nat) (r : mx_T) (ls : mx_L) (st : List Value) (h : mx_H) (c n : Nat) : mx_G r (t_Hs_pending zz) 7 ls st h c n = (o_ifnull 21) r (mx_G r (t_Hs_pending zz)) 7 ls st h c n := mx_G_eq (tm_Hs_pending zz) r 7 ls st h c n
theorem st_Hs_pending_10 (zz : Nat × Nat) (r : mx_T) (ls : mx_L) (st : List Value) (h : mx_H) (c n : Nat) : mx_G r (t_Hs_pending zz) 10 ls st h c n = (o_aload 1 2) r (mx_G r (t_Hs_pending zz)) 10 ls st h c n := mx_G_eq (tm_Hs_pending zz) r 10 ls st h c n
theorem st_Hs_pending_11 (zz : Nat × Nat) (r : mx_T) (ls : mx_L) (st : List Value) (h : mx_H) (c n : Nat) : mx_G r (t_Hs_pending zz) 11 ls st h c n = (o_get 1 7) r (mx_G r (t_Hs_pending zz)) 11 ls st h c n := mx_G_eq (tm_Hs_pending zz) r 11 ls st h c n
theorem st_Hs_pending_14 (zz : Nat × Nat) (r : mx_T) (ls : mx_L) (st : List Value) (h : mx_H) (c n : Nat) : mx_G r (t_Hs_pending zz) 14 ls st h c n = (o_if 21 (fun x => x = 0)) r (mx_G r (t_Hs_pending zz)) 14 ls st h c n := mx_G_eq (tm_Hs_pending zz) r 14 ls st h c n
theorem st_Hs_pending_17 (zz : Nat × Nat) (r : mx_T) (ls : mx_L) (st : List Value) (h : mx_H) (c n : Nat) : mx_G r (t_Hs_pending zz) 17 ls st h c n = (o_push 1 (.int 1)) r (mx_G r (t_Hs_pending zz)) 17 ls st h c n := mx_G_eq (tm_Hs_pending zz) r 17 ls st h c n
theorem st_Hs_pending_18 (zz : Nat × Nat) (r : mx_T) (ls : mx_L) (st : List Value) (h : mx_H) (c n : Nat) : mx_G r (t_Hs_pending zz) 18 ls st h c n = (o_goto 22) r (mx_G r (t_Hs_pending zz)) 18 ls st h c n := mx_G_eq (tm_Hs_pending zz) r 18 ls st h c n
theorem st_Hs_pending_21 (zz : Nat × Nat) (r : mx_T) (ls : mx_L) (st : List Value) (h : mx_H) (c n : Nat) : mx_G r (t_Hs_pending zz) 21 ls st h c n = (o_push 1 (.int 0)) r (mx_G r (t_Hs_pending zz)) 21 ls st h c n := mx_G_eq (tm_Hs_pending zz) r 21 ls st h c n
theorem st_Hs_pending_22 (zz : Nat × Nat) (r : mx_T) (ls : mx_L) (st : List Value) (h : mx_H) (c n : Nat) : mx_G r (t_Hs_pending zz) 22 ls st h c n = (o_zret) r (mx_G r (t_Hs_pending zz)) 22 ls st h c n := mx_G_eq (tm_Hs_pending zz) r 22 ls st h c n
theorem d_Hs_request_0 : decode c_Hs_request 0 = .ok (.aload_n 0, 1) := by decide +kernel
theorem d_Hs_request_1 : decode c_Hs_request 1 = .ok (.getfield 47, 3) := by decide +kernel
theorem d_Hs_request_4 : decode c_Hs_request 4 = .ok (.ifCond .eq 21, 3) := by decide +kernel
theorem d_Hs_request_7 : decode c_Hs_request 7 = .ok (.iload_n 1, 1) := by decide +kernel
theorem d_Hs_request_8 : decode c_Hs_request 8 = .ok (.invokestatic 122, 3) := by decide +kernel
theorem d_Hs_request_11 : decode c_Hs_request 11 = .ok (.ifCond .eq 14, 3) := by decide +kernel
theorem d_Hs_request_14 : decode c_Hs_request 14 = .ok (.aload_n 0, 1) := by decide +kernel
theorem d_Hs_request_15 : decode c_Hs_request 15 = .ok (.getfield 32, 3) := by decide +kernel
theorem d_Hs_request_18 : decode c_Hs_request 18 = .ok (.iload_n 1, 1) := by decide +kernel
theorem d_Hs_request_19 : decode c_Hs_request 19 = .ok (.invokevirtual 140, 3) := by decide +kernel
theorem d_Hs_request_22 : decode c_Hs_request 22 = .ok (.ifCond .ne 5, 3) := by decide +kernel
theorem d_Hs_request_25 : decode c_Hs_request 25 = .ok (.iconst 0, 1) := by decide +kernel
theorem d_Hs_request_26 : decode c_Hs_request 26 = .ok (.ireturn, 1) := by decide +kernel
theorem d_Hs_request_27 : decode c_Hs_request 27 = .ok (.aload_n 0, 1) := by decide +kernel
theorem d_Hs_request_28 : decode c_Hs_request 28 = .ok (.getfield 32, 3) := by decide +kernel
theorem d_Hs_request_31 : decode c_Hs_request 31 = .ok (.iload_n 1, 1) := by decide +kernel
theorem d_Hs_request_32 : decode c_Hs_request 32 = .ok (.putfield 184, 3) := by decide +kernel
theorem d_Hs_request_35 : decode c_Hs_request 35 = .ok (.iconst 1, 1) := by decide +kernel
theorem d_Hs_request_36 : decode c_Hs_request 36 = .ok (.ireturn, 1) := by decide +kernel
def t_Hs_request (zz : Nat × Nat) : List (Nat × mx_O) := [(0, o_aload 1 0),
  (1, o_get 0 8),
  (4, o_if 25 (fun x => x = 0)),
  (7, o_iload 1 1),
  (8, o_call 0 0 1 0 0 (fun _ _ => True) (S_Hs_isTable zz)),
  (11, o_if 25 (fun x => x = 0)),
  (14, o_aload 1 0),
  (15, o_get 0 5),
  (18, o_iload 1 1),
  (19, o_call 0 0 2 0 0 (mx_rv 7) (S_Sc_sizeOf zz)),
  (22, o_if 27 (fun x => ¬ x = 0)),
  (25, o_push 1 (.int 0)),
  (26, o_zret),
  (27, o_aload 1 0),
  (28, o_get 0 5),
  (31, o_iload 1 1),
  (32, o_put 7 6 mx_vI),
  (35, o_push 1 (.int 1)),
  (36, o_zret)]
set_option maxRecDepth 100000 in
theorem tm_Hs_request (zz : Nat × Nat) : mx_All (fun _ o => mx_Mono o) (t_Hs_request zz) := by
  refine mx_all_cons (mo_st) ?_
  refine mx_all_cons (mo_st) ?_
  refine mx_all_cons (mo_br) ?_
  refine mx_all_cons (mo_st) ?_
  refine mx_all_cons (mo_call (sm_Hs_isTable zz)) ?_
  refine mx_all_cons (mo_br) ?_
  refine mx_all_cons (mo_st) ?_
  refine mx_all_cons (mo_st) ?_
  refine mx_all_cons (mo_st) ?_
  refine mx_all_cons (mo_call (sm_Sc_sizeOf zz)) ?_
  refine mx_all_cons (mo_br) ?_
  refine mx_all_cons (mo_st) ?_
  refine mx_all_cons (mo_zret) ?_
  refine mx_all_cons (mo_st) ?_
  refine mx_all_cons (mo_st) ?_
  refine mx_all_cons (mo_st) ?_
  refine mx_all_cons (mo_sc) ?_
  refine mx_all_cons (mo_st) ?_
  refine mx_all_cons (mo_zret) ?_
  exact mx_all_nil
def S_Hs_request (zz : Nat × Nat) : mx_Sp := mx_S 2 0 0 (t_Hs_request zz)
theorem sm_Hs_request (zz : Nat × Nat) : mx_SMono (S_Hs_request zz) := mx_S_mono (tm_Hs_request zz)
abbrev rm_Hs_request : Room := { frames := 2, cells := 0, slots := 0, locals := 42 }
set_option maxHeartbeats 4000000 in
set_option maxRecDepth 100000 in
theorem m_Hs_request (l : Launch) (zz : Nat × Nat) : mx_Met l y_Hs_request (wsOf y_Hs_request c_Hs_request 2 (some .boolean)) rm_Hs_request wcl (mx_Z zz) 0 0 (S_Hs_request zz) := by
  refine mx_met (cc := c_Hs_request) (ret := (some .boolean)) (by decide) rfl ?_
  intro p e s m args below meth c D A Post X hz hr hlk hnm
  have hm : ∀ w ∈ mw, w.before args s = true := fun w h => X.1.2.2.2.2 w (List.mem_cons_of_mem _ h)
  refine mx_all_cons (ok_aload (fun hl kk => lv_aload_n X.1.1 X.1.2.1 d_Hs_request_0 rfl hl kk) (fun hl kk => lv_aload_nN X.1.1 X.1.2.1 d_Hs_request_0 rfl hl kk)) ?_
  refine mx_all_cons (ok_get (C := "HeaderSchedule") (T := T_Hs) (N := 11) X (mw_up in_Hs) rfl 8 (by decide) (hm _ w166) (fun _ h9 => h9) d_Hs_request_1) ?_
  refine mx_all_cons (ok_if (fun kt kf => lv_if_eq X.1.1 X.1.2.1 d_Hs_request_4 (by decide) kt kf)) ?_
  refine mx_all_cons (ok_iload (fun hl kk => lv_iload_n X.1.1 X.1.2.1 d_Hs_request_7 rfl hl kk)) ?_
  refine mx_all_cons (ok_callS X (mx_Zok_Z zz) hz ⟨(Nat.le_of_ble_eq_true rfl), (Nat.le_of_ble_eq_true rfl)⟩ (m_Hs_isTable l zz) ⟨mx_cwB 1 hm w409 w407 w33 rfl rfl (by decide +kernel) ⟨(Nat.le_of_ble_eq_true rfl), (Nat.le_of_ble_eq_true rfl)⟩, (hm _ w408)⟩ d_Hs_request_8) ?_
  refine mx_all_cons (ok_if (fun kt kf => lv_if_eq X.1.1 X.1.2.1 d_Hs_request_11 (by decide) kt kf)) ?_
  refine mx_all_cons (ok_aload (fun hl kk => lv_aload_n X.1.1 X.1.2.1 d_Hs_request_14 rfl hl kk) (fun hl kk => lv_aload_nN X.1.1 X.1.2.1 d_Hs_request_14 rfl hl kk)) ?_
  refine mx_all_cons (ok_get (C := "HeaderSchedule") (T := T_Hs) (N := 11) X (mw_up in_Hs) rfl 5 (by decide) (hm _ w163) (fun _ h9 => h9) d_Hs_request_15) ?_
  refine mx_all_cons (ok_iload (fun hl kk => lv_iload_n X.1.1 X.1.2.1 d_Hs_request_18 rfl hl kk)) ?_
  refine mx_all_cons (ok_callV (C := "HeaderSchedule$Schedule") (T := T_Sc) (N := 8) X (mx_Zok_Z zz) hz ⟨(Nat.le_of_ble_eq_true rfl), (Nat.le_of_ble_eq_true rfl)⟩ (m_Sc_sizeOf l zz) ⟨mx_cwB 1 hm w454 w451 w37 rfl rfl (by decide +kernel) ⟨(Nat.le_of_ble_eq_true rfl), (Nat.le_of_ble_eq_true rfl)⟩, (hm _ w452), hm _ w453⟩ rfl d_Hs_request_19) ?_
  refine mx_all_cons (ok_if (fun kt kf => lv_if_ne X.1.1 X.1.2.1 d_Hs_request_22 (by decide) kt (fun z => kf (fun g => g z)))) ?_
  refine mx_all_cons (ok_push (fun kk => lv_iconst X.1.1 X.1.2.1 d_Hs_request_25 (by decide) kk)) ?_
  refine mx_all_cons (ok_zret X hr hlk d_Hs_request_26) ?_
  refine mx_all_cons (ok_aload (fun hl kk => lv_aload_n X.1.1 X.1.2.1 d_Hs_request_27 rfl hl kk) (fun hl kk => lv_aload_nN X.1.1 X.1.2.1 d_Hs_request_27 rfl hl kk)) ?_
  refine mx_all_cons (ok_get (C := "HeaderSchedule") (T := T_Hs) (N := 11) X (mw_up in_Hs) rfl 5 (by decide) (hm _ w163) (fun _ h9 => h9) d_Hs_request_28) ?_
  refine mx_all_cons (ok_iload (fun hl kk => lv_iload_n X.1.1 X.1.2.1 d_Hs_request_31 rfl hl kk)) ?_
  refine mx_all_cons (ok_put (C := "HeaderSchedule$Schedule") (T := T_Sc) (N := 8) X (mw_up in_Sc) ty_Sc tyok_Sc nm_Sc rfl 6 (by decide) (hm _ w116) (fun _ h9 => h9) rfl (tyok_Sc 6 (by decide)) mx_vI_ok d_Hs_request_32) ?_
  refine mx_all_cons (ok_push (fun kk => lv_iconst X.1.1 X.1.2.1 d_Hs_request_35 (by decide) kk)) ?_
  refine mx_all_cons (ok_zret X hr hlk d_Hs_request_36) ?_
  exact mx_all_nil
theorem st_Hs_request_0 (zz : Nat × Nat) (r : mx_T) (ls : mx_L) (st : List Value) (h : mx_H) (c n : Nat) : mx_G r (t_Hs_request zz) 0 ls st h c n = (o_aload 1 0) r (mx_G r (t_Hs_request zz)) 0 ls st h c n := mx_G_eq (tm_Hs_request zz) r 0 ls st h c n
theorem st_Hs_request_1 (zz : Nat × Nat) (r : mx_T) (ls : mx_L) (st : List Value) (h : mx_H) (c n : Nat) : mx_G r (t_Hs_request zz) 1 ls st h c n = (o_get 0 8) r (mx_G r (t_Hs_request zz)) 1 ls st h c n := mx_G_eq (tm_Hs_request zz) r 1 ls st h c n
theorem st_Hs_request_4 (zz : Nat × Nat) (r : mx_T) (ls : mx_L) (st : List Value) (h : mx_H) (c n : Nat) : mx_G r (t_Hs_request zz) 4 ls st h c n = (o_if 25 (fun x => x = 0)) r (mx_G r (t_Hs_request zz)) 4 ls st h c n := mx_G_eq (tm_Hs_request zz) r 4 ls st h c n
theorem st_Hs_request_7 (zz : Nat × Nat) (r : mx_T) (ls : mx_L) (st : List Value) (h : mx_H) (c n : Nat) : mx_G r (t_Hs_request zz) 7 ls st h c n = (o_iload 1 1) r (mx_G r (t_Hs_request zz)) 7 ls st h c n := mx_G_eq (tm_Hs_request zz) r 7 ls st h c n
theorem st_Hs_request_8 (zz : Nat × Nat) (r : mx_T) (ls : mx_L) (st : List Value) (h : mx_H) (c n : Nat) : mx_G r (t_Hs_request zz) 8 ls st h c n = (o_call 0 0 1 0 0 (fun _ _ => True) (S_Hs_isTable zz)) r (mx_G r (t_Hs_request zz)) 8 ls st h c n := mx_G_eq (tm_Hs_request zz) r 8 ls st h c n
theorem st_Hs_request_11 (zz : Nat × Nat) (r : mx_T) (ls : mx_L) (st : List Value) (h : mx_H) (c n : Nat) : mx_G r (t_Hs_request zz) 11 ls st h c n = (o_if 25 (fun x => x = 0)) r (mx_G r (t_Hs_request zz)) 11 ls st h c n := mx_G_eq (tm_Hs_request zz) r 11 ls st h c n
theorem st_Hs_request_14 (zz : Nat × Nat) (r : mx_T) (ls : mx_L) (st : List Value) (h : mx_H) (c n : Nat) : mx_G r (t_Hs_request zz) 14 ls st h c n = (o_aload 1 0) r (mx_G r (t_Hs_request zz)) 14 ls st h c n := mx_G_eq (tm_Hs_request zz) r 14 ls st h c n
theorem st_Hs_request_15 (zz : Nat × Nat) (r : mx_T) (ls : mx_L) (st : List Value) (h : mx_H) (c n : Nat) : mx_G r (t_Hs_request zz) 15 ls st h c n = (o_get 0 5) r (mx_G r (t_Hs_request zz)) 15 ls st h c n := mx_G_eq (tm_Hs_request zz) r 15 ls st h c n
theorem st_Hs_request_18 (zz : Nat × Nat) (r : mx_T) (ls : mx_L) (st : List Value) (h : mx_H) (c n : Nat) : mx_G r (t_Hs_request zz) 18 ls st h c n = (o_iload 1 1) r (mx_G r (t_Hs_request zz)) 18 ls st h c n := mx_G_eq (tm_Hs_request zz) r 18 ls st h c n
theorem st_Hs_request_19 (zz : Nat × Nat) (r : mx_T) (ls : mx_L) (st : List Value) (h : mx_H) (c n : Nat) : mx_G r (t_Hs_request zz) 19 ls st h c n = (o_call 0 0 2 0 0 (mx_rv 7) (S_Sc_sizeOf zz)) r (mx_G r (t_Hs_request zz)) 19 ls st h c n := mx_G_eq (tm_Hs_request zz) r 19 ls st h c n
theorem st_Hs_request_22 (zz : Nat × Nat) (r : mx_T) (ls : mx_L) (st : List Value) (h : mx_H) (c n : Nat) : mx_G r (t_Hs_request zz) 22 ls st h c n = (o_if 27 (fun x => ¬ x = 0)) r (mx_G r (t_Hs_request zz)) 22 ls st h c n := mx_G_eq (tm_Hs_request zz) r 22 ls st h c n
theorem st_Hs_request_25 (zz : Nat × Nat) (r : mx_T) (ls : mx_L) (st : List Value) (h : mx_H) (c n : Nat) : mx_G r (t_Hs_request zz) 25 ls st h c n = (o_push 1 (.int 0)) r (mx_G r (t_Hs_request zz)) 25 ls st h c n := mx_G_eq (tm_Hs_request zz) r 25 ls st h c n
theorem st_Hs_request_26 (zz : Nat × Nat) (r : mx_T) (ls : mx_L) (st : List Value) (h : mx_H) (c n : Nat) : mx_G r (t_Hs_request zz) 26 ls st h c n = (o_zret) r (mx_G r (t_Hs_request zz)) 26 ls st h c n := mx_G_eq (tm_Hs_request zz) r 26 ls st h c n
theorem st_Hs_request_27 (zz : Nat × Nat) (r : mx_T) (ls : mx_L) (st : List Value) (h : mx_H) (c n : Nat) : mx_G r (t_Hs_request zz) 27 ls st h c n = (o_aload 1 0) r (mx_G r (t_Hs_request zz)) 27 ls st h c n := mx_G_eq (tm_Hs_request zz) r 27 ls st h c n
theorem st_Hs_request_28 (zz : Nat × Nat) (r : mx_T) (ls : mx_L) (st : List Value) (h : mx_H) (c n : Nat) : mx_G r (t_Hs_request zz) 28 ls st h c n = (o_get 0 5) r (mx_G r (t_Hs_request zz)) 28 ls st h c n := mx_G_eq (tm_Hs_request zz) r 28 ls st h c n
theorem st_Hs_request_31 (zz : Nat × Nat) (r : mx_T) (ls : mx_L) (st : List Value) (h : mx_H) (c n : Nat) : mx_G r (t_Hs_request zz) 31 ls st h c n = (o_iload 1 1) r (mx_G r (t_Hs_request zz)) 31 ls st h c n := mx_G_eq (tm_Hs_request zz) r 31 ls st h c n
theorem st_Hs_request_32 (zz : Nat × Nat) (r : mx_T) (ls : mx_L) (st : List Value) (h : mx_H) (c n : Nat) : mx_G r (t_Hs_request zz) 32 ls st h c n = (o_put 7 6 mx_vI) r (mx_G r (t_Hs_request zz)) 32 ls st h c n := mx_G_eq (tm_Hs_request zz) r 32 ls st h c n
theorem st_Hs_request_35 (zz : Nat × Nat) (r : mx_T) (ls : mx_L) (st : List Value) (h : mx_H) (c n : Nat) : mx_G r (t_Hs_request zz) 35 ls st h c n = (o_push 1 (.int 1)) r (mx_G r (t_Hs_request zz)) 35 ls st h c n := mx_G_eq (tm_Hs_request zz) r 35 ls st h c n
theorem st_Hs_request_36 (zz : Nat × Nat) (r : mx_T) (ls : mx_L) (st : List Value) (h : mx_H) (c n : Nat) : mx_G r (t_Hs_request zz) 36 ls st h c n = (o_zret) r (mx_G r (t_Hs_request zz)) 36 ls st h c n := mx_G_eq (tm_Hs_request zz) r 36 ls st h c n
theorem d_Hs_noise_0 : decode c_Hs_noise 0 = .ok (.iload_n 1, 1) := by decide +kernel
theorem d_Hs_noise_1 : decode c_Hs_noise 1 = .ok (.iconst 0, 1) := by decide +kernel
theorem d_Hs_noise_2 : decode c_Hs_noise 2 = .ok (.bipush 8, 2) := by decide +kernel
theorem d_Hs_noise_4 : decode c_Hs_noise 4 = .ok (.invokestatic 66, 3) := by decide +kernel
theorem d_Hs_noise_7 : decode c_Hs_noise 7 = .ok (.ifCond .eq 14, 3) := by decide +kernel
theorem d_Hs_noise_10 : decode c_Hs_noise 10 = .ok (.iload_n 2, 1) := by decide +kernel
theorem d_Hs_noise_11 : decode c_Hs_noise 11 = .ok (.iconst 1, 1) := by decide +kernel
theorem d_Hs_noise_12 : decode c_Hs_noise 12 = .ok (.sipush 255, 3) := by decide +kernel
theorem d_Hs_noise_15 : decode c_Hs_noise 15 = .ok (.invokestatic 66, 3) := by decide +kernel
theorem d_Hs_noise_18 : decode c_Hs_noise 18 = .ok (.ifCond .ne 5, 3) := by decide +kernel
theorem d_Hs_noise_21 : decode c_Hs_noise 21 = .ok (.iconst 0, 1) := by decide +kernel
theorem d_Hs_noise_22 : decode c_Hs_noise 22 = .ok (.ireturn, 1) := by decide +kernel
theorem d_Hs_noise_23 : decode c_Hs_noise 23 = .ok (.aload_n 0, 1) := by decide +kernel
theorem d_Hs_noise_24 : decode c_Hs_noise 24 = .ok (.getfield 39, 3) := by decide +kernel
theorem d_Hs_noise_27 : decode c_Hs_noise 27 = .ok (.iload_n 1, 1) := by decide +kernel
theorem d_Hs_noise_28 : decode c_Hs_noise 28 = .ok (.putfield 187, 3) := by decide +kernel
theorem d_Hs_noise_31 : decode c_Hs_noise 31 = .ok (.aload_n 0, 1) := by decide +kernel
theorem d_Hs_noise_32 : decode c_Hs_noise 32 = .ok (.getfield 39, 3) := by decide +kernel
theorem d_Hs_noise_35 : decode c_Hs_noise 35 = .ok (.iload_n 2, 1) := by decide +kernel
theorem d_Hs_noise_36 : decode c_Hs_noise 36 = .ok (.putfield 190, 3) := by decide +kernel
theorem d_Hs_noise_39 : decode c_Hs_noise 39 = .ok (.iconst 1, 1) := by decide +kernel
theorem d_Hs_noise_40 : decode c_Hs_noise 40 = .ok (.ireturn, 1) := by decide +kernel
def t_Hs_noise (zz : Nat × Nat) : List (Nat × mx_O) := [(0, o_iload 1 1),
  (1, o_push 1 (.int 0)),
  (2, o_push 2 (.int 8)),
  (4, o_call 0 0 3 0 0 (fun _ _ => True) (S_Hs_isWithin zz)),
  (7, o_if 21 (fun x => x = 0)),
  (10, o_iload 1 2),
  (11, o_push 1 (.int 1)),
  (12, o_push 3 (.int 255)),
  (15, o_call 0 0 3 0 0 (fun _ _ => True) (S_Hs_isWithin zz)),
  (18, o_if 23 (fun x => ¬ x = 0)),
  (21, o_push 1 (.int 0)),
  (22, o_zret),
  (23, o_aload 1 0),
  (24, o_get 0 6),
  (27, o_iload 1 1),
  (28, o_put 8 2 mx_vI),
  (31, o_aload 1 0),
  (32, o_get 0 6),
  (35, o_iload 1 2),
  (36, o_put 8 3 mx_vI),
  (39, o_push 1 (.int 1)),
  (40, o_zret)]
set_option maxRecDepth 100000 in
theorem tm_Hs_noise (zz : Nat × Nat) : mx_All (fun _ o => mx_Mono o) (t_Hs_noise zz) := by
  refine mx_all_cons (mo_st) ?_
  refine mx_all_cons (mo_st) ?_
  refine mx_all_cons (mo_st) ?_
  refine mx_all_cons (mo_call (sm_Hs_isWithin zz)) ?_
  refine mx_all_cons (mo_br) ?_
  refine mx_all_cons (mo_st) ?_
  refine mx_all_cons (mo_st) ?_
  refine mx_all_cons (mo_st) ?_
  refine mx_all_cons (mo_call (sm_Hs_isWithin zz)) ?_
  refine mx_all_cons (mo_br) ?_
  refine mx_all_cons (mo_st) ?_
  refine mx_all_cons (mo_zret) ?_
  refine mx_all_cons (mo_st) ?_
  refine mx_all_cons (mo_st) ?_
  refine mx_all_cons (mo_st) ?_
  refine mx_all_cons (mo_sc) ?_
  refine mx_all_cons (mo_st) ?_
  refine mx_all_cons (mo_st) ?_
  refine mx_all_cons (mo_st) ?_
  refine mx_all_cons (mo_sc) ?_
  refine mx_all_cons (mo_st) ?_
  refine mx_all_cons (mo_zret) ?_
  exact mx_all_nil
def S_Hs_noise (zz : Nat × Nat) : mx_Sp := mx_S 3 0 0 (t_Hs_noise zz)
theorem sm_Hs_noise (zz : Nat × Nat) : mx_SMono (S_Hs_noise zz) := mx_S_mono (tm_Hs_noise zz)
abbrev rm_Hs_noise : Room := { frames := 1, cells := 0, slots := 0, locals := 22 }
set_option maxHeartbeats 4000000 in
set_option maxRecDepth 100000 in
theorem m_Hs_noise (l : Launch) (zz : Nat × Nat) : mx_Met l y_Hs_noise (wsOf y_Hs_noise c_Hs_noise 3 (some .boolean)) rm_Hs_noise wcl (mx_Z zz) 0 0 (S_Hs_noise zz) := by
  refine mx_met (cc := c_Hs_noise) (ret := (some .boolean)) (by decide) rfl ?_
  intro p e s m args below meth c D A Post X hz hr hlk hnm
  have hm : ∀ w ∈ mw, w.before args s = true := fun w h => X.1.2.2.2.2 w (List.mem_cons_of_mem _ h)
  refine mx_all_cons (ok_iload (fun hl kk => lv_iload_n X.1.1 X.1.2.1 d_Hs_noise_0 rfl hl kk)) ?_
  refine mx_all_cons (ok_push (fun kk => lv_iconst X.1.1 X.1.2.1 d_Hs_noise_1 (by decide) kk)) ?_
  refine mx_all_cons (ok_push (fun kk => lv_bipush X.1.1 X.1.2.1 d_Hs_noise_2 (by decide) kk)) ?_
  refine mx_all_cons (ok_callS X (mx_Zok_Z zz) hz ⟨(Nat.le_of_ble_eq_true rfl), (Nat.le_of_ble_eq_true rfl)⟩ (m_Hs_isWithin l zz) ⟨mx_cwB 3 hm w206 w204 w33 rfl rfl (by decide +kernel) ⟨(Nat.le_of_ble_eq_true rfl), (Nat.le_of_ble_eq_true rfl)⟩, (hm _ w205)⟩ d_Hs_noise_4) ?_
  refine mx_all_cons (ok_if (fun kt kf => lv_if_eq X.1.1 X.1.2.1 d_Hs_noise_7 (by decide) kt kf)) ?_
  refine mx_all_cons (ok_iload (fun hl kk => lv_iload_n X.1.1 X.1.2.1 d_Hs_noise_10 rfl hl kk)) ?_
  refine mx_all_cons (ok_push (fun kk => lv_iconst X.1.1 X.1.2.1 d_Hs_noise_11 (by decide) kk)) ?_
  refine mx_all_cons (ok_push (fun kk => lv_sipush X.1.1 X.1.2.1 d_Hs_noise_12 (by decide) kk)) ?_
  refine mx_all_cons (ok_callS X (mx_Zok_Z zz) hz ⟨(Nat.le_of_ble_eq_true rfl), (Nat.le_of_ble_eq_true rfl)⟩ (m_Hs_isWithin l zz) ⟨mx_cwB 3 hm w206 w204 w33 rfl rfl (by decide +kernel) ⟨(Nat.le_of_ble_eq_true rfl), (Nat.le_of_ble_eq_true rfl)⟩, (hm _ w205)⟩ d_Hs_noise_15) ?_
  refine mx_all_cons (ok_if (fun kt kf => lv_if_ne X.1.1 X.1.2.1 d_Hs_noise_18 (by decide) kt (fun z => kf (fun g => g z)))) ?_
  refine mx_all_cons (ok_push (fun kk => lv_iconst X.1.1 X.1.2.1 d_Hs_noise_21 (by decide) kk)) ?_
  refine mx_all_cons (ok_zret X hr hlk d_Hs_noise_22) ?_
  refine mx_all_cons (ok_aload (fun hl kk => lv_aload_n X.1.1 X.1.2.1 d_Hs_noise_23 rfl hl kk) (fun hl kk => lv_aload_nN X.1.1 X.1.2.1 d_Hs_noise_23 rfl hl kk)) ?_
  refine mx_all_cons (ok_get (C := "HeaderSchedule") (T := T_Hs) (N := 11) X (mw_up in_Hs) rfl 6 (by decide) (hm _ w164) (fun _ h9 => h9) d_Hs_noise_24) ?_
  refine mx_all_cons (ok_iload (fun hl kk => lv_iload_n X.1.1 X.1.2.1 d_Hs_noise_27 rfl hl kk)) ?_
  refine mx_all_cons (ok_put (C := "HeaderSchedule$Wire") (T := T_Wi) (N := 4) X (mw_up in_Wi) ty_Wi tyok_Wi nm_Wi rfl 2 (by decide) (hm _ w145) (fun _ h9 => h9) rfl (tyok_Wi 2 (by decide)) mx_vI_ok d_Hs_noise_28) ?_
  refine mx_all_cons (ok_aload (fun hl kk => lv_aload_n X.1.1 X.1.2.1 d_Hs_noise_31 rfl hl kk) (fun hl kk => lv_aload_nN X.1.1 X.1.2.1 d_Hs_noise_31 rfl hl kk)) ?_
  refine mx_all_cons (ok_get (C := "HeaderSchedule") (T := T_Hs) (N := 11) X (mw_up in_Hs) rfl 6 (by decide) (hm _ w164) (fun _ h9 => h9) d_Hs_noise_32) ?_
  refine mx_all_cons (ok_iload (fun hl kk => lv_iload_n X.1.1 X.1.2.1 d_Hs_noise_35 rfl hl kk)) ?_
  refine mx_all_cons (ok_put (C := "HeaderSchedule$Wire") (T := T_Wi) (N := 4) X (mw_up in_Wi) ty_Wi tyok_Wi nm_Wi rfl 3 (by decide) (hm _ w147) (fun _ h9 => h9) rfl (tyok_Wi 3 (by decide)) mx_vI_ok d_Hs_noise_36) ?_
  refine mx_all_cons (ok_push (fun kk => lv_iconst X.1.1 X.1.2.1 d_Hs_noise_39 (by decide) kk)) ?_
  refine mx_all_cons (ok_zret X hr hlk d_Hs_noise_40) ?_
  exact mx_all_nil
theorem st_Hs_noise_0 (zz : Nat × Nat) (r : mx_T) (ls : mx_L) (st : List Value) (h : mx_H) (c n : Nat) : mx_G r (t_Hs_noise zz) 0 ls st h c n = (o_iload 1 1) r (mx_G r (t_Hs_noise zz)) 0 ls st h c n := mx_G_eq (tm_Hs_noise zz) r 0 ls st h c n
theorem st_Hs_noise_1 (zz : Nat × Nat) (r : mx_T) (ls : mx_L) (st : List Value) (h : mx_H) (c n : Nat) : mx_G r (t_Hs_noise zz) 1 ls st h c n = (o_push 1 (.int 0)) r (mx_G r (t_Hs_noise zz)) 1 ls st h c n := mx_G_eq (tm_Hs_noise zz) r 1 ls st h c n
theorem st_Hs_noise_2 (zz : Nat × Nat) (r : mx_T) (ls : mx_L) (st : List Value) (h : mx_H) (c n : Nat) : mx_G r (t_Hs_noise zz) 2 ls st h c n = (o_push 2 (.int 8)) r (mx_G r (t_Hs_noise zz)) 2 ls st h c n := mx_G_eq (tm_Hs_noise zz) r 2 ls st h c n
theorem st_Hs_noise_4 (zz : Nat × Nat) (r : mx_T) (ls : mx_L) (st : List Value) (h : mx_H) (c n : Nat) : mx_G r (t_Hs_noise zz) 4 ls st h c n = (o_call 0 0 3 0 0 (fun _ _ => True) (S_Hs_isWithin zz)) r (mx_G r (t_Hs_noise zz)) 4 ls st h c n := mx_G_eq (tm_Hs_noise zz) r 4 ls st h c n
theorem st_Hs_noise_7 (zz : Nat × Nat) (r : mx_T) (ls : mx_L) (st : List Value) (h : mx_H) (c n : Nat) : mx_G r (t_Hs_noise zz) 7 ls st h c n = (o_if 21 (fun x => x = 0)) r (mx_G r (t_Hs_noise zz)) 7 ls st h c n := mx_G_eq (tm_Hs_noise zz) r 7 ls st h c n
theorem st_Hs_noise_10 (zz : Nat × Nat) (r : mx_T) (ls : mx_L) (st : List Value) (h : mx_H) (c n : Nat) : mx_G r (t_Hs_noise zz) 10 ls st h c n = (o_iload 1 2) r (mx_G r (t_Hs_noise zz)) 10 ls st h c n := mx_G_eq (tm_Hs_noise zz) r 10 ls st h c n
theorem st_Hs_noise_11 (zz : Nat × Nat) (r : mx_T) (ls : mx_L) (st : List Value) (h : mx_H) (c n : Nat) : mx_G r (t_Hs_noise zz) 11 ls st h c n = (o_push 1 (.int 1)) r (mx_G r (t_Hs_noise zz)) 11 ls st h c n := mx_G_eq (tm_Hs_noise zz) r 11 ls st h c n
theorem st_Hs_noise_12 (zz : Nat × Nat) (r : mx_T) (ls : mx_L) (st : List Value) (h : mx_H) (c n : Nat) : mx_G r (t_Hs_noise zz) 12 ls st h c n = (o_push 3 (.int 255)) r (mx_G r (t_Hs_noise zz)) 12 ls st h c n := mx_G_eq (tm_Hs_noise zz) r 12 ls st h c n
theorem st_Hs_noise_15 (zz : Nat × Nat) (r : mx_T) (ls : mx_L) (st : List Value) (h : mx_H) (c n : Nat) : mx_G r (t_Hs_noise zz) 15 ls st h c n = (o_call 0 0 3 0 0 (fun _ _ => True) (S_Hs_isWithin zz)) r (mx_G r (t_Hs_noise zz)) 15 ls st h c n := mx_G_eq (tm_Hs_noise zz) r 15 ls st h c n
theorem st_Hs_noise_18 (zz : Nat × Nat) (r : mx_T) (ls : mx_L) (st : List Value) (h : mx_H) (c n : Nat) : mx_G r (t_Hs_noise zz) 18 ls st h c n = (o_if 23 (fun x => ¬ x = 0)) r (mx_G r (t_Hs_noise zz)) 18 ls st h c n := mx_G_eq (tm_Hs_noise zz) r 18 ls st h c n
theorem st_Hs_noise_21 (zz : Nat × Nat) (r : mx_T) (ls : mx_L) (st : List Value) (h : mx_H) (c n : Nat) : mx_G r (t_Hs_noise zz) 21 ls st h c n = (o_push 1 (.int 0)) r (mx_G r (t_Hs_noise zz)) 21 ls st h c n := mx_G_eq (tm_Hs_noise zz) r 21 ls st h c n
theorem st_Hs_noise_22 (zz : Nat × Nat) (r : mx_T) (ls : mx_L) (st : List Value) (h : mx_H) (c n : Nat) : mx_G r (t_Hs_noise zz) 22 ls st h c n = (o_zret) r (mx_G r (t_Hs_noise zz)) 22 ls st h c n := mx_G_eq (tm_Hs_noise zz) r 22 ls st h c n
theorem st_Hs_noise_23 (zz : Nat × Nat) (r : mx_T) (ls : mx_L) (st : List Value) (h : mx_H) (c n : Nat) : mx_G r (t_Hs_noise zz) 23 ls st h c n = (o_aload 1 0) r (mx_G r (t_Hs_noise zz)) 23 ls st h c n := mx_G_eq (tm_Hs_noise zz) r 23 ls st h c n
theorem st_Hs_noise_24 (zz : Nat × Nat) (r : mx_T) (ls : mx_L) (st : List Value) (h : mx_H) (c n : Nat) : mx_G r (t_Hs_noise zz) 24 ls st h c n = (o_get 0 6) r (mx_G r (t_Hs_noise zz)) 24 ls st h c n := mx_G_eq (tm_Hs_noise zz) r 24 ls st h c n
theorem st_Hs_noise_27 (zz : Nat × Nat) (r : mx_T) (ls : mx_L) (st : List Value) (h : mx_H) (c n : Nat) : mx_G r (t_Hs_noise zz) 27 ls st h c n = (o_iload 1 1) r (mx_G r (t_Hs_noise zz)) 27 ls st h c n := mx_G_eq (tm_Hs_noise zz) r 27 ls st h c n
theorem st_Hs_noise_28 (zz : Nat × Nat) (r : mx_T) (ls : mx_L) (st : List Value) (h : mx_H) (c n : Nat) : mx_G r (t_Hs_noise zz) 28 ls st h c n = (o_put 8 2 mx_vI) r (mx_G r (t_Hs_noise zz)) 28 ls st h c n := mx_G_eq (tm_Hs_noise zz) r 28 ls st h c n
theorem st_Hs_noise_31 (zz : Nat × Nat) (r : mx_T) (ls : mx_L) (st : List Value) (h : mx_H) (c n : Nat) : mx_G r (t_Hs_noise zz) 31 ls st h c n = (o_aload 1 0) r (mx_G r (t_Hs_noise zz)) 31 ls st h c n := mx_G_eq (tm_Hs_noise zz) r 31 ls st h c n
theorem st_Hs_noise_32 (zz : Nat × Nat) (r : mx_T) (ls : mx_L) (st : List Value) (h : mx_H) (c n : Nat) : mx_G r (t_Hs_noise zz) 32 ls st h c n = (o_get 0 6) r (mx_G r (t_Hs_noise zz)) 32 ls st h c n := mx_G_eq (tm_Hs_noise zz) r 32 ls st h c n
theorem st_Hs_noise_35 (zz : Nat × Nat) (r : mx_T) (ls : mx_L) (st : List Value) (h : mx_H) (c n : Nat) : mx_G r (t_Hs_noise zz) 35 ls st h c n = (o_iload 1 2) r (mx_G r (t_Hs_noise zz)) 35 ls st h c n := mx_G_eq (tm_Hs_noise zz) r 35 ls st h c n
theorem st_Hs_noise_36 (zz : Nat × Nat) (r : mx_T) (ls : mx_L) (st : List Value) (h : mx_H) (c n : Nat) : mx_G r (t_Hs_noise zz) 36 ls st h c n = (o_put 8 3 mx_vI) r (mx_G r (t_Hs_noise zz)) 36 ls st h c n := mx_G_eq (tm_Hs_noise zz) r 36 ls st h c n
theorem st_Hs_noise_39 (zz : Nat × Nat) (r : mx_T) (ls : mx_L) (st : List Value) (h : mx_H) (c n : Nat) : mx_G r (t_Hs_noise zz) 39 ls st h c n = (o_push 1 (.int 1)) r (mx_G r (t_Hs_noise zz)) 39 ls st h c n := mx_G_eq (tm_Hs_noise zz) r 39 ls st h c n
theorem st_Hs_noise_40 (zz : Nat × Nat) (r : mx_T) (ls : mx_L) (st : List Value) (h : mx_H) (c n : Nat) : mx_G r (t_Hs_noise zz) 40 ls st h c n = (o_zret) r (mx_G r (t_Hs_noise zz)) 40 ls st h c n := mx_G_eq (tm_Hs_noise zz) r 40 ls st h c n
theorem d_Sc_beginResolving_0 : decode c_Sc_beginResolving 0 = .ok (.aload_n 0, 1) := by decide +kernel
theorem d_Sc_beginResolving_1 : decode c_Sc_beginResolving 1 = .ok (.aload_n 0, 1) := by decide +kernel
theorem d_Sc_beginResolving_2 : decode c_Sc_beginResolving 2 = .ok (.getfield 18, 3) := by decide +kernel
theorem d_Sc_beginResolving_5 : decode c_Sc_beginResolving 5 = .ok (.putfield 29, 3) := by decide +kernel
theorem d_Sc_beginResolving_8 : decode c_Sc_beginResolving 8 = .ok (.aload_n 0, 1) := by decide +kernel
theorem d_Sc_beginResolving_9 : decode c_Sc_beginResolving 9 = .ok (.aload_n 0, 1) := by decide +kernel
theorem d_Sc_beginResolving_10 : decode c_Sc_beginResolving 10 = .ok (.getfield 22, 3) := by decide +kernel
theorem d_Sc_beginResolving_13 : decode c_Sc_beginResolving 13 = .ok (.putfield 32, 3) := by decide +kernel
theorem d_Sc_beginResolving_16 : decode c_Sc_beginResolving 16 = .ok (.aload_n 0, 1) := by decide +kernel
theorem d_Sc_beginResolving_17 : decode c_Sc_beginResolving 17 = .ok (.aload_n 0, 1) := by decide +kernel
theorem d_Sc_beginResolving_18 : decode c_Sc_beginResolving 18 = .ok (.getfield 38, 3) := by decide +kernel
theorem d_Sc_beginResolving_21 : decode c_Sc_beginResolving 21 = .ok (.invokevirtual 65, 3) := by decide +kernel
theorem d_Sc_beginResolving_24 : decode c_Sc_beginResolving 24 = .ok (.aload_n 0, 1) := by decide +kernel
theorem d_Sc_beginResolving_25 : decode c_Sc_beginResolving 25 = .ok (.iconst (-1), 1) := by decide +kernel
theorem d_Sc_beginResolving_26 : decode c_Sc_beginResolving 26 = .ok (.putfield 38, 3) := by decide +kernel
theorem d_Sc_beginResolving_29 : decode c_Sc_beginResolving 29 = .ok (.aload_n 0, 1) := by decide +kernel
theorem d_Sc_beginResolving_30 : decode c_Sc_beginResolving 30 = .ok (.iconst 1, 1) := by decide +kernel
theorem d_Sc_beginResolving_31 : decode c_Sc_beginResolving 31 = .ok (.putfield 25, 3) := by decide +kernel
theorem d_Sc_beginResolving_34 : decode c_Sc_beginResolving 34 = .ok (.return_, 1) := by decide +kernel
def t_Sc_beginResolving (zz : Nat × Nat) : List (Nat × mx_O) := [(0, o_aload 1 0),
  (1, o_aload 1 0),
  (2, o_get 7 1),
  (5, o_put 7 4 mx_vI),
  (8, o_aload 1 0),
  (9, o_aload 1 0),
  (10, o_get 7 2),
  (13, o_put 7 5 mx_vI),
  (16, o_aload 1 0),
  (17, o_aload 1 0),
  (18, o_get 7 7),
  (21, o_call 0 0 2 0 0 (mx_rv 7) (S_Sc_begin zz)),
  (24, o_aload 1 0),
  (25, o_push 1 (.int (-1))),
  (26, o_put 7 7 mx_vI),
  (29, o_aload 1 0),
  (30, o_push 1 (.int 1)),
  (31, o_put 7 3 mx_vZ),
  (34, o_vret)]
set_option maxRecDepth 100000 in
theorem tm_Sc_beginResolving (zz : Nat × Nat) : mx_All (fun _ o => mx_Mono o) (t_Sc_beginResolving zz) := by
  refine mx_all_cons (mo_st) ?_
  refine mx_all_cons (mo_st) ?_
  refine mx_all_cons (mo_st) ?_
  refine mx_all_cons (mo_sc) ?_
  refine mx_all_cons (mo_st) ?_
  refine mx_all_cons (mo_st) ?_
  refine mx_all_cons (mo_st) ?_
  refine mx_all_cons (mo_sc) ?_
  refine mx_all_cons (mo_st) ?_
  refine mx_all_cons (mo_st) ?_
  refine mx_all_cons (mo_st) ?_
  refine mx_all_cons (mo_call (sm_Sc_begin zz)) ?_
  refine mx_all_cons (mo_st) ?_
  refine mx_all_cons (mo_st) ?_
  refine mx_all_cons (mo_sc) ?_
  refine mx_all_cons (mo_st) ?_
  refine mx_all_cons (mo_st) ?_
  refine mx_all_cons (mo_sc) ?_
  refine mx_all_cons (mo_ret) ?_
  exact mx_all_nil
def S_Sc_beginResolving (zz : Nat × Nat) : mx_Sp := mx_S 1 0 0 (t_Sc_beginResolving zz)
theorem sm_Sc_beginResolving (zz : Nat × Nat) : mx_SMono (S_Sc_beginResolving zz) := mx_S_mono (tm_Sc_beginResolving zz)
abbrev rm_Sc_beginResolving : Room := { frames := 1, cells := 0, slots := 0, locals := 21 }
set_option maxHeartbeats 4000000 in
set_option maxRecDepth 100000 in
theorem m_Sc_beginResolving (l : Launch) (zz : Nat × Nat) : mx_Met l y_Sc_beginResolving (wsOf y_Sc_beginResolving c_Sc_beginResolving 1 none) rm_Sc_beginResolving wcl (mx_Z zz) 0 0 (S_Sc_beginResolving zz) := by
  refine mx_met (cc := c_Sc_beginResolving) (ret := none) (by decide) rfl ?_
  intro p e s m args below meth c D A Post X hz hr hlk hnm
  have hm : ∀ w ∈ mw, w.before args s = true := fun w h => X.1.2.2.2.2 w (List.mem_cons_of_mem _ h)
  refine mx_all_cons (ok_aload (fun hl kk => lv_aload_n X.1.1 X.1.2.1 d_Sc_beginResolving_0 rfl hl kk) (fun hl kk => lv_aload_nN X.1.1 X.1.2.1 d_Sc_beginResolving_0 rfl hl kk)) ?_
  refine mx_all_cons (ok_aload (fun hl kk => lv_aload_n X.1.1 X.1.2.1 d_Sc_beginResolving_1 rfl hl kk) (fun hl kk => lv_aload_nN X.1.1 X.1.2.1 d_Sc_beginResolving_1 rfl hl kk)) ?_
  refine mx_all_cons (ok_get (C := "HeaderSchedule$Schedule") (T := T_Sc) (N := 8) X (mw_up in_Sc) rfl 1 (by decide) (hm _ w110) (fun _ h9 => h9) d_Sc_beginResolving_2) ?_
  refine mx_all_cons (ok_put (C := "HeaderSchedule$Schedule") (T := T_Sc) (N := 8) X (mw_up in_Sc) ty_Sc tyok_Sc nm_Sc rfl 4 (by decide) (hm _ w113) (fun _ h9 => h9) rfl (tyok_Sc 4 (by decide)) mx_vI_ok d_Sc_beginResolving_5) ?_
  refine mx_all_cons (ok_aload (fun hl kk => lv_aload_n X.1.1 X.1.2.1 d_Sc_beginResolving_8 rfl hl kk) (fun hl kk => lv_aload_nN X.1.1 X.1.2.1 d_Sc_beginResolving_8 rfl hl kk)) ?_
  refine mx_all_cons (ok_aload (fun hl kk => lv_aload_n X.1.1 X.1.2.1 d_Sc_beginResolving_9 rfl hl kk) (fun hl kk => lv_aload_nN X.1.1 X.1.2.1 d_Sc_beginResolving_9 rfl hl kk)) ?_
  refine mx_all_cons (ok_get (C := "HeaderSchedule$Schedule") (T := T_Sc) (N := 8) X (mw_up in_Sc) rfl 2 (by decide) (hm _ w111) (fun _ h9 => h9) d_Sc_beginResolving_10) ?_
  refine mx_all_cons (ok_put (C := "HeaderSchedule$Schedule") (T := T_Sc) (N := 8) X (mw_up in_Sc) ty_Sc tyok_Sc nm_Sc rfl 5 (by decide) (hm _ w114) (fun _ h9 => h9) rfl (tyok_Sc 5 (by decide)) mx_vI_ok d_Sc_beginResolving_13) ?_
  refine mx_all_cons (ok_aload (fun hl kk => lv_aload_n X.1.1 X.1.2.1 d_Sc_beginResolving_16 rfl hl kk) (fun hl kk => lv_aload_nN X.1.1 X.1.2.1 d_Sc_beginResolving_16 rfl hl kk)) ?_
  refine mx_all_cons (ok_aload (fun hl kk => lv_aload_n X.1.1 X.1.2.1 d_Sc_beginResolving_17 rfl hl kk) (fun hl kk => lv_aload_nN X.1.1 X.1.2.1 d_Sc_beginResolving_17 rfl hl kk)) ?_
  refine mx_all_cons (ok_get (C := "HeaderSchedule$Schedule") (T := T_Sc) (N := 8) X (mw_up in_Sc) rfl 7 (by decide) (hm _ w117) (fun _ h9 => h9) d_Sc_beginResolving_18) ?_
  refine mx_all_cons (ok_callV (C := "HeaderSchedule$Schedule") (T := T_Sc) (N := 8) X (mx_Zok_Z zz) hz ⟨(Nat.le_of_ble_eq_true rfl), (Nat.le_of_ble_eq_true rfl)⟩ (m_Sc_begin l zz) ⟨mx_cwB 1 hm w507 w548 w37 rfl rfl (by decide +kernel) ⟨(Nat.le_of_ble_eq_true rfl), (Nat.le_of_ble_eq_true rfl)⟩, (hm _ w505), hm _ w506⟩ rfl d_Sc_beginResolving_21) ?_
  refine mx_all_cons (ok_aload (fun hl kk => lv_aload_n X.1.1 X.1.2.1 d_Sc_beginResolving_24 rfl hl kk) (fun hl kk => lv_aload_nN X.1.1 X.1.2.1 d_Sc_beginResolving_24 rfl hl kk)) ?_
  refine mx_all_cons (ok_push (fun kk => lv_iconst X.1.1 X.1.2.1 d_Sc_beginResolving_25 (by decide) kk)) ?_
  refine mx_all_cons (ok_put (C := "HeaderSchedule$Schedule") (T := T_Sc) (N := 8) X (mw_up in_Sc) ty_Sc tyok_Sc nm_Sc rfl 7 (by decide) (hm _ w117) (fun _ h9 => h9) rfl (tyok_Sc 7 (by decide)) mx_vI_ok d_Sc_beginResolving_26) ?_
  refine mx_all_cons (ok_aload (fun hl kk => lv_aload_n X.1.1 X.1.2.1 d_Sc_beginResolving_29 rfl hl kk) (fun hl kk => lv_aload_nN X.1.1 X.1.2.1 d_Sc_beginResolving_29 rfl hl kk)) ?_
  refine mx_all_cons (ok_push (fun kk => lv_iconst X.1.1 X.1.2.1 d_Sc_beginResolving_30 (by decide) kk)) ?_
  refine mx_all_cons (ok_put (C := "HeaderSchedule$Schedule") (T := T_Sc) (N := 8) X (mw_up in_Sc) ty_Sc tyok_Sc nm_Sc rfl 3 (by decide) (hm _ w112) (fun _ h9 => h9) rfl (tyok_Sc 3 (by decide)) mx_vZ_ok d_Sc_beginResolving_31) ?_
  refine mx_all_cons (ok_vret X hr hlk d_Sc_beginResolving_34) ?_
  exact mx_all_nil
theorem st_Sc_beginResolving_0 (zz : Nat × Nat) (r : mx_T) (ls : mx_L) (st : List Value) (h : mx_H) (c n : Nat) : mx_G r (t_Sc_beginResolving zz) 0 ls st h c n = (o_aload 1 0) r (mx_G r (t_Sc_beginResolving zz)) 0 ls st h c n := mx_G_eq (tm_Sc_beginResolving zz) r 0 ls st h c n
theorem st_Sc_beginResolving_1 (zz : Nat × Nat) (r : mx_T) (ls : mx_L) (st : List Value) (h : mx_H) (c n : Nat) : mx_G r (t_Sc_beginResolving zz) 1 ls st h c n = (o_aload 1 0) r (mx_G r (t_Sc_beginResolving zz)) 1 ls st h c n := mx_G_eq (tm_Sc_beginResolving zz) r 1 ls st h c n
theorem st_Sc_beginResolving_2 (zz : Nat × Nat) (r : mx_T) (ls : mx_L) (st : List Value) (h : mx_H) (c n : Nat) : mx_G r (t_Sc_beginResolving zz) 2 ls st h c n = (o_get 7 1) r (mx_G r (t_Sc_beginResolving zz)) 2 ls st h c n := mx_G_eq (tm_Sc_beginResolving zz) r 2 ls st h c n
theorem st_Sc_beginResolving_5 (zz : Nat × Nat) (r : mx_T) (ls : mx_L) (st : List Value) (h : mx_H) (c n : Nat) : mx_G r (t_Sc_beginResolving zz) 5 ls st h c n = (o_put 7 4 mx_vI) r (mx_G r (t_Sc_beginResolving zz)) 5 ls st h c n := mx_G_eq (tm_Sc_beginResolving zz) r 5 ls st h c n
theorem st_Sc_beginResolving_8 (zz : Nat × Nat) (r : mx_T) (ls : mx_L) (st : List Value) (h : mx_H) (c n : Nat) : mx_G r (t_Sc_beginResolving zz) 8 ls st h c n = (o_aload 1 0) r (mx_G r (t_Sc_beginResolving zz)) 8 ls st h c n := mx_G_eq (tm_Sc_beginResolving zz) r 8 ls st h c n
theorem st_Sc_beginResolving_9 (zz : Nat × Nat) (r : mx_T) (ls : mx_L) (st : List Value) (h : mx_H) (c n : Nat) : mx_G r (t_Sc_beginResolving zz) 9 ls st h c n = (o_aload 1 0) r (mx_G r (t_Sc_beginResolving zz)) 9 ls st h c n := mx_G_eq (tm_Sc_beginResolving zz) r 9 ls st h c n
theorem st_Sc_beginResolving_10 (zz : Nat × Nat) (r : mx_T) (ls : mx_L) (st : List Value) (h : mx_H) (c n : Nat) : mx_G r (t_Sc_beginResolving zz) 10 ls st h c n = (o_get 7 2) r (mx_G r (t_Sc_beginResolving zz)) 10 ls st h c n := mx_G_eq (tm_Sc_beginResolving zz) r 10 ls st h c n
theorem st_Sc_beginResolving_13 (zz : Nat × Nat) (r : mx_T) (ls : mx_L) (st : List Value) (h : mx_H) (c n : Nat) : mx_G r (t_Sc_beginResolving zz) 13 ls st h c n = (o_put 7 5 mx_vI) r (mx_G r (t_Sc_beginResolving zz)) 13 ls st h c n := mx_G_eq (tm_Sc_beginResolving zz) r 13 ls st h c n
theorem st_Sc_beginResolving_16 (zz : Nat × Nat) (r : mx_T) (ls : mx_L) (st : List Value) (h : mx_H) (c n : Nat) : mx_G r (t_Sc_beginResolving zz) 16 ls st h c n = (o_aload 1 0) r (mx_G r (t_Sc_beginResolving zz)) 16 ls st h c n := mx_G_eq (tm_Sc_beginResolving zz) r 16 ls st h c n
theorem st_Sc_beginResolving_17 (zz : Nat × Nat) (r : mx_T) (ls : mx_L) (st : List Value) (h : mx_H) (c n : Nat) : mx_G r (t_Sc_beginResolving zz) 17 ls st h c n = (o_aload 1 0) r (mx_G r (t_Sc_beginResolving zz)) 17 ls st h c n := mx_G_eq (tm_Sc_beginResolving zz) r 17 ls st h c n
theorem st_Sc_beginResolving_18 (zz : Nat × Nat) (r : mx_T) (ls : mx_L) (st : List Value) (h : mx_H) (c n : Nat) : mx_G r (t_Sc_beginResolving zz) 18 ls st h c n = (o_get 7 7) r (mx_G r (t_Sc_beginResolving zz)) 18 ls st h c n := mx_G_eq (tm_Sc_beginResolving zz) r 18 ls st h c n
theorem st_Sc_beginResolving_21 (zz : Nat × Nat) (r : mx_T) (ls : mx_L) (st : List Value) (h : mx_H) (c n : Nat) : mx_G r (t_Sc_beginResolving zz) 21 ls st h c n = (o_call 0 0 2 0 0 (mx_rv 7) (S_Sc_begin zz)) r (mx_G r (t_Sc_beginResolving zz)) 21 ls st h c n := mx_G_eq (tm_Sc_beginResolving zz) r 21 ls st h c n
theorem st_Sc_beginResolving_24 (zz : Nat × Nat) (r : mx_T) (ls : mx_L) (st : List Value) (h : mx_H) (c n : Nat) : mx_G r (t_Sc_beginResolving zz) 24 ls st h c n = (o_aload 1 0) r (mx_G r (t_Sc_beginResolving zz)) 24 ls st h c n := mx_G_eq (tm_Sc_beginResolving zz) r 24 ls st h c n
theorem st_Sc_beginResolving_25 (zz : Nat × Nat) (r : mx_T) (ls : mx_L) (st : List Value) (h : mx_H) (c n : Nat) : mx_G r (t_Sc_beginResolving zz) 25 ls st h c n = (o_push 1 (.int (-1))) r (mx_G r (t_Sc_beginResolving zz)) 25 ls st h c n := mx_G_eq (tm_Sc_beginResolving zz) r 25 ls st h c n
theorem st_Sc_beginResolving_26 (zz : Nat × Nat) (r : mx_T) (ls : mx_L) (st : List Value) (h : mx_H) (c n : Nat) : mx_G r (t_Sc_beginResolving zz) 26 ls st h c n = (o_put 7 7 mx_vI) r (mx_G r (t_Sc_beginResolving zz)) 26 ls st h c n := mx_G_eq (tm_Sc_beginResolving zz) r 26 ls st h c n
theorem st_Sc_beginResolving_29 (zz : Nat × Nat) (r : mx_T) (ls : mx_L) (st : List Value) (h : mx_H) (c n : Nat) : mx_G r (t_Sc_beginResolving zz) 29 ls st h c n = (o_aload 1 0) r (mx_G r (t_Sc_beginResolving zz)) 29 ls st h c n := mx_G_eq (tm_Sc_beginResolving zz) r 29 ls st h c n
theorem st_Sc_beginResolving_30 (zz : Nat × Nat) (r : mx_T) (ls : mx_L) (st : List Value) (h : mx_H) (c n : Nat) : mx_G r (t_Sc_beginResolving zz) 30 ls st h c n = (o_push 1 (.int 1)) r (mx_G r (t_Sc_beginResolving zz)) 30 ls st h c n := mx_G_eq (tm_Sc_beginResolving zz) r 30 ls st h c n
theorem st_Sc_beginResolving_31 (zz : Nat × Nat) (r : mx_T) (ls : mx_L) (st : List Value) (h : mx_H) (c n : Nat) : mx_G r (t_Sc_beginResolving zz) 31 ls st h c n = (o_put 7 3 mx_vZ) r (mx_G r (t_Sc_beginResolving zz)) 31 ls st h c n := mx_G_eq (tm_Sc_beginResolving zz) r 31 ls st h c n
theorem st_Sc_beginResolving_34 (zz : Nat × Nat) (r : mx_T) (ls : mx_L) (st : List Value) (h : mx_H) (c n : Nat) : mx_G r (t_Sc_beginResolving zz) 34 ls st h c n = (o_vret) r (mx_G r (t_Sc_beginResolving zz)) 34 ls st h c n := mx_G_eq (tm_Sc_beginResolving zz) r 34 ls st h c n
theorem d_Sc_isAllDone_0 : decode c_Sc_isAllDone 0 = .ok (.aload_n 0, 1) := by decide +kernel
theorem d_Sc_isAllDone_1 : decode c_Sc_isAllDone 1 = .ok (.getfield 22, 3) := by decide +kernel
theorem d_Sc_isAllDone_4 : decode c_Sc_isAllDone 4 = .ok (.aload_n 0, 1) := by decide +kernel
theorem d_Sc_isAllDone_5 : decode c_Sc_isAllDone 5 = .ok (.aload_n 0, 1) := by decide +kernel
theorem d_Sc_isAllDone_6 : decode c_Sc_isAllDone 6 = .ok (.getfield 18, 3) := by decide +kernel
theorem d_Sc_isAllDone_9 : decode c_Sc_isAllDone 9 = .ok (.invokevirtual 51, 3) := by decide +kernel
theorem d_Sc_isAllDone_12 : decode c_Sc_isAllDone 12 = .ok (.if_icmp .lt 7, 3) := by decide +kernel
theorem d_Sc_isAllDone_15 : decode c_Sc_isAllDone 15 = .ok (.iconst 1, 1) := by decide +kernel
theorem d_Sc_isAllDone_16 : decode c_Sc_isAllDone 16 = .ok (.goto 4, 3) := by decide +kernel
theorem d_Sc_isAllDone_19 : decode c_Sc_isAllDone 19 = .ok (.iconst 0, 1) := by decide +kernel
theorem d_Sc_isAllDone_20 : decode c_Sc_isAllDone 20 = .ok (.ireturn, 1) := by decide +kernel
def t_Sc_isAllDone (zz : Nat × Nat) : List (Nat × mx_O) := [(0, o_aload 1 0),
  (1, o_get 7 2),
  (4, o_aload 1 0),
  (5, o_aload 1 0),
  (6, o_get 7 1),
  (9, o_call 0 0 2 0 0 (mx_rv 7) (S_Sc_sizeOf zz)),
  (12, o_icmp 19 (fun x y => x < y)),
  (15, o_push 1 (.int 1)),
  (16, o_goto 20),
  (19, o_push 1 (.int 0)),
  (20, o_zret)]
set_option maxRecDepth 100000 in
theorem tm_Sc_isAllDone (zz : Nat × Nat) : mx_All (fun _ o => mx_Mono o) (t_Sc_isAllDone zz) := by
  refine mx_all_cons (mo_st) ?_
  refine mx_all_cons (mo_st) ?_
  refine mx_all_cons (mo_st) ?_
  refine mx_all_cons (mo_st) ?_
  refine mx_all_cons (mo_st) ?_
  refine mx_all_cons (mo_call (sm_Sc_sizeOf zz)) ?_
  refine mx_all_cons (mo_br) ?_
  refine mx_all_cons (mo_st) ?_
  refine mx_all_cons (mo_st) ?_
  refine mx_all_cons (mo_st) ?_
  refine mx_all_cons (mo_zret) ?_
  exact mx_all_nil
def S_Sc_isAllDone (zz : Nat × Nat) : mx_Sp := mx_S 1 0 0 (t_Sc_isAllDone zz)
theorem sm_Sc_isAllDone (zz : Nat × Nat) : mx_SMono (S_Sc_isAllDone zz) := mx_S_mono (tm_Sc_isAllDone zz)
abbrev rm_Sc_isAllDone : Room := { frames := 2, cells := 0, slots := 0, locals := 41 }
set_option maxHeartbeats 4000000 in
set_option maxRecDepth 100000 in
theorem m_Sc_isAllDone (l : Launch) (zz : Nat × Nat) : mx_Met l y_Sc_isAllDone (wsOf y_Sc_isAllDone c_Sc_isAllDone 1 (some .boolean)) rm_Sc_isAllDone wcl (mx_Z zz) 0 0 (S_Sc_isAllDone zz) := by
  refine mx_met (cc := c_Sc_isAllDone) (ret := (some .boolean)) (by decide) rfl ?_
  intro p e s m args below meth c D A Post X hz hr hlk hnm
  have hm : ∀ w ∈ mw, w.before args s = true := fun w h => X.1.2.2.2.2 w (List.mem_cons_of_mem _ h)
  refine mx_all_cons (ok_aload (fun hl kk => lv_aload_n X.1.1 X.1.2.1 d_Sc_isAllDone_0 rfl hl kk) (fun hl kk => lv_aload_nN X.1.1 X.1.2.1 d_Sc_isAllDone_0 rfl hl kk)) ?_
  refine mx_all_cons (ok_get (C := "HeaderSchedule$Schedule") (T := T_Sc) (N := 8) X (mw_up in_Sc) rfl 2 (by decide) (hm _ w111) (fun _ h9 => h9) d_Sc_isAllDone_1) ?_
  refine mx_all_cons (ok_aload (fun hl kk => lv_aload_n X.1.1 X.1.2.1 d_Sc_isAllDone_4 rfl hl kk) (fun hl kk => lv_aload_nN X.1.1 X.1.2.1 d_Sc_isAllDone_4 rfl hl kk)) ?_
  refine mx_all_cons (ok_aload (fun hl kk => lv_aload_n X.1.1 X.1.2.1 d_Sc_isAllDone_5 rfl hl kk) (fun hl kk => lv_aload_nN X.1.1 X.1.2.1 d_Sc_isAllDone_5 rfl hl kk)) ?_
  refine mx_all_cons (ok_get (C := "HeaderSchedule$Schedule") (T := T_Sc) (N := 8) X (mw_up in_Sc) rfl 1 (by decide) (hm _ w110) (fun _ h9 => h9) d_Sc_isAllDone_6) ?_
  refine mx_all_cons (ok_callV (C := "HeaderSchedule$Schedule") (T := T_Sc) (N := 8) X (mx_Zok_Z zz) hz ⟨(Nat.le_of_ble_eq_true rfl), (Nat.le_of_ble_eq_true rfl)⟩ (m_Sc_sizeOf l zz) ⟨mx_cwB 1 hm w454 w553 w37 rfl rfl (by decide +kernel) ⟨(Nat.le_of_ble_eq_true rfl), (Nat.le_of_ble_eq_true rfl)⟩, (hm _ w452), hm _ w453⟩ rfl d_Sc_isAllDone_9) ?_
  refine mx_all_cons (ok_icmp (fun kt kf => lv_icmp_lt X.1.1 X.1.2.1 d_Sc_isAllDone_12 (by decide) kt kf)) ?_
  refine mx_all_cons (ok_push (fun kk => lv_iconst X.1.1 X.1.2.1 d_Sc_isAllDone_15 (by decide) kk)) ?_
  refine mx_all_cons (ok_goto X d_Sc_isAllDone_16 (by decide)) ?_
  refine mx_all_cons (ok_push (fun kk => lv_iconst X.1.1 X.1.2.1 d_Sc_isAllDone_19 (by decide) kk)) ?_
  refine mx_all_cons (ok_zret X hr hlk d_Sc_isAllDone_20) ?_
  exact mx_all_nil
theorem st_Sc_isAllDone_0 (zz : Nat × Nat) (r : mx_T) (ls : mx_L) (st : List Value) (h : mx_H) (c n : Nat) : mx_G r (t_Sc_isAllDone zz) 0 ls st h c n = (o_aload 1 0) r (mx_G r (t_Sc_isAllDone zz)) 0 ls st h c n := mx_G_eq (tm_Sc_isAllDone zz) r 0 ls st h c n
theorem st_Sc_isAllDone_1 (zz : Nat × Nat) (r : mx_T) (ls : mx_L) (st : List Value) (h : mx_H) (c n : Nat) : mx_G r (t_Sc_isAllDone zz) 1 ls st h c n = (o_get 7 2) r (mx_G r (t_Sc_isAllDone zz)) 1 ls st h c n := mx_G_eq (tm_Sc_isAllDone zz) r 1 ls st h c n
theorem st_Sc_isAllDone_4 (zz : Nat × Nat) (r : mx_T) (ls : mx_L) (st : List Value) (h : mx_H) (c n : Nat) : mx_G r (t_Sc_isAllDone zz) 4 ls st h c n = (o_aload 1 0) r (mx_G r (t_Sc_isAllDone zz)) 4 ls st h c n := mx_G_eq (tm_Sc_isAllDone zz) r 4 ls st h c n
theorem st_Sc_isAllDone_5 (zz : Nat × Nat) (r : mx_T) (ls : mx_L) (st : List Value) (h : mx_H) (c n : Nat) : mx_G r (t_Sc_isAllDone zz) 5 ls st h c n = (o_aload 1 0) r (mx_G r (t_Sc_isAllDone zz)) 5 ls st h c n := mx_G_eq (tm_Sc_isAllDone zz) r 5 ls st h c n
theorem st_Sc_isAllDone_6 (zz : Nat × Nat) (r : mx_T) (ls : mx_L) (st : List Value) (h : mx_H) (c n : Nat) : mx_G r (t_Sc_isAllDone zz) 6 ls st h c n = (o_get 7 1) r (mx_G r (t_Sc_isAllDone zz)) 6 ls st h c n := mx_G_eq (tm_Sc_isAllDone zz) r 6 ls st h c n
theorem st_Sc_isAllDone_9 (zz : Nat × Nat) (r : mx_T) (ls : mx_L) (st : List Value) (h : mx_H) (c n : Nat) : mx_G r (t_Sc_isAllDone zz) 9 ls st h c n = (o_call 0 0 2 0 0 (mx_rv 7) (S_Sc_sizeOf zz)) r (mx_G r (t_Sc_isAllDone zz)) 9 ls st h c n := mx_G_eq (tm_Sc_isAllDone zz) r 9 ls st h c n
theorem st_Sc_isAllDone_12 (zz : Nat × Nat) (r : mx_T) (ls : mx_L) (st : List Value) (h : mx_H) (c n : Nat) : mx_G r (t_Sc_isAllDone zz) 12 ls st h c n = (o_icmp 19 (fun x y => x < y)) r (mx_G r (t_Sc_isAllDone zz)) 12 ls st h c n := mx_G_eq (tm_Sc_isAllDone zz) r 12 ls st h c n
theorem st_Sc_isAllDone_15 (zz : Nat × Nat) (r : mx_T) (ls : mx_L) (st : List Value) (h : mx_H) (c n : Nat) : mx_G r (t_Sc_isAllDone zz) 15 ls st h c n = (o_push 1 (.int 1)) r (mx_G r (t_Sc_isAllDone zz)) 15 ls st h c n := mx_G_eq (tm_Sc_isAllDone zz) r 15 ls st h c n
theorem st_Sc_isAllDone_16 (zz : Nat × Nat) (r : mx_T) (ls : mx_L) (st : List Value) (h : mx_H) (c n : Nat) : mx_G r (t_Sc_isAllDone zz) 16 ls st h c n = (o_goto 20) r (mx_G r (t_Sc_isAllDone zz)) 16 ls st h c n := mx_G_eq (tm_Sc_isAllDone zz) r 16 ls st h c n
theorem st_Sc_isAllDone_19 (zz : Nat × Nat) (r : mx_T) (ls : mx_L) (st : List Value) (h : mx_H) (c n : Nat) : mx_G r (t_Sc_isAllDone zz) 19 ls st h c n = (o_push 1 (.int 0)) r (mx_G r (t_Sc_isAllDone zz)) 19 ls st h c n := mx_G_eq (tm_Sc_isAllDone zz) r 19 ls st h c n
theorem st_Sc_isAllDone_20 (zz : Nat × Nat) (r : mx_T) (ls : mx_L) (st : List Value) (h : mx_H) (c n : Nat) : mx_G r (t_Sc_isAllDone zz) 20 ls st h c n = (o_zret) r (mx_G r (t_Sc_isAllDone zz)) 20 ls st h c n := mx_G_eq (tm_Sc_isAllDone zz) r 20 ls st h c n
theorem d_Sc_endResolving_0 : decode c_Sc_endResolving 0 = .ok (.aload_n 0, 1) := by decide +kernel
theorem d_Sc_endResolving_1 : decode c_Sc_endResolving 1 = .ok (.aload_n 0, 1) := by decide +kernel
theorem d_Sc_endResolving_2 : decode c_Sc_endResolving 2 = .ok (.getfield 29, 3) := by decide +kernel
theorem d_Sc_endResolving_5 : decode c_Sc_endResolving 5 = .ok (.putfield 18, 3) := by decide +kernel
theorem d_Sc_endResolving_8 : decode c_Sc_endResolving 8 = .ok (.aload_n 0, 1) := by decide +kernel
theorem d_Sc_endResolving_9 : decode c_Sc_endResolving 9 = .ok (.aload_n 0, 1) := by decide +kernel
theorem d_Sc_endResolving_10 : decode c_Sc_endResolving 10 = .ok (.getfield 32, 3) := by decide +kernel
theorem d_Sc_endResolving_13 : decode c_Sc_endResolving 13 = .ok (.putfield 22, 3) := by decide +kernel
theorem d_Sc_endResolving_16 : decode c_Sc_endResolving 16 = .ok (.aload_n 0, 1) := by decide +kernel
theorem d_Sc_endResolving_17 : decode c_Sc_endResolving 17 = .ok (.iconst 0, 1) := by decide +kernel
theorem d_Sc_endResolving_18 : decode c_Sc_endResolving 18 = .ok (.putfield 25, 3) := by decide +kernel
theorem d_Sc_endResolving_21 : decode c_Sc_endResolving 21 = .ok (.return_, 1) := by decide +kernel
def t_Sc_endResolving (zz : Nat × Nat) : List (Nat × mx_O) := [(0, o_aload 1 0),
  (1, o_aload 1 0),
  (2, o_get 7 4),
  (5, o_put 7 1 mx_vI),
  (8, o_aload 1 0),
  (9, o_aload 1 0),
  (10, o_get 7 5),
  (13, o_put 7 2 mx_vI),
  (16, o_aload 1 0),
  (17, o_push 1 (.int 0)),
  (18, o_put 7 3 mx_vZ),
  (21, o_vret)]
set_option maxRecDepth 100000 in
theorem tm_Sc_endResolving (zz : Nat × Nat) : mx_All (fun _ o => mx_Mono o) (t_Sc_endResolving zz) := by
  refine mx_all_cons (mo_st) ?_
  refine mx_all_cons (mo_st) ?_
  refine mx_all_cons (mo_st) ?_
  refine mx_all_cons (mo_sc) ?_
  refine mx_all_cons (mo_st) ?_
  refine mx_all_cons (mo_st) ?_
  refine mx_all_cons (mo_st) ?_
  refine mx_all_cons (mo_sc) ?_
  refine mx_all_cons (mo_st) ?_
  refine mx_all_cons (mo_st) ?_
  refine mx_all_cons (mo_sc) ?_
  refine mx_all_cons (mo_ret) ?_
  exact mx_all_nil
def S_Sc_endResolving (zz : Nat × Nat) : mx_Sp := mx_S 1 0 0 (t_Sc_endResolving zz)
theorem sm_Sc_endResolving (zz : Nat × Nat) : mx_SMono (S_Sc_endResolving zz) := mx_S_mono (tm_Sc_endResolving zz)
abbrev rm_Sc_endResolving : Room := { frames := 0, cells := 0, slots := 0, locals := 0 }
set_option maxHeartbeats 4000000 in
set_option maxRecDepth 100000 in
theorem m_Sc_endResolving (l : Launch) (zz : Nat × Nat) : mx_Met l y_Sc_endResolving (wsOf y_Sc_endResolving c_Sc_endResolving 1 none) rm_Sc_endResolving wcl (mx_Z zz) 0 0 (S_Sc_endResolving zz) := by
  refine mx_met (cc := c_Sc_endResolving) (ret := none) (by decide) rfl ?_
  intro p e s m args below meth c D A Post X hz hr hlk hnm
  have hm : ∀ w ∈ mw, w.before args s = true := fun w h => X.1.2.2.2.2 w (List.mem_cons_of_mem _ h)
  refine mx_all_cons (ok_aload (fun hl kk => lv_aload_n X.1.1 X.1.2.1 d_Sc_endResolving_0 rfl hl kk) (fun hl kk => lv_aload_nN X.1.1 X.1.2.1 d_Sc_endResolving_0 rfl hl kk)) ?_
  refine mx_all_cons (ok_aload (fun hl kk => lv_aload_n X.1.1 X.1.2.1 d_Sc_endResolving_1 rfl hl kk) (fun hl kk => lv_aload_nN X.1.1 X.1.2.1 d_Sc_endResolving_1 rfl hl kk)) ?_
  refine mx_all_cons (ok_get (C := "HeaderSchedule$Schedule") (T := T_Sc) (N := 8) X (mw_up in_Sc) rfl 4 (by decide) (hm _ w113) (fun _ h9 => h9) d_Sc_endResolving_2) ?_
  refine mx_all_cons (ok_put (C := "HeaderSchedule$Schedule") (T := T_Sc) (N := 8) X (mw_up in_Sc) ty_Sc tyok_Sc nm_Sc rfl 1 (by decide) (hm _ w110) (fun _ h9 => h9) rfl (tyok_Sc 1 (by decide)) mx_vI_ok d_Sc_endResolving_5) ?_
  refine mx_all_cons (ok_aload (fun hl kk => lv_aload_n X.1.1 X.1.2.1 d_Sc_endResolving_8 rfl hl kk) (fun hl kk => lv_aload_nN X.1.1 X.1.2.1 d_Sc_endResolving_8 rfl hl kk)) ?_
  refine mx_all_cons (ok_aload (fun hl kk => lv_aload_n X.1.1 X.1.2.1 d_Sc_endResolving_9 rfl hl kk) (fun hl kk => lv_aload_nN X.1.1 X.1.2.1 d_Sc_endResolving_9 rfl hl kk)) ?_
  refine mx_all_cons (ok_get (C := "HeaderSchedule$Schedule") (T := T_Sc) (N := 8) X (mw_up in_Sc) rfl 5 (by decide) (hm _ w114) (fun _ h9 => h9) d_Sc_endResolving_10) ?_
  refine mx_all_cons (ok_put (C := "HeaderSchedule$Schedule") (T := T_Sc) (N := 8) X (mw_up in_Sc) ty_Sc tyok_Sc nm_Sc rfl 2 (by decide) (hm _ w111) (fun _ h9 => h9) rfl (tyok_Sc 2 (by decide)) mx_vI_ok d_Sc_endResolving_13) ?_
  refine mx_all_cons (ok_aload (fun hl kk => lv_aload_n X.1.1 X.1.2.1 d_Sc_endResolving_16 rfl hl kk) (fun hl kk => lv_aload_nN X.1.1 X.1.2.1 d_Sc_endResolving_16 rfl hl kk)) ?_
  refine mx_all_cons (ok_push (fun kk => lv_iconst X.1.1 X.1.2.1 d_Sc_endResolving_17 (by decide) kk)) ?_
  refine mx_all_cons (ok_put (C := "HeaderSchedule$Schedule") (T := T_Sc) (N := 8) X (mw_up in_Sc) ty_Sc tyok_Sc nm_Sc rfl 3 (by decide) (hm _ w112) (fun _ h9 => h9) rfl (tyok_Sc 3 (by decide)) mx_vZ_ok d_Sc_endResolving_18) ?_
  refine mx_all_cons (ok_vret X hr hlk d_Sc_endResolving_21) ?_
  exact mx_all_nil
theorem st_Sc_endResolving_0 (zz : Nat × Nat) (r : mx_T) (ls : mx_L) (st : List Value) (h : mx_H) (c n : Nat) : mx_G r (t_Sc_endResolving zz) 0 ls st h c n = (o_aload 1 0) r (mx_G r (t_Sc_endResolving zz)) 0 ls st h c n := mx_G_eq (tm_Sc_endResolving zz) r 0 ls st h c n
theorem st_Sc_endResolving_1 (zz : Nat × Nat) (r : mx_T) (ls : mx_L) (st : List Value) (h : mx_H) (c n : Nat) : mx_G r (t_Sc_endResolving zz) 1 ls st h c n = (o_aload 1 0) r (mx_G r (t_Sc_endResolving zz)) 1 ls st h c n := mx_G_eq (tm_Sc_endResolving zz) r 1 ls st h c n
theorem st_Sc_endResolving_2 (zz : Nat × Nat) (r : mx_T) (ls : mx_L) (st : List Value) (h : mx_H) (c n : Nat) : mx_G r (t_Sc_endResolving zz) 2 ls st h c n = (o_get 7 4) r (mx_G r (t_Sc_endResolving zz)) 2 ls st h c n := mx_G_eq (tm_Sc_endResolving zz) r 2 ls st h c n
theorem st_Sc_endResolving_5 (zz : Nat × Nat) (r : mx_T) (ls : mx_L) (st : List Value) (h : mx_H) (c n : Nat) : mx_G r (t_Sc_endResolving zz) 5 ls st h c n = (o_put 7 1 mx_vI) r (mx_G r (t_Sc_endResolving zz)) 5 ls st h c n := mx_G_eq (tm_Sc_endResolving zz) r 5 ls st h c n
theorem st_Sc_endResolving_8 (zz : Nat × Nat) (r : mx_T) (ls : mx_L) (st : List Value) (h : mx_H) (c n : Nat) : mx_G r (t_Sc_endResolving zz) 8 ls st h c n = (o_aload 1 0) r (mx_G r (t_Sc_endResolving zz)) 8 ls st h c n := mx_G_eq (tm_Sc_endResolving zz) r 8 ls st h c n
theorem st_Sc_endResolving_9 (zz : Nat × Nat) (r : mx_T) (ls : mx_L) (st : List Value) (h : mx_H) (c n : Nat) : mx_G r (t_Sc_endResolving zz) 9 ls st h c n = (o_aload 1 0) r (mx_G r (t_Sc_endResolving zz)) 9 ls st h c n := mx_G_eq (tm_Sc_endResolving zz) r 9 ls st h c n
theorem st_Sc_endResolving_10 (zz : Nat × Nat) (r : mx_T) (ls : mx_L) (st : List Value) (h : mx_H) (c n : Nat) : mx_G r (t_Sc_endResolving zz) 10 ls st h c n = (o_get 7 5) r (mx_G r (t_Sc_endResolving zz)) 10 ls st h c n := mx_G_eq (tm_Sc_endResolving zz) r 10 ls st h c n
theorem st_Sc_endResolving_13 (zz : Nat × Nat) (r : mx_T) (ls : mx_L) (st : List Value) (h : mx_H) (c n : Nat) : mx_G r (t_Sc_endResolving zz) 13 ls st h c n = (o_put 7 2 mx_vI) r (mx_G r (t_Sc_endResolving zz)) 13 ls st h c n := mx_G_eq (tm_Sc_endResolving zz) r 13 ls st h c n
theorem st_Sc_endResolving_16 (zz : Nat × Nat) (r : mx_T) (ls : mx_L) (st : List Value) (h : mx_H) (c n : Nat) : mx_G r (t_Sc_endResolving zz) 16 ls st h c n = (o_aload 1 0) r (mx_G r (t_Sc_endResolving zz)) 16 ls st h c n := mx_G_eq (tm_Sc_endResolving zz) r 16 ls st h c n
theorem st_Sc_endResolving_17 (zz : Nat × Nat) (r : mx_T) (ls : mx_L) (st : List Value) (h : mx_H) (c n : Nat) : mx_G r (t_Sc_endResolving zz) 17 ls st h c n = (o_push 1 (.int 0)) r (mx_G r (t_Sc_endResolving zz)) 17 ls st h c n := mx_G_eq (tm_Sc_endResolving zz) r 17 ls st h c n
theorem st_Sc_endResolving_18 (zz : Nat × Nat) (r : mx_T) (ls : mx_L) (st : List Value) (h : mx_H) (c n : Nat) : mx_G r (t_Sc_endResolving zz) 18 ls st h c n = (o_put 7 3 mx_vZ) r (mx_G r (t_Sc_endResolving zz)) 18 ls st h c n := mx_G_eq (tm_Sc_endResolving zz) r 18 ls st h c n
theorem st_Sc_endResolving_21 (zz : Nat × Nat) (r : mx_T) (ls : mx_L) (st : List Value) (h : mx_H) (c n : Nat) : mx_G r (t_Sc_endResolving zz) 21 ls st h c n = (o_vret) r (mx_G r (t_Sc_endResolving zz)) 21 ls st h c n := mx_G_eq (tm_Sc_endResolving zz) r 21 ls st h c n
theorem d_Sc_passBoundary_0 : decode c_Sc_passBoundary 0 = .ok (.aload_n 0, 1) := by decide +kernel
theorem d_Sc_passBoundary_1 : decode c_Sc_passBoundary 1 = .ok (.getfield 38, 3) := by decide +kernel
theorem d_Sc_passBoundary_4 : decode c_Sc_passBoundary 4 = .ok (.iconst (-1), 1) := by decide +kernel
theorem d_Sc_passBoundary_5 : decode c_Sc_passBoundary 5 = .ok (.if_icmp .eq 10, 3) := by decide +kernel
theorem d_Sc_passBoundary_8 : decode c_Sc_passBoundary 8 = .ok (.aload_n 0, 1) := by decide +kernel
theorem d_Sc_passBoundary_9 : decode c_Sc_passBoundary 9 = .ok (.invokevirtual 55, 3) := by decide +kernel
theorem d_Sc_passBoundary_12 : decode c_Sc_passBoundary 12 = .ok (.goto 21, 3) := by decide +kernel
theorem d_Sc_passBoundary_15 : decode c_Sc_passBoundary 15 = .ok (.aload_n 0, 1) := by decide +kernel
theorem d_Sc_passBoundary_16 : decode c_Sc_passBoundary 16 = .ok (.getfield 25, 3) := by decide +kernel
theorem d_Sc_passBoundary_19 : decode c_Sc_passBoundary 19 = .ok (.ifCond .eq 14, 3) := by decide +kernel
theorem d_Sc_passBoundary_22 : decode c_Sc_passBoundary 22 = .ok (.aload_n 0, 1) := by decide +kernel
theorem d_Sc_passBoundary_23 : decode c_Sc_passBoundary 23 = .ok (.invokevirtual 58, 3) := by decide +kernel
theorem d_Sc_passBoundary_26 : decode c_Sc_passBoundary 26 = .ok (.ifCond .eq 7, 3) := by decide +kernel
theorem d_Sc_passBoundary_29 : decode c_Sc_passBoundary 29 = .ok (.aload_n 0, 1) := by decide +kernel
theorem d_Sc_passBoundary_30 : decode c_Sc_passBoundary 30 = .ok (.invokevirtual 62, 3) := by decide +kernel
theorem d_Sc_passBoundary_33 : decode c_Sc_passBoundary 33 = .ok (.aload_n 0, 1) := by decide +kernel
theorem d_Sc_passBoundary_34 : decode c_Sc_passBoundary 34 = .ok (.getfield 25, 3) := by decide +kernel
theorem d_Sc_passBoundary_37 : decode c_Sc_passBoundary 37 = .ok (.ifCond .ne 24, 3) := by decide +kernel
theorem d_Sc_passBoundary_40 : decode c_Sc_passBoundary 40 = .ok (.aload_n 0, 1) := by decide +kernel
theorem d_Sc_passBoundary_41 : decode c_Sc_passBoundary 41 = .ok (.getfield 35, 3) := by decide +kernel
theorem d_Sc_passBoundary_44 : decode c_Sc_passBoundary 44 = .ok (.iconst (-1), 1) := by decide +kernel
theorem d_Sc_passBoundary_45 : decode c_Sc_passBoundary 45 = .ok (.if_icmp .eq 16, 3) := by decide +kernel
theorem d_Sc_passBoundary_48 : decode c_Sc_passBoundary 48 = .ok (.aload_n 0, 1) := by decide +kernel
theorem d_Sc_passBoundary_49 : decode c_Sc_passBoundary 49 = .ok (.aload_n 0, 1) := by decide +kernel
theorem d_Sc_passBoundary_50 : decode c_Sc_passBoundary 50 = .ok (.getfield 35, 3) := by decide +kernel
theorem d_Sc_passBoundary_53 : decode c_Sc_passBoundary 53 = .ok (.invokevirtual 65, 3) := by decide +kernel
theorem d_Sc_passBoundary_56 : decode c_Sc_passBoundary 56 = .ok (.aload_n 0, 1) := by decide +kernel
theorem d_Sc_passBoundary_57 : decode c_Sc_passBoundary 57 = .ok (.iconst (-1), 1) := by decide +kernel
theorem d_Sc_passBoundary_58 : decode c_Sc_passBoundary 58 = .ok (.putfield 35, 3) := by decide +kernel
theorem d_Sc_passBoundary_61 : decode c_Sc_passBoundary 61 = .ok (.aload_n 0, 1) := by decide +kernel
theorem d_Sc_passBoundary_62 : decode c_Sc_passBoundary 62 = .ok (.invokevirtual 58, 3) := by decide +kernel
theorem d_Sc_passBoundary_65 : decode c_Sc_passBoundary 65 = .ok (.ifCond .eq 8, 3) := by decide +kernel
theorem d_Sc_passBoundary_68 : decode c_Sc_passBoundary 68 = .ok (.aload_n 0, 1) := by decide +kernel
theorem d_Sc_passBoundary_69 : decode c_Sc_passBoundary 69 = .ok (.iconst 0, 1) := by decide +kernel
theorem d_Sc_passBoundary_70 : decode c_Sc_passBoundary 70 = .ok (.putfield 22, 3) := by decide +kernel
theorem d_Sc_passBoundary_73 : decode c_Sc_passBoundary 73 = .ok (.return_, 1) := by decide +kernel
def t_Sc_passBoundary (zz : Nat × Nat) : List (Nat × mx_O) := [(0, o_aload 1 0),
  (1, o_get 7 7),
  (4, o_push 1 (.int (-1))),
  (5, o_icmp 15 (fun x y => x = y)),
  (8, o_aload 1 0),
  (9, o_call 0 0 1 0 0 (mx_rv 7) (S_Sc_beginResolving zz)),
  (12, o_goto 33),
  (15, o_aload 1 0),
  (16, o_get 7 3),
  (19, o_if 33 (fun x => x = 0)),
  (22, o_aload 1 0),
  (23, o_call 0 0 1 0 0 (mx_rv 7) (S_Sc_isAllDone zz)),
  (26, o_if 33 (fun x => x = 0)),
  (29, o_aload 1 0),
  (30, o_call 0 0 1 0 0 (mx_rv 7) (S_Sc_endResolving zz)),
  (33, o_aload 1 0),
  (34, o_get 7 3),
  (37, o_if 61 (fun x => ¬ x = 0)),
  (40, o_aload 1 0),
  (41, o_get 7 6),
  (44, o_push 1 (.int (-1))),
  (45, o_icmp 61 (fun x y => x = y)),
  (48, o_aload 1 0),
  (49, o_aload 1 0),
  (50, o_get 7 6),
  (53, o_call 0 0 2 0 0 (mx_rv 7) (S_Sc_begin zz)),
  (56, o_aload 1 0),
  (57, o_push 1 (.int (-1))),
  (58, o_put 7 6 mx_vI),
  (61, o_aload 1 0),
  (62, o_call 0 0 1 0 0 (mx_rv 7) (S_Sc_isAllDone zz)),
  (65, o_if 73 (fun x => x = 0)),
  (68, o_aload 1 0),
  (69, o_push 1 (.int 0)),
  (70, o_put 7 2 mx_vI),
  (73, o_vret)]
set_option maxRecDepth 100000 in
theorem tm_Sc_passBoundary (zz : Nat × Nat) : mx_All (fun _ o => mx_Mono o) (t_Sc_passBoundary zz) := by
  refine mx_all_cons (mo_st) ?_
  refine mx_all_cons (mo_st) ?_
  refine mx_all_cons (mo_st) ?_
  refine mx_all_cons (mo_br) ?_
  refine mx_all_cons (mo_st) ?_
  refine mx_all_cons (mo_call (sm_Sc_beginResolving zz)) ?_
  refine mx_all_cons (mo_st) ?_
  refine mx_all_cons (mo_st) ?_
  refine mx_all_cons (mo_st) ?_
  refine mx_all_cons (mo_br) ?_
  refine mx_all_cons (mo_st) ?_
  refine mx_all_cons (mo_call (sm_Sc_isAllDone zz)) ?_
  refine mx_all_cons (mo_br) ?_
  refine mx_all_cons (mo_st) ?_
  refine mx_all_cons (mo_call (sm_Sc_endResolving zz)) ?_
  refine mx_all_cons (mo_st) ?_
  refine mx_all_cons (mo_st) ?_
  refine mx_all_cons (mo_br) ?_
  refine mx_all_cons (mo_st) ?_
  refine mx_all_cons (mo_st) ?_
  refine mx_all_cons (mo_st) ?_
  refine mx_all_cons (mo_br) ?_
  refine mx_all_cons (mo_st) ?_
  refine mx_all_cons (mo_st) ?_
  refine mx_all_cons (mo_st) ?_
  refine mx_all_cons (mo_call (sm_Sc_begin zz)) ?_
  refine mx_all_cons (mo_st) ?_
  refine mx_all_cons (mo_st) ?_
  refine mx_all_cons (mo_sc) ?_
  refine mx_all_cons (mo_st) ?_
  refine mx_all_cons (mo_call (sm_Sc_isAllDone zz)) ?_
  refine mx_all_cons (mo_br) ?_
  refine mx_all_cons (mo_st) ?_
  refine mx_all_cons (mo_st) ?_
  refine mx_all_cons (mo_sc) ?_
  refine mx_all_cons (mo_ret) ?_
  exact mx_all_nil
def S_Sc_passBoundary (zz : Nat × Nat) : mx_Sp := mx_S 1 0 0 (t_Sc_passBoundary zz)
theorem sm_Sc_passBoundary (zz : Nat × Nat) : mx_SMono (S_Sc_passBoundary zz) := mx_S_mono (tm_Sc_passBoundary zz)
abbrev rm_Sc_passBoundary : Room := { frames := 3, cells := 0, slots := 0, locals := 61 }
set_option maxHeartbeats 4000000 in
set_option maxRecDepth 100000 in
theorem m_Sc_passBoundary (l : Launch) (zz : Nat × Nat) : mx_Met l y_Sc_passBoundary (wsOf y_Sc_passBoundary c_Sc_passBoundary 1 none) rm_Sc_passBoundary wcl (mx_Z zz) 0 0 (S_Sc_passBoundary zz) := by
  refine mx_met (cc := c_Sc_passBoundary) (ret := none) (by decide) rfl ?_
  intro p e s m args below meth c D A Post X hz hr hlk hnm
  have hm : ∀ w ∈ mw, w.before args s = true := fun w h => X.1.2.2.2.2 w (List.mem_cons_of_mem _ h)
  refine mx_all_cons (ok_aload (fun hl kk => lv_aload_n X.1.1 X.1.2.1 d_Sc_passBoundary_0 rfl hl kk) (fun hl kk => lv_aload_nN X.1.1 X.1.2.1 d_Sc_passBoundary_0 rfl hl kk)) ?_
  refine mx_all_cons (ok_get (C := "HeaderSchedule$Schedule") (T := T_Sc) (N := 8) X (mw_up in_Sc) rfl 7 (by decide) (hm _ w117) (fun _ h9 => h9) d_Sc_passBoundary_1) ?_
  refine mx_all_cons (ok_push (fun kk => lv_iconst X.1.1 X.1.2.1 d_Sc_passBoundary_4 (by decide) kk)) ?_
  refine mx_all_cons (ok_icmp (fun kt kf => lv_icmp_eq X.1.1 X.1.2.1 d_Sc_passBoundary_5 (by decide) kt kf)) ?_
  refine mx_all_cons (ok_aload (fun hl kk => lv_aload_n X.1.1 X.1.2.1 d_Sc_passBoundary_8 rfl hl kk) (fun hl kk => lv_aload_nN X.1.1 X.1.2.1 d_Sc_passBoundary_8 rfl hl kk)) ?_
  refine mx_all_cons (ok_callV (C := "HeaderSchedule$Schedule") (T := T_Sc) (N := 8) X (mx_Zok_Z zz) hz ⟨(Nat.le_of_ble_eq_true rfl), (Nat.le_of_ble_eq_true rfl)⟩ (m_Sc_beginResolving l zz) ⟨mx_cwB 0 hm w547 w544 w37 rfl rfl (by decide +kernel) ⟨(Nat.le_of_ble_eq_true rfl), (Nat.le_of_ble_eq_true rfl)⟩, (hm _ w545), hm _ w546⟩ rfl d_Sc_passBoundary_9) ?_
  refine mx_all_cons (ok_goto X d_Sc_passBoundary_12 (by decide)) ?_
  refine mx_all_cons (ok_aload (fun hl kk => lv_aload_n X.1.1 X.1.2.1 d_Sc_passBoundary_15 rfl hl kk) (fun hl kk => lv_aload_nN X.1.1 X.1.2.1 d_Sc_passBoundary_15 rfl hl kk)) ?_
  refine mx_all_cons (ok_get (C := "HeaderSchedule$Schedule") (T := T_Sc) (N := 8) X (mw_up in_Sc) rfl 3 (by decide) (hm _ w112) (fun _ h9 => h9) d_Sc_passBoundary_16) ?_
  refine mx_all_cons (ok_if (fun kt kf => lv_if_eq X.1.1 X.1.2.1 d_Sc_passBoundary_19 (by decide) kt kf)) ?_
  refine mx_all_cons (ok_aload (fun hl kk => lv_aload_n X.1.1 X.1.2.1 d_Sc_passBoundary_22 rfl hl kk) (fun hl kk => lv_aload_nN X.1.1 X.1.2.1 d_Sc_passBoundary_22 rfl hl kk)) ?_
  refine mx_all_cons (ok_callV (C := "HeaderSchedule$Schedule") (T := T_Sc) (N := 8) X (mx_Zok_Z zz) hz ⟨(Nat.le_of_ble_eq_true rfl), (Nat.le_of_ble_eq_true rfl)⟩ (m_Sc_isAllDone l zz) ⟨mx_cwB 0 hm w552 w549 w37 rfl rfl (by decide +kernel) ⟨(Nat.le_of_ble_eq_true rfl), (Nat.le_of_ble_eq_true rfl)⟩, (hm _ w550), hm _ w551⟩ rfl d_Sc_passBoundary_23) ?_
  refine mx_all_cons (ok_if (fun kt kf => lv_if_eq X.1.1 X.1.2.1 d_Sc_passBoundary_26 (by decide) kt kf)) ?_
  refine mx_all_cons (ok_aload (fun hl kk => lv_aload_n X.1.1 X.1.2.1 d_Sc_passBoundary_29 rfl hl kk) (fun hl kk => lv_aload_nN X.1.1 X.1.2.1 d_Sc_passBoundary_29 rfl hl kk)) ?_
  refine mx_all_cons (ok_callV (C := "HeaderSchedule$Schedule") (T := T_Sc) (N := 8) X (mx_Zok_Z zz) hz ⟨(Nat.le_of_ble_eq_true rfl), (Nat.le_of_ble_eq_true rfl)⟩ (m_Sc_endResolving l zz) ⟨mx_cwB 0 hm w557 w554 w37 rfl rfl (by decide +kernel) ⟨(Nat.le_of_ble_eq_true rfl), (Nat.le_of_ble_eq_true rfl)⟩, (hm _ w555), hm _ w556⟩ rfl d_Sc_passBoundary_30) ?_
  refine mx_all_cons (ok_aload (fun hl kk => lv_aload_n X.1.1 X.1.2.1 d_Sc_passBoundary_33 rfl hl kk) (fun hl kk => lv_aload_nN X.1.1 X.1.2.1 d_Sc_passBoundary_33 rfl hl kk)) ?_
  refine mx_all_cons (ok_get (C := "HeaderSchedule$Schedule") (T := T_Sc) (N := 8) X (mw_up in_Sc) rfl 3 (by decide) (hm _ w112) (fun _ h9 => h9) d_Sc_passBoundary_34) ?_
  refine mx_all_cons (ok_if (fun kt kf => lv_if_ne X.1.1 X.1.2.1 d_Sc_passBoundary_37 (by decide) kt (fun z => kf (fun g => g z)))) ?_
  refine mx_all_cons (ok_aload (fun hl kk => lv_aload_n X.1.1 X.1.2.1 d_Sc_passBoundary_40 rfl hl kk) (fun hl kk => lv_aload_nN X.1.1 X.1.2.1 d_Sc_passBoundary_40 rfl hl kk)) ?_
  refine mx_all_cons (ok_get (C := "HeaderSchedule$Schedule") (T := T_Sc) (N := 8) X (mw_up in_Sc) rfl 6 (by decide) (hm _ w115) (fun _ h9 => h9) d_Sc_passBoundary_41) ?_
  refine mx_all_cons (ok_push (fun kk => lv_iconst X.1.1 X.1.2.1 d_Sc_passBoundary_44 (by decide) kk)) ?_
  refine mx_all_cons (ok_icmp (fun kt kf => lv_icmp_eq X.1.1 X.1.2.1 d_Sc_passBoundary_45 (by decide) kt kf)) ?_
  refine mx_all_cons (ok_aload (fun hl kk => lv_aload_n X.1.1 X.1.2.1 d_Sc_passBoundary_48 rfl hl kk) (fun hl kk => lv_aload_nN X.1.1 X.1.2.1 d_Sc_passBoundary_48 rfl hl kk)) ?_
  refine mx_all_cons (ok_aload (fun hl kk => lv_aload_n X.1.1 X.1.2.1 d_Sc_passBoundary_49 rfl hl kk) (fun hl kk => lv_aload_nN X.1.1 X.1.2.1 d_Sc_passBoundary_49 rfl hl kk)) ?_
  refine mx_all_cons (ok_get (C := "HeaderSchedule$Schedule") (T := T_Sc) (N := 8) X (mw_up in_Sc) rfl 6 (by decide) (hm _ w115) (fun _ h9 => h9) d_Sc_passBoundary_50) ?_
  refine mx_all_cons (ok_callV (C := "HeaderSchedule$Schedule") (T := T_Sc) (N := 8) X (mx_Zok_Z zz) hz ⟨(Nat.le_of_ble_eq_true rfl), (Nat.le_of_ble_eq_true rfl)⟩ (m_Sc_begin l zz) ⟨mx_cwB 1 hm w507 w548 w37 rfl rfl (by decide +kernel) ⟨(Nat.le_of_ble_eq_true rfl), (Nat.le_of_ble_eq_true rfl)⟩, (hm _ w505), hm _ w506⟩ rfl d_Sc_passBoundary_53) ?_
  refine mx_all_cons (ok_aload (fun hl kk => lv_aload_n X.1.1 X.1.2.1 d_Sc_passBoundary_56 rfl hl kk) (fun hl kk => lv_aload_nN X.1.1 X.1.2.1 d_Sc_passBoundary_56 rfl hl kk)) ?_
  refine mx_all_cons (ok_push (fun kk => lv_iconst X.1.1 X.1.2.1 d_Sc_passBoundary_57 (by decide) kk)) ?_
  refine mx_all_cons (ok_put (C := "HeaderSchedule$Schedule") (T := T_Sc) (N := 8) X (mw_up in_Sc) ty_Sc tyok_Sc nm_Sc rfl 6 (by decide) (hm _ w115) (fun _ h9 => h9) rfl (tyok_Sc 6 (by decide)) mx_vI_ok d_Sc_passBoundary_58) ?_
  refine mx_all_cons (ok_aload (fun hl kk => lv_aload_n X.1.1 X.1.2.1 d_Sc_passBoundary_61 rfl hl kk) (fun hl kk => lv_aload_nN X.1.1 X.1.2.1 d_Sc_passBoundary_61 rfl hl kk)) ?_
  refine mx_all_cons (ok_callV (C := "HeaderSchedule$Schedule") (T := T_Sc) (N := 8) X (mx_Zok_Z zz) hz ⟨(Nat.le_of_ble_eq_true rfl), (Nat.le_of_ble_eq_true rfl)⟩ (m_Sc_isAllDone l zz) ⟨mx_cwB 0 hm w552 w549 w37 rfl rfl (by decide +kernel) ⟨(Nat.le_of_ble_eq_true rfl), (Nat.le_of_ble_eq_true rfl)⟩, (hm _ w550), hm _ w551⟩ rfl d_Sc_passBoundary_62) ?_
  refine mx_all_cons (ok_if (fun kt kf => lv_if_eq X.1.1 X.1.2.1 d_Sc_passBoundary_65 (by decide) kt kf)) ?_
  refine mx_all_cons (ok_aload (fun hl kk => lv_aload_n X.1.1 X.1.2.1 d_Sc_passBoundary_68 rfl hl kk) (fun hl kk => lv_aload_nN X.1.1 X.1.2.1 d_Sc_passBoundary_68 rfl hl kk)) ?_
  refine mx_all_cons (ok_push (fun kk => lv_iconst X.1.1 X.1.2.1 d_Sc_passBoundary_69 (by decide) kk)) ?_
  refine mx_all_cons (ok_put (C := "HeaderSchedule$Schedule") (T := T_Sc) (N := 8) X (mw_up in_Sc) ty_Sc tyok_Sc nm_Sc rfl 2 (by decide) (hm _ w111) (fun _ h9 => h9) rfl (tyok_Sc 2 (by decide)) mx_vI_ok d_Sc_passBoundary_70) ?_
  refine mx_all_cons (ok_vret X hr hlk d_Sc_passBoundary_73) ?_
  exact mx_all_nil
theorem st_Sc_passBoundary_0 (zz : Nat × Nat) (r : mx_T) (ls : mx_L) (st : List Value) (h : mx_H) (c n : Nat) : mx_G r (t_Sc_passBoundary zz) 0 ls st h c n = (o_aload 1 0) r (mx_G r (t_Sc_passBoundary zz)) 0 ls st h c n := mx_G_eq (tm_Sc_passBoundary zz) r 0 ls st h c n
theorem st_Sc_passBoundary_1 (zz : Nat × Nat) (r : mx_T) (ls : mx_L) (st : List Value) (h : mx_H) (c n : Nat) : mx_G r (t_Sc_passBoundary zz) 1 ls st h c n = (o_get 7 7) r (mx_G r (t_Sc_passBoundary zz)) 1 ls st h c n := mx_G_eq (tm_Sc_passBoundary zz) r 1 ls st h c n
theorem st_Sc_passBoundary_4 (zz : Nat × Nat) (r : mx_T) (ls : mx_L) (st : List Value) (h : mx_H) (c n : Nat) : mx_G r (t_Sc_passBoundary zz) 4 ls st h c n = (o_push 1 (.int (-1))) r (mx_G r (t_Sc_passBoundary zz)) 4 ls st h c n := mx_G_eq (tm_Sc_passBoundary zz) r 4 ls st h c n
theorem st_Sc_passBoundary_5 (zz : Nat × Nat) (r : mx_T) (ls : mx_L) (st : List Value) (h : mx_H) (c n : Nat) : mx_G r (t_Sc_passBoundary zz) 5 ls st h c n = (o_icmp 15 (fun x y => x = y)) r (mx_G r (t_Sc_passBoundary zz)) 5 ls st h c n := mx_G_eq (tm_Sc_passBoundary zz) r 5 ls st h c n
theorem st_Sc_passBoundary_8 (zz : Nat × Nat) (r : mx_T) (ls : mx_L) (st : List Value) (h : mx_H) (c n : Nat) : mx_G r (t_Sc_passBoundary zz) 8 ls st h c n = (o_aload 1 0) r (mx_G r (t_Sc_passBoundary zz)) 8 ls st h c n := mx_G_eq (tm_Sc_passBoundary zz) r 8 ls st h c n
theorem st_Sc_passBoundary_9 (zz : Nat × Nat) (r : mx_T) (ls : mx_L) (st : List Value) (h : mx_H) (c n : Nat) : mx_G r (t_Sc_passBoundary zz) 9 ls st h c n = (o_call 0 0 1 0 0 (mx_rv 7) (S_Sc_beginResolving zz)) r (mx_G r (t_Sc_passBoundary zz)) 9 ls st h c n := mx_G_eq (tm_Sc_passBoundary zz) r 9 ls st h c n
theorem st_Sc_passBoundary_12 (zz : Nat × Nat) (r : mx_T) (ls : mx_L) (st : List Value) (h : mx_H) (c n : Nat) : mx_G r (t_Sc_passBoundary zz) 12 ls st h c n = (o_goto 33) r (mx_G r (t_Sc_passBoundary zz)) 12 ls st h c n := mx_G_eq (tm_Sc_passBoundary zz) r 12 ls st h c n
theorem st_Sc_passBoundary_15 (zz : Nat × Nat) (r : mx_T) (ls : mx_L) (st : List Value) (h : mx_H) (c n : Nat) : mx_G r (t_Sc_passBoundary zz) 15 ls st h c n = (o_aload 1 0) r (mx_G r (t_Sc_passBoundary zz)) 15 ls st h c n := mx_G_eq (tm_Sc_passBoundary zz) r 15 ls st h c n
theorem st_Sc_passBoundary_16 (zz : Nat × Nat) (r : mx_T) (ls : mx_L) (st : List Value) (h : mx_H) (c n : Nat) : mx_G r (t_Sc_passBoundary zz) 16 ls st h c n = (o_get 7 3) r (mx_G r (t_Sc_passBoundary zz)) 16 ls st h c n := mx_G_eq (tm_Sc_passBoundary zz) r 16 ls st h c n
theorem st_Sc_passBoundary_19 (zz : Nat × Nat) (r : mx_T) (ls : mx_L) (st : List Value) (h : mx_H) (c n : Nat) : mx_G r (t_Sc_passBoundary zz) 19 ls st h c n = (o_if 33 (fun x => x = 0)) r (mx_G r (t_Sc_passBoundary zz)) 19 ls st h c n := mx_G_eq (tm_Sc_passBoundary zz) r 19 ls st h c n
theorem st_Sc_passBoundary_22 (zz : Nat × Nat) (r : mx_T) (ls : mx_L) (st : List Value) (h : mx_H) (c n : Nat) : mx_G r (t_Sc_passBoundary zz) 22 ls st h c n = (o_aload 1 0) r (mx_G r (t_Sc_passBoundary zz)) 22 ls st h c n := mx_G_eq (tm_Sc_passBoundary zz) r 22 ls st h c n
theorem st_Sc_passBoundary_23 (zz : Nat × Nat) (r : mx_T) (ls : mx_L) (st : List Value) (h : mx_H) (c n : Nat) : mx_G r (t_Sc_passBoundary zz) 23 ls st h c n = (o_call 0 0 1 0 0 (mx_rv 7) (S_Sc_isAllDone zz)) r (mx_G r (t_Sc_passBoundary zz)) 23 ls st h c n := mx_G_eq (tm_Sc_passBoundary zz) r 23 ls st h c n
theorem st_Sc_passBoundary_26 (zz : Nat × Nat) (r : mx_T) (ls : mx_L) (st : List Value) (h : mx_H) (c n : Nat) : mx_G r (t_Sc_passBoundary zz) 26 ls st h c n = (o_if 33 (fun x => x = 0)) r (mx_G r (t_Sc_passBoundary zz)) 26 ls st h c n := mx_G_eq (tm_Sc_passBoundary zz) r 26 ls st h c n
theorem st_Sc_passBoundary_29 (zz : Nat × Nat) (r : mx_T) (ls : mx_L) (st : List Value) (h : mx_H) (c n : Nat) : mx_G r (t_Sc_passBoundary zz) 29 ls st h c n = (o_aload 1 0) r (mx_G r (t_Sc_passBoundary zz)) 29 ls st h c n := mx_G_eq (tm_Sc_passBoundary zz) r 29 ls st h c n
theorem st_Sc_passBoundary_30 (zz : Nat × Nat) (r : mx_T) (ls : mx_L) (st : List Value) (h : mx_H) (c n : Nat) : mx_G r (t_Sc_passBoundary zz) 30 ls st h c n = (o_call 0 0 1 0 0 (mx_rv 7) (S_Sc_endResolving zz)) r (mx_G r (t_Sc_passBoundary zz)) 30 ls st h c n := mx_G_eq (tm_Sc_passBoundary zz) r 30 ls st h c n
theorem st_Sc_passBoundary_33 (zz : Nat × Nat) (r : mx_T) (ls : mx_L) (st : List Value) (h : mx_H) (c n : Nat) : mx_G r (t_Sc_passBoundary zz) 33 ls st h c n = (o_aload 1 0) r (mx_G r (t_Sc_passBoundary zz)) 33 ls st h c n := mx_G_eq (tm_Sc_passBoundary zz) r 33 ls st h c n
theorem st_Sc_passBoundary_34 (zz : Nat × Nat) (r : mx_T) (ls : mx_L) (st : List Value) (h : mx_H) (c n : Nat) : mx_G r (t_Sc_passBoundary zz) 34 ls st h c n = (o_get 7 3) r (mx_G r (t_Sc_passBoundary zz)) 34 ls st h c n := mx_G_eq (tm_Sc_passBoundary zz) r 34 ls st h c n
theorem st_Sc_passBoundary_37 (zz : Nat × Nat) (r : mx_T) (ls : mx_L) (st : List Value) (h : mx_H) (c n : Nat) : mx_G r (t_Sc_passBoundary zz) 37 ls st h c n = (o_if 61 (fun x => ¬ x = 0)) r (mx_G r (t_Sc_passBoundary zz)) 37 ls st h c n := mx_G_eq (tm_Sc_passBoundary zz) r 37 ls st h c n
theorem st_Sc_passBoundary_40 (zz : Nat × Nat) (r : mx_T) (ls : mx_L) (st : List Value) (h : mx_H) (c n : Nat) : mx_G r (t_Sc_passBoundary zz) 40 ls st h c n = (o_aload 1 0) r (mx_G r (t_Sc_passBoundary zz)) 40 ls st h c n := mx_G_eq (tm_Sc_passBoundary zz) r 40 ls st h c n
theorem st_Sc_passBoundary_41 (zz : Nat × Nat) (r : mx_T) (ls : mx_L) (st : List Value) (h : mx_H) (c n : Nat) : mx_G r (t_Sc_passBoundary zz) 41 ls st h c n = (o_get 7 6) r (mx_G r (t_Sc_passBoundary zz)) 41 ls st h c n := mx_G_eq (tm_Sc_passBoundary zz) r 41 ls st h c n
theorem st_Sc_passBoundary_44 (zz : Nat × Nat) (r : mx_T) (ls : mx_L) (st : List Value) (h : mx_H) (c n : Nat) : mx_G r (t_Sc_passBoundary zz) 44 ls st h c n = (o_push 1 (.int (-1))) r (mx_G r (t_Sc_passBoundary zz)) 44 ls st h c n := mx_G_eq (tm_Sc_passBoundary zz) r 44 ls st h c n
theorem st_Sc_passBoundary_45 (zz : Nat × Nat) (r : mx_T) (ls : mx_L) (st : List Value) (h : mx_H) (c n : Nat) : mx_G r (t_Sc_passBoundary zz) 45 ls st h c n = (o_icmp 61 (fun x y => x = y)) r (mx_G r (t_Sc_passBoundary zz)) 45 ls st h c n := mx_G_eq (tm_Sc_passBoundary zz) r 45 ls st h c n
theorem st_Sc_passBoundary_48 (zz : Nat × Nat) (r : mx_T) (ls : mx_L) (st : List Value) (h : mx_H) (c n : Nat) : mx_G r (t_Sc_passBoundary zz) 48 ls st h c n = (o_aload 1 0) r (mx_G r (t_Sc_passBoundary zz)) 48 ls st h c n := mx_G_eq (tm_Sc_passBoundary zz) r 48 ls st h c n
theorem st_Sc_passBoundary_49 (zz : Nat × Nat) (r : mx_T) (ls : mx_L) (st : List Value) (h : mx_H) (c n : Nat) : mx_G r (t_Sc_passBoundary zz) 49 ls st h c n = (o_aload 1 0) r (mx_G r (t_Sc_passBoundary zz)) 49 ls st h c n := mx_G_eq (tm_Sc_passBoundary zz) r 49 ls st h c n
theorem st_Sc_passBoundary_50 (zz : Nat × Nat) (r : mx_T) (ls : mx_L) (st : List Value) (h : mx_H) (c n : Nat) : mx_G r (t_Sc_passBoundary zz) 50 ls st h c n = (o_get 7 6) r (mx_G r (t_Sc_passBoundary zz)) 50 ls st h c n := mx_G_eq (tm_Sc_passBoundary zz) r 50 ls st h c n
theorem st_Sc_passBoundary_53 (zz : Nat × Nat) (r : mx_T) (ls : mx_L) (st : List Value) (h : mx_H) (c n : Nat) : mx_G r (t_Sc_passBoundary zz) 53 ls st h c n = (o_call 0 0 2 0 0 (mx_rv 7) (S_Sc_begin zz)) r (mx_G r (t_Sc_passBoundary zz)) 53 ls st h c n := mx_G_eq (tm_Sc_passBoundary zz) r 53 ls st h c n
theorem st_Sc_passBoundary_56 (zz : Nat × Nat) (r : mx_T) (ls : mx_L) (st : List Value) (h : mx_H) (c n : Nat) : mx_G r (t_Sc_passBoundary zz) 56 ls st h c n = (o_aload 1 0) r (mx_G r (t_Sc_passBoundary zz)) 56 ls st h c n := mx_G_eq (tm_Sc_passBoundary zz) r 56 ls st h c n
theorem st_Sc_passBoundary_57 (zz : Nat × Nat) (r : mx_T) (ls : mx_L) (st : List Value) (h : mx_H) (c n : Nat) : mx_G r (t_Sc_passBoundary zz) 57 ls st h c n = (o_push 1 (.int (-1))) r (mx_G r (t_Sc_passBoundary zz)) 57 ls st h c n := mx_G_eq (tm_Sc_passBoundary zz) r 57 ls st h c n
theorem st_Sc_passBoundary_58 (zz : Nat × Nat) (r : mx_T) (ls : mx_L) (st : List Value) (h : mx_H) (c n : Nat) : mx_G r (t_Sc_passBoundary zz) 58 ls st h c n = (o_put 7 6 mx_vI) r (mx_G r (t_Sc_passBoundary zz)) 58 ls st h c n := mx_G_eq (tm_Sc_passBoundary zz) r 58 ls st h c n
theorem st_Sc_passBoundary_61 (zz : Nat × Nat) (r : mx_T) (ls : mx_L) (st : List Value) (h : mx_H) (c n : Nat) : mx_G r (t_Sc_passBoundary zz) 61 ls st h c n = (o_aload 1 0) r (mx_G r (t_Sc_passBoundary zz)) 61 ls st h c n := mx_G_eq (tm_Sc_passBoundary zz) r 61 ls st h c n
theorem st_Sc_passBoundary_62 (zz : Nat × Nat) (r : mx_T) (ls : mx_L) (st : List Value) (h : mx_H) (c n : Nat) : mx_G r (t_Sc_passBoundary zz) 62 ls st h c n = (o_call 0 0 1 0 0 (mx_rv 7) (S_Sc_isAllDone zz)) r (mx_G r (t_Sc_passBoundary zz)) 62 ls st h c n := mx_G_eq (tm_Sc_passBoundary zz) r 62 ls st h c n
theorem st_Sc_passBoundary_65 (zz : Nat × Nat) (r : mx_T) (ls : mx_L) (st : List Value) (h : mx_H) (c n : Nat) : mx_G r (t_Sc_passBoundary zz) 65 ls st h c n = (o_if 73 (fun x => x = 0)) r (mx_G r (t_Sc_passBoundary zz)) 65 ls st h c n := mx_G_eq (tm_Sc_passBoundary zz) r 65 ls st h c n
theorem st_Sc_passBoundary_68 (zz : Nat × Nat) (r : mx_T) (ls : mx_L) (st : List Value) (h : mx_H) (c n : Nat) : mx_G r (t_Sc_passBoundary zz) 68 ls st h c n = (o_aload 1 0) r (mx_G r (t_Sc_passBoundary zz)) 68 ls st h c n := mx_G_eq (tm_Sc_passBoundary zz) r 68 ls st h c n
theorem st_Sc_passBoundary_69 (zz : Nat × Nat) (r : mx_T) (ls : mx_L) (st : List Value) (h : mx_H) (c n : Nat) : mx_G r (t_Sc_passBoundary zz) 69 ls st h c n = (o_push 1 (.int 0)) r (mx_G r (t_Sc_passBoundary zz)) 69 ls st h c n := mx_G_eq (tm_Sc_passBoundary zz) r 69 ls st h c n
theorem st_Sc_passBoundary_70 (zz : Nat × Nat) (r : mx_T) (ls : mx_L) (st : List Value) (h : mx_H) (c n : Nat) : mx_G r (t_Sc_passBoundary zz) 70 ls st h c n = (o_put 7 2 mx_vI) r (mx_G r (t_Sc_passBoundary zz)) 70 ls st h c n := mx_G_eq (tm_Sc_passBoundary zz) r 70 ls st h c n
theorem st_Sc_passBoundary_73 (zz : Nat × Nat) (r : mx_T) (ls : mx_L) (st : List Value) (h : mx_H) (c n : Nat) : mx_G r (t_Sc_passBoundary zz) 73 ls st h c n = (o_vret) r (mx_G r (t_Sc_passBoundary zz)) 73 ls st h c n := mx_G_eq (tm_Sc_passBoundary zz) r 73 ls st h c n
theorem d_Sc_takeNext_0 : decode c_Sc_takeNext 0 = .ok (.aload_n 0, 1) := by decide +kernel
theorem d_Sc_takeNext_1 : decode c_Sc_takeNext 1 = .ok (.getfield 12, 3) := by decide +kernel
theorem d_Sc_takeNext_4 : decode c_Sc_takeNext 4 = .ok (.aload_n 0, 1) := by decide +kernel
theorem d_Sc_takeNext_5 : decode c_Sc_takeNext 5 = .ok (.getfield 18, 3) := by decide +kernel
theorem d_Sc_takeNext_8 : decode c_Sc_takeNext 8 = .ok (.aaload, 1) := by decide +kernel
theorem d_Sc_takeNext_9 : decode c_Sc_takeNext 9 = .ok (.getfield 41, 3) := by decide +kernel
theorem d_Sc_takeNext_12 : decode c_Sc_takeNext 12 = .ok (.aload_n 0, 1) := by decide +kernel
theorem d_Sc_takeNext_13 : decode c_Sc_takeNext 13 = .ok (.getfield 22, 3) := by decide +kernel
theorem d_Sc_takeNext_16 : decode c_Sc_takeNext 16 = .ok (.invokevirtual 69, 3) := by decide +kernel
theorem d_Sc_takeNext_19 : decode c_Sc_takeNext 19 = .ok (.checkcast 73, 3) := by decide +kernel
theorem d_Sc_takeNext_22 : decode c_Sc_takeNext 22 = .ok (.astore_n 1, 1) := by decide +kernel
theorem d_Sc_takeNext_23 : decode c_Sc_takeNext 23 = .ok (.aload_n 0, 1) := by decide +kernel
theorem d_Sc_takeNext_24 : decode c_Sc_takeNext 24 = .ok (.dup, 1) := by decide +kernel
theorem d_Sc_takeNext_25 : decode c_Sc_takeNext 25 = .ok (.getfield 22, 3) := by decide +kernel
theorem d_Sc_takeNext_28 : decode c_Sc_takeNext 28 = .ok (.iconst 1, 1) := by decide +kernel
theorem d_Sc_takeNext_29 : decode c_Sc_takeNext 29 = .ok (.iadd, 1) := by decide +kernel
theorem d_Sc_takeNext_30 : decode c_Sc_takeNext 30 = .ok (.putfield 22, 3) := by decide +kernel
theorem d_Sc_takeNext_33 : decode c_Sc_takeNext 33 = .ok (.aload_n 1, 1) := by decide +kernel
theorem d_Sc_takeNext_34 : decode c_Sc_takeNext 34 = .ok (.areturn, 1) := by decide +kernel
def t_Sc_takeNext (zz : Nat × Nat) : List (Nat × mx_O) := [(0, o_aload 1 0),
  (1, o_get 7 0),
  (4, o_aload 1 0),
  (5, o_get 7 1),
  (8, o_aald),
  (9, o_get 6 0),
  (12, o_aload 1 0),
  (13, o_get 7 2),
  (16, o_call 0 0 2 0 0 (mx_rv 9) (S_Al_get zz)),
  (19, o_cast 5),
  (22, o_astore 1 1),
  (23, o_aload 1 0),
  (24, o_dup),
  (25, o_get 7 2),
  (28, o_push 1 (.int 1)),
  (29, o_ii (fun x y => x + y)),
  (30, o_put 7 2 mx_vI),
  (33, o_aload 1 1),
  (34, o_aret)]
set_option maxRecDepth 100000 in
theorem tm_Sc_takeNext (zz : Nat × Nat) : mx_All (fun _ o => mx_Mono o) (t_Sc_takeNext zz) := by
  refine mx_all_cons (mo_st) ?_
  refine mx_all_cons (mo_st) ?_
  refine mx_all_cons (mo_st) ?_
  refine mx_all_cons (mo_st) ?_
  refine mx_all_cons (mo_sc) ?_
  refine mx_all_cons (mo_st) ?_
  refine mx_all_cons (mo_st) ?_
  refine mx_all_cons (mo_st) ?_
  refine mx_all_cons (mo_call (sm_Al_get zz)) ?_
  refine mx_all_cons (mo_sc) ?_
  refine mx_all_cons (mo_st) ?_
  refine mx_all_cons (mo_st) ?_
  refine mx_all_cons (mo_st) ?_
  refine mx_all_cons (mo_st) ?_
  refine mx_all_cons (mo_st) ?_
  refine mx_all_cons (mo_st) ?_
  refine mx_all_cons (mo_sc) ?_
  refine mx_all_cons (mo_st) ?_
  refine mx_all_cons (mo_ret) ?_
  exact mx_all_nil
def S_Sc_takeNext (zz : Nat × Nat) : mx_Sp := mx_S 2 0 0 (t_Sc_takeNext zz)
theorem sm_Sc_takeNext (zz : Nat × Nat) : mx_SMono (S_Sc_takeNext zz) := mx_S_mono (tm_Sc_takeNext zz)
abbrev rm_Sc_takeNext : Room := { frames := 3, cells := 0, slots := 0, locals := 64 }
set_option maxHeartbeats 4000000 in
set_option maxRecDepth 100000 in
theorem m_Sc_takeNext (l : Launch) (zz : Nat × Nat) : mx_Met l y_Sc_takeNext (wsOf y_Sc_takeNext c_Sc_takeNext 2 (some (.object "HeaderSchedule$Entry"))) rm_Sc_takeNext wcl (mx_Z zz) 0 0 (S_Sc_takeNext zz) := by
  refine mx_met (cc := c_Sc_takeNext) (ret := (some (.object "HeaderSchedule$Entry"))) (by decide) rfl ?_
  intro p e s m args below meth c D A Post X hz hr hlk hnm
  have hm : ∀ w ∈ mw, w.before args s = true := fun w h => X.1.2.2.2.2 w (List.mem_cons_of_mem _ h)
  refine mx_all_cons (ok_aload (fun hl kk => lv_aload_n X.1.1 X.1.2.1 d_Sc_takeNext_0 rfl hl kk) (fun hl kk => lv_aload_nN X.1.1 X.1.2.1 d_Sc_takeNext_0 rfl hl kk)) ?_
  refine mx_all_cons (ok_get (C := "HeaderSchedule$Schedule") (T := T_Sc) (N := 8) X (mw_up in_Sc) rfl 0 (by decide) (hm _ w108) (fun _ h9 => h9) d_Sc_takeNext_1) ?_
  refine mx_all_cons (ok_aload (fun hl kk => lv_aload_n X.1.1 X.1.2.1 d_Sc_takeNext_4 rfl hl kk) (fun hl kk => lv_aload_nN X.1.1 X.1.2.1 d_Sc_takeNext_4 rfl hl kk)) ?_
  refine mx_all_cons (ok_get (C := "HeaderSchedule$Schedule") (T := T_Sc) (N := 8) X (mw_up in_Sc) rfl 1 (by decide) (hm _ w110) (fun _ h9 => h9) d_Sc_takeNext_5) ?_
  refine mx_all_cons (ok_aald X d_Sc_takeNext_8) ?_
  refine mx_all_cons (ok_get (C := "HeaderSchedule$Table") (T := T_Tb) (N := 1) X (mw_up in_Tb) rfl 0 (by decide) (hm _ w102) (fun _ h9 => h9) d_Sc_takeNext_9) ?_
  refine mx_all_cons (ok_aload (fun hl kk => lv_aload_n X.1.1 X.1.2.1 d_Sc_takeNext_12 rfl hl kk) (fun hl kk => lv_aload_nN X.1.1 X.1.2.1 d_Sc_takeNext_12 rfl hl kk)) ?_
  refine mx_all_cons (ok_get (C := "HeaderSchedule$Schedule") (T := T_Sc) (N := 8) X (mw_up in_Sc) rfl 2 (by decide) (hm _ w111) (fun _ h9 => h9) d_Sc_takeNext_13) ?_
  refine mx_all_cons (ok_callV (C := "java/util/ArrayList") (T := T_Al) (N := 3) X (mx_Zok_Z zz) hz ⟨(Nat.le_of_ble_eq_true rfl), (Nat.le_of_ble_eq_true rfl)⟩ (m_Al_get l zz) ⟨mx_cwB 1 hm w326 w562 w36 rfl rfl (by decide +kernel) ⟨(Nat.le_of_ble_eq_true rfl), (Nat.le_of_ble_eq_true rfl)⟩, (hm _ w324), hm _ w325⟩ rfl d_Sc_takeNext_16) ?_
  refine mx_all_cons (ok_cast (C := "HeaderSchedule$Entry") (T := T_En) (N := 3) X rfl (hm _ w563) d_Sc_takeNext_19) ?_
  refine mx_all_cons (ok_astore (fun hl kk => lv_astore_n X.1.1 X.1.2.1 d_Sc_takeNext_22 rfl hl (by decide) rfl kk) (fun hl kk => lv_astore_nN X.1.1 X.1.2.1 d_Sc_takeNext_22 rfl hl (by decide) rfl kk)) ?_
  refine mx_all_cons (ok_aload (fun hl kk => lv_aload_n X.1.1 X.1.2.1 d_Sc_takeNext_23 rfl hl kk) (fun hl kk => lv_aload_nN X.1.1 X.1.2.1 d_Sc_takeNext_23 rfl hl kk)) ?_
  refine mx_all_cons (ok_dup X d_Sc_takeNext_24) ?_
  refine mx_all_cons (ok_get (C := "HeaderSchedule$Schedule") (T := T_Sc) (N := 8) X (mw_up in_Sc) rfl 2 (by decide) (hm _ w111) (fun _ h9 => h9) d_Sc_takeNext_25) ?_
  refine mx_all_cons (ok_push (fun kk => lv_iconst X.1.1 X.1.2.1 d_Sc_takeNext_28 (by decide) kk)) ?_
  refine mx_all_cons (ok_ii (fun kk => lv_iadd X.1.1 X.1.2.1 d_Sc_takeNext_29 kk)) ?_
  refine mx_all_cons (ok_put (C := "HeaderSchedule$Schedule") (T := T_Sc) (N := 8) X (mw_up in_Sc) ty_Sc tyok_Sc nm_Sc rfl 2 (by decide) (hm _ w111) (fun _ h9 => h9) rfl (tyok_Sc 2 (by decide)) mx_vI_ok d_Sc_takeNext_30) ?_
  refine mx_all_cons (ok_aload (fun hl kk => lv_aload_n X.1.1 X.1.2.1 d_Sc_takeNext_33 rfl hl kk) (fun hl kk => lv_aload_nN X.1.1 X.1.2.1 d_Sc_takeNext_33 rfl hl kk)) ?_
  refine mx_all_cons (ok_aret X hr (by first | exact Or.inl ⟨_, rfl⟩ | exact Or.inr ⟨_, rfl⟩) hlk d_Sc_takeNext_34) ?_
  exact mx_all_nil
theorem st_Sc_takeNext_0 (zz : Nat × Nat) (r : mx_T) (ls : mx_L) (st : List Value) (h : mx_H) (c n : Nat) : mx_G r (t_Sc_takeNext zz) 0 ls st h c n = (o_aload 1 0) r (mx_G r (t_Sc_takeNext zz)) 0 ls st h c n := mx_G_eq (tm_Sc_takeNext zz) r 0 ls st h c n
theorem st_Sc_takeNext_1 (zz : Nat × Nat) (r : mx_T) (ls : mx_L) (st : List Value) (h : mx_H) (c n : Nat) : mx_G r (t_Sc_takeNext zz) 1 ls st h c n = (o_get 7 0) r (mx_G r (t_Sc_takeNext zz)) 1 ls st h c n := mx_G_eq (tm_Sc_takeNext zz) r 1 ls st h c n
theorem st_Sc_takeNext_4 (zz : Nat × Nat) (r : mx_T) (ls : mx_L) (st : List Value) (h : mx_H) (c n : Nat) : mx_G r (t_Sc_takeNext zz) 4 ls st h c n = (o_aload 1 0) r (mx_G r (t_Sc_takeNext zz)) 4 ls st h c n := mx_G_eq (tm_Sc_takeNext zz) r 4 ls st h c n
theorem st_Sc_takeNext_5 (zz : Nat × Nat) (r : mx_T) (ls : mx_L) (st : List Value) (h : mx_H) (c n : Nat) : mx_G r (t_Sc_takeNext zz) 5 ls st h c n = (o_get 7 1) r (mx_G r (t_Sc_takeNext zz)) 5 ls st h c n := mx_G_eq (tm_Sc_takeNext zz) r 5 ls st h c n
theorem st_Sc_takeNext_8 (zz : Nat × Nat) (r : mx_T) (ls : mx_L) (st : List Value) (h : mx_H) (c n : Nat) : mx_G r (t_Sc_takeNext zz) 8 ls st h c n = (o_aald) r (mx_G r (t_Sc_takeNext zz)) 8 ls st h c n := mx_G_eq (tm_Sc_takeNext zz) r 8 ls st h c n
theorem st_Sc_takeNext_9 (zz : Nat × Nat) (r : mx_T) (ls : mx_L) (st : List Value) (h : mx_H) (c n : Nat) : mx_G r (t_Sc_takeNext zz) 9 ls st h c n = (o_get 6 0) r (mx_G r (t_Sc_takeNext zz)) 9 ls st h c n := mx_G_eq (tm_Sc_takeNext zz) r 9 ls st h c n
theorem st_Sc_takeNext_12 (zz : Nat × Nat) (r : mx_T) (ls : mx_L) (st : List Value) (h : mx_H) (c n : Nat) : mx_G r (t_Sc_takeNext zz) 12 ls st h c n = (o_aload 1 0) r (mx_G r (t_Sc_takeNext zz)) 12 ls st h c n := mx_G_eq (tm_Sc_takeNext zz) r 12 ls st h c n
theorem st_Sc_takeNext_13 (zz : Nat × Nat) (r : mx_T) (ls : mx_L) (st : List Value) (h : mx_H) (c n : Nat) : mx_G r (t_Sc_takeNext zz) 13 ls st h c n = (o_get 7 2) r (mx_G r (t_Sc_takeNext zz)) 13 ls st h c n := mx_G_eq (tm_Sc_takeNext zz) r 13 ls st h c n
theorem st_Sc_takeNext_16 (zz : Nat × Nat) (r : mx_T) (ls : mx_L) (st : List Value) (h : mx_H) (c n : Nat) : mx_G r (t_Sc_takeNext zz) 16 ls st h c n = (o_call 0 0 2 0 0 (mx_rv 9) (S_Al_get zz)) r (mx_G r (t_Sc_takeNext zz)) 16 ls st h c n := mx_G_eq (tm_Sc_takeNext zz) r 16 ls st h c n
theorem st_Sc_takeNext_19 (zz : Nat × Nat) (r : mx_T) (ls : mx_L) (st : List Value) (h : mx_H) (c n : Nat) : mx_G r (t_Sc_takeNext zz) 19 ls st h c n = (o_cast 5) r (mx_G r (t_Sc_takeNext zz)) 19 ls st h c n := mx_G_eq (tm_Sc_takeNext zz) r 19 ls st h c n
theorem st_Sc_takeNext_22 (zz : Nat × Nat) (r : mx_T) (ls : mx_L) (st : List Value) (h : mx_H) (c n : Nat) : mx_G r (t_Sc_takeNext zz) 22 ls st h c n = (o_astore 1 1) r (mx_G r (t_Sc_takeNext zz)) 22 ls st h c n := mx_G_eq (tm_Sc_takeNext zz) r 22 ls st h c n
theorem st_Sc_takeNext_23 (zz : Nat × Nat) (r : mx_T) (ls : mx_L) (st : List Value) (h : mx_H) (c n : Nat) : mx_G r (t_Sc_takeNext zz) 23 ls st h c n = (o_aload 1 0) r (mx_G r (t_Sc_takeNext zz)) 23 ls st h c n := mx_G_eq (tm_Sc_takeNext zz) r 23 ls st h c n
theorem st_Sc_takeNext_24 (zz : Nat × Nat) (r : mx_T) (ls : mx_L) (st : List Value) (h : mx_H) (c n : Nat) : mx_G r (t_Sc_takeNext zz) 24 ls st h c n = (o_dup) r (mx_G r (t_Sc_takeNext zz)) 24 ls st h c n := mx_G_eq (tm_Sc_takeNext zz) r 24 ls st h c n
theorem st_Sc_takeNext_25 (zz : Nat × Nat) (r : mx_T) (ls : mx_L) (st : List Value) (h : mx_H) (c n : Nat) : mx_G r (t_Sc_takeNext zz) 25 ls st h c n = (o_get 7 2) r (mx_G r (t_Sc_takeNext zz)) 25 ls st h c n := mx_G_eq (tm_Sc_takeNext zz) r 25 ls st h c n
theorem st_Sc_takeNext_28 (zz : Nat × Nat) (r : mx_T) (ls : mx_L) (st : List Value) (h : mx_H) (c n : Nat) : mx_G r (t_Sc_takeNext zz) 28 ls st h c n = (o_push 1 (.int 1)) r (mx_G r (t_Sc_takeNext zz)) 28 ls st h c n := mx_G_eq (tm_Sc_takeNext zz) r 28 ls st h c n
theorem st_Sc_takeNext_29 (zz : Nat × Nat) (r : mx_T) (ls : mx_L) (st : List Value) (h : mx_H) (c n : Nat) : mx_G r (t_Sc_takeNext zz) 29 ls st h c n = (o_ii (fun x y => x + y)) r (mx_G r (t_Sc_takeNext zz)) 29 ls st h c n := mx_G_eq (tm_Sc_takeNext zz) r 29 ls st h c n
theorem st_Sc_takeNext_30 (zz : Nat × Nat) (r : mx_T) (ls : mx_L) (st : List Value) (h : mx_H) (c n : Nat) : mx_G r (t_Sc_takeNext zz) 30 ls st h c n = (o_put 7 2 mx_vI) r (mx_G r (t_Sc_takeNext zz)) 30 ls st h c n := mx_G_eq (tm_Sc_takeNext zz) r 30 ls st h c n
theorem st_Sc_takeNext_33 (zz : Nat × Nat) (r : mx_T) (ls : mx_L) (st : List Value) (h : mx_H) (c n : Nat) : mx_G r (t_Sc_takeNext zz) 33 ls st h c n = (o_aload 1 1) r (mx_G r (t_Sc_takeNext zz)) 33 ls st h c n := mx_G_eq (tm_Sc_takeNext zz) r 33 ls st h c n
theorem st_Sc_takeNext_34 (zz : Nat × Nat) (r : mx_T) (ls : mx_L) (st : List Value) (h : mx_H) (c n : Nat) : mx_G r (t_Sc_takeNext zz) 34 ls st h c n = (o_aret) r (mx_G r (t_Sc_takeNext zz)) 34 ls st h c n := mx_G_eq (tm_Sc_takeNext zz) r 34 ls st h c n
theorem d_Wi_clear_0 : decode c_Wi_clear 0 = .ok (.aload_n 0, 1) := by decide +kernel
theorem d_Wi_clear_1 : decode c_Wi_clear 1 = .ok (.iconst 0, 1) := by decide +kernel
theorem d_Wi_clear_2 : decode c_Wi_clear 2 = .ok (.putfield 15, 3) := by decide +kernel
theorem d_Wi_clear_5 : decode c_Wi_clear 5 = .ok (.return_, 1) := by decide +kernel
def t_Wi_clear (zz : Nat × Nat) : List (Nat × mx_O) := [(0, o_aload 1 0),
  (1, o_push 1 (.int 0)),
  (2, o_put 8 1 mx_vI),
  (5, o_vret)]
set_option maxRecDepth 100000 in
theorem tm_Wi_clear (zz : Nat × Nat) : mx_All (fun _ o => mx_Mono o) (t_Wi_clear zz) := by
  refine mx_all_cons (mo_st) ?_
  refine mx_all_cons (mo_st) ?_
  refine mx_all_cons (mo_sc) ?_
  refine mx_all_cons (mo_ret) ?_
  exact mx_all_nil
def S_Wi_clear (zz : Nat × Nat) : mx_Sp := mx_S 1 0 0 (t_Wi_clear zz)
theorem sm_Wi_clear (zz : Nat × Nat) : mx_SMono (S_Wi_clear zz) := mx_S_mono (tm_Wi_clear zz)
abbrev rm_Wi_clear : Room := { frames := 0, cells := 0, slots := 0, locals := 0 }
set_option maxHeartbeats 4000000 in
set_option maxRecDepth 100000 in
theorem m_Wi_clear (l : Launch) (zz : Nat × Nat) : mx_Met l y_Wi_clear (wsOf y_Wi_clear c_Wi_clear 1 none) rm_Wi_clear wcl (mx_Z zz) 0 0 (S_Wi_clear zz) := by
  refine mx_met (cc := c_Wi_clear) (ret := none) (by decide) rfl ?_
  intro p e s m args below meth c D A Post X hz hr hlk hnm
  have hm : ∀ w ∈ mw, w.before args s = true := fun w h => X.1.2.2.2.2 w (List.mem_cons_of_mem _ h)
  refine mx_all_cons (ok_aload (fun hl kk => lv_aload_n X.1.1 X.1.2.1 d_Wi_clear_0 rfl hl kk) (fun hl kk => lv_aload_nN X.1.1 X.1.2.1 d_Wi_clear_0 rfl hl kk)) ?_
  refine mx_all_cons (ok_push (fun kk => lv_iconst X.1.1 X.1.2.1 d_Wi_clear_1 (by decide) kk)) ?_
  refine mx_all_cons (ok_put (C := "HeaderSchedule$Wire") (T := T_Wi) (N := 4) X (mw_up in_Wi) ty_Wi tyok_Wi nm_Wi rfl 1 (by decide) (hm _ w143) (fun _ h9 => h9) rfl (tyok_Wi 1 (by decide)) mx_vI_ok d_Wi_clear_2) ?_
  refine mx_all_cons (ok_vret X hr hlk d_Wi_clear_5) ?_
  exact mx_all_nil
theorem st_Wi_clear_0 (zz : Nat × Nat) (r : mx_T) (ls : mx_L) (st : List Value) (h : mx_H) (c n : Nat) : mx_G r (t_Wi_clear zz) 0 ls st h c n = (o_aload 1 0) r (mx_G r (t_Wi_clear zz)) 0 ls st h c n := mx_G_eq (tm_Wi_clear zz) r 0 ls st h c n
theorem st_Wi_clear_1 (zz : Nat × Nat) (r : mx_T) (ls : mx_L) (st : List Value) (h : mx_H) (c n : Nat) : mx_G r (t_Wi_clear zz) 1 ls st h c n = (o_push 1 (.int 0)) r (mx_G r (t_Wi_clear zz)) 1 ls st h c n := mx_G_eq (tm_Wi_clear zz) r 1 ls st h c n
theorem st_Wi_clear_2 (zz : Nat × Nat) (r : mx_T) (ls : mx_L) (st : List Value) (h : mx_H) (c n : Nat) : mx_G r (t_Wi_clear zz) 2 ls st h c n = (o_put 8 1 mx_vI) r (mx_G r (t_Wi_clear zz)) 2 ls st h c n := mx_G_eq (tm_Wi_clear zz) r 2 ls st h c n
theorem st_Wi_clear_5 (zz : Nat × Nat) (r : mx_T) (ls : mx_L) (st : List Value) (h : mx_H) (c n : Nat) : mx_G r (t_Wi_clear zz) 5 ls st h c n = (o_vret) r (mx_G r (t_Wi_clear zz)) 5 ls st h c n := mx_G_eq (tm_Wi_clear zz) r 5 ls st h c n
theorem d_Wi_add_0 : decode c_Wi_add 0 = .ok (.aload_n 0, 1) := by decide +kernel
theorem d_Wi_add_1 : decode c_Wi_add 1 = .ok (.getfield 15, 3) := by decide +kernel
theorem d_Wi_add_4 : decode c_Wi_add 4 = .ok (.aload_n 0, 1) := by decide +kernel
theorem d_Wi_add_5 : decode c_Wi_add 5 = .ok (.getfield 9, 3) := by decide +kernel
theorem d_Wi_add_8 : decode c_Wi_add 8 = .ok (.arraylength, 1) := by decide +kernel
theorem d_Wi_add_9 : decode c_Wi_add 9 = .ok (.if_icmp .ge 23, 3) := by decide +kernel
theorem d_Wi_add_12 : decode c_Wi_add 12 = .ok (.aload_n 0, 1) := by decide +kernel
theorem d_Wi_add_13 : decode c_Wi_add 13 = .ok (.getfield 9, 3) := by decide +kernel
theorem d_Wi_add_16 : decode c_Wi_add 16 = .ok (.aload_n 0, 1) := by decide +kernel
theorem d_Wi_add_17 : decode c_Wi_add 17 = .ok (.getfield 15, 3) := by decide +kernel
theorem d_Wi_add_20 : decode c_Wi_add 20 = .ok (.iload_n 1, 1) := by decide +kernel
theorem d_Wi_add_21 : decode c_Wi_add 21 = .ok (.iastore, 1) := by decide +kernel
theorem d_Wi_add_22 : decode c_Wi_add 22 = .ok (.aload_n 0, 1) := by decide +kernel
theorem d_Wi_add_23 : decode c_Wi_add 23 = .ok (.dup, 1) := by decide +kernel
theorem d_Wi_add_24 : decode c_Wi_add 24 = .ok (.getfield 15, 3) := by decide +kernel
theorem d_Wi_add_27 : decode c_Wi_add 27 = .ok (.iconst 1, 1) := by decide +kernel
theorem d_Wi_add_28 : decode c_Wi_add 28 = .ok (.iadd, 1) := by decide +kernel
theorem d_Wi_add_29 : decode c_Wi_add 29 = .ok (.putfield 15, 3) := by decide +kernel
theorem d_Wi_add_32 : decode c_Wi_add 32 = .ok (.return_, 1) := by decide +kernel
def t_Wi_add (zz : Nat × Nat) : List (Nat × mx_O) := [(0, o_aload 1 0),
  (1, o_get 8 1),
  (4, o_aload 1 0),
  (5, o_get 8 0),
  (8, o_alen),
  (9, o_icmp 32 (fun x y => y ≤ x)),
  (12, o_aload 1 0),
  (13, o_get 8 0),
  (16, o_aload 1 0),
  (17, o_get 8 1),
  (20, o_iload 1 1),
  (21, o_iast .int (fun x => x)),
  (22, o_aload 1 0),
  (23, o_dup),
  (24, o_get 8 1),
  (27, o_push 1 (.int 1)),
  (28, o_ii (fun x y => x + y)),
  (29, o_put 8 1 mx_vI),
  (32, o_vret)]
set_option maxRecDepth 100000 in
theorem tm_Wi_add (zz : Nat × Nat) : mx_All (fun _ o => mx_Mono o) (t_Wi_add zz) := by
  refine mx_all_cons (mo_st) ?_
  refine mx_all_cons (mo_st) ?_
  refine mx_all_cons (mo_st) ?_
  refine mx_all_cons (mo_st) ?_
  refine mx_all_cons (mo_st) ?_
  refine mx_all_cons (mo_br) ?_
  refine mx_all_cons (mo_st) ?_
  refine mx_all_cons (mo_st) ?_
  refine mx_all_cons (mo_st) ?_
  refine mx_all_cons (mo_st) ?_
  refine mx_all_cons (mo_st) ?_
  refine mx_all_cons (mo_sc) ?_
  refine mx_all_cons (mo_st) ?_
  refine mx_all_cons (mo_st) ?_
  refine mx_all_cons (mo_st) ?_
  refine mx_all_cons (mo_st) ?_
  refine mx_all_cons (mo_st) ?_
  refine mx_all_cons (mo_sc) ?_
  refine mx_all_cons (mo_ret) ?_
  exact mx_all_nil
def S_Wi_add (zz : Nat × Nat) : mx_Sp := mx_S 2 0 0 (t_Wi_add zz)
theorem sm_Wi_add (zz : Nat × Nat) : mx_SMono (S_Wi_add zz) := mx_S_mono (tm_Wi_add zz)
abbrev rm_Wi_add : Room := { frames := 0, cells := 0, slots := 0, locals := 0 }
set_option maxHeartbeats 4000000 in
set_option maxRecDepth 100000 in
theorem m_Wi_add (l : Launch) (zz : Nat × Nat) : mx_Met l y_Wi_add (wsOf y_Wi_add c_Wi_add 2 none) rm_Wi_add wcl (mx_Z zz) 0 0 (S_Wi_add zz) := by
  refine mx_met (cc := c_Wi_add) (ret := none) (by decide) rfl ?_
  intro p e s m args below meth c D A Post X hz hr hlk hnm
  have hm : ∀ w ∈ mw, w.before args s = true := fun w h => X.1.2.2.2.2 w (List.mem_cons_of_mem _ h)
  refine mx_all_cons (ok_aload (fun hl kk => lv_aload_n X.1.1 X.1.2.1 d_Wi_add_0 rfl hl kk) (fun hl kk => lv_aload_nN X.1.1 X.1.2.1 d_Wi_add_0 rfl hl kk)) ?_
  refine mx_all_cons (ok_get (C := "HeaderSchedule$Wire") (T := T_Wi) (N := 4) X (mw_up in_Wi) rfl 1 (by decide) (hm _ w143) (fun _ h9 => h9) d_Wi_add_1) ?_
  refine mx_all_cons (ok_aload (fun hl kk => lv_aload_n X.1.1 X.1.2.1 d_Wi_add_4 rfl hl kk) (fun hl kk => lv_aload_nN X.1.1 X.1.2.1 d_Wi_add_4 rfl hl kk)) ?_
  refine mx_all_cons (ok_get (C := "HeaderSchedule$Wire") (T := T_Wi) (N := 4) X (mw_up in_Wi) rfl 0 (by decide) (hm _ w142) (fun _ h9 => h9) d_Wi_add_5) ?_
  refine mx_all_cons (ok_alen X d_Wi_add_8) ?_
  refine mx_all_cons (ok_icmp (fun kt kf => lv_icmp_ge X.1.1 X.1.2.1 d_Wi_add_9 (by decide) kt kf)) ?_
  refine mx_all_cons (ok_aload (fun hl kk => lv_aload_n X.1.1 X.1.2.1 d_Wi_add_12 rfl hl kk) (fun hl kk => lv_aload_nN X.1.1 X.1.2.1 d_Wi_add_12 rfl hl kk)) ?_
  refine mx_all_cons (ok_get (C := "HeaderSchedule$Wire") (T := T_Wi) (N := 4) X (mw_up in_Wi) rfl 0 (by decide) (hm _ w142) (fun _ h9 => h9) d_Wi_add_13) ?_
  refine mx_all_cons (ok_aload (fun hl kk => lv_aload_n X.1.1 X.1.2.1 d_Wi_add_16 rfl hl kk) (fun hl kk => lv_aload_nN X.1.1 X.1.2.1 d_Wi_add_16 rfl hl kk)) ?_
  refine mx_all_cons (ok_get (C := "HeaderSchedule$Wire") (T := T_Wi) (N := 4) X (mw_up in_Wi) rfl 1 (by decide) (hm _ w143) (fun _ h9 => h9) d_Wi_add_17) ?_
  refine mx_all_cons (ok_iload (fun hl kk => lv_iload_n X.1.1 X.1.2.1 d_Wi_add_20 rfl hl kk)) ?_
  refine mx_all_cons (ok_iast X d_Wi_add_21) ?_
  refine mx_all_cons (ok_aload (fun hl kk => lv_aload_n X.1.1 X.1.2.1 d_Wi_add_22 rfl hl kk) (fun hl kk => lv_aload_nN X.1.1 X.1.2.1 d_Wi_add_22 rfl hl kk)) ?_
  refine mx_all_cons (ok_dup X d_Wi_add_23) ?_
  refine mx_all_cons (ok_get (C := "HeaderSchedule$Wire") (T := T_Wi) (N := 4) X (mw_up in_Wi) rfl 1 (by decide) (hm _ w143) (fun _ h9 => h9) d_Wi_add_24) ?_
  refine mx_all_cons (ok_push (fun kk => lv_iconst X.1.1 X.1.2.1 d_Wi_add_27 (by decide) kk)) ?_
  refine mx_all_cons (ok_ii (fun kk => lv_iadd X.1.1 X.1.2.1 d_Wi_add_28 kk)) ?_
  refine mx_all_cons (ok_put (C := "HeaderSchedule$Wire") (T := T_Wi) (N := 4) X (mw_up in_Wi) ty_Wi tyok_Wi nm_Wi rfl 1 (by decide) (hm _ w143) (fun _ h9 => h9) rfl (tyok_Wi 1 (by decide)) mx_vI_ok d_Wi_add_29) ?_
  refine mx_all_cons (ok_vret X hr hlk d_Wi_add_32) ?_
  exact mx_all_nil
theorem st_Wi_add_0 (zz : Nat × Nat) (r : mx_T) (ls : mx_L) (st : List Value) (h : mx_H) (c n : Nat) : mx_G r (t_Wi_add zz) 0 ls st h c n = (o_aload 1 0) r (mx_G r (t_Wi_add zz)) 0 ls st h c n := mx_G_eq (tm_Wi_add zz) r 0 ls st h c n
theorem st_Wi_add_1 (zz : Nat × Nat) (r : mx_T) (ls : mx_L) (st : List Value) (h : mx_H) (c n : Nat) : mx_G r (t_Wi_add zz) 1 ls st h c n = (o_get 8 1) r (mx_G r (t_Wi_add zz)) 1 ls st h c n := mx_G_eq (tm_Wi_add zz) r 1 ls st h c n
theorem st_Wi_add_4 (zz : Nat × Nat) (r : mx_T) (ls : mx_L) (st : List Value) (h : mx_H) (c n : Nat) : mx_G r (t_Wi_add zz) 4 ls st h c n = (o_aload 1 0) r (mx_G r (t_Wi_add zz)) 4 ls st h c n := mx_G_eq (tm_Wi_add zz) r 4 ls st h c n
theorem st_Wi_add_5 (zz : Nat × Nat) (r : mx_T) (ls : mx_L) (st : List Value) (h : mx_H) (c n : Nat) : mx_G r (t_Wi_add zz) 5 ls st h c n = (o_get 8 0) r (mx_G r (t_Wi_add zz)) 5 ls st h c n := mx_G_eq (tm_Wi_add zz) r 5 ls st h c n
theorem st_Wi_add_8 (zz : Nat × Nat) (r : mx_T) (ls : mx_L) (st : List Value) (h : mx_H) (c n : Nat) : mx_G r (t_Wi_add zz) 8 ls st h c n = (o_alen) r (mx_G r (t_Wi_add zz)) 8 ls st h c n := mx_G_eq (tm_Wi_add zz) r 8 ls st h c n
theorem st_Wi_add_9 (zz : Nat × Nat) (r : mx_T) (ls : mx_L) (st : List Value) (h : mx_H) (c n : Nat) : mx_G r (t_Wi_add zz) 9 ls st h c n = (o_icmp 32 (fun x y => y ≤ x)) r (mx_G r (t_Wi_add zz)) 9 ls st h c n := mx_G_eq (tm_Wi_add zz) r 9 ls st h c n
theorem st_Wi_add_12 (zz : Nat × Nat) (r : mx_T) (ls : mx_L) (st : List Value) (h : mx_H) (c n : Nat) : mx_G r (t_Wi_add zz) 12 ls st h c n = (o_aload 1 0) r (mx_G r (t_Wi_add zz)) 12 ls st h c n := mx_G_eq (tm_Wi_add zz) r 12 ls st h c n
theorem st_Wi_add_13 (zz : Nat × Nat) (r : mx_T) (ls : mx_L) (st : List Value) (h : mx_H) (c n : Nat) : mx_G r (t_Wi_add zz) 13 ls st h c n = (o_get 8 0) r (mx_G r (t_Wi_add zz)) 13 ls st h c n := mx_G_eq (tm_Wi_add zz) r 13 ls st h c n
theorem st_Wi_add_16 (zz : Nat × Nat) (r : mx_T) (ls : mx_L) (st : List Value) (h : mx_H) (c n : Nat) : mx_G r (t_Wi_add zz) 16 ls st h c n = (o_aload 1 0) r (mx_G r (t_Wi_add zz)) 16 ls st h c n := mx_G_eq (tm_Wi_add zz) r 16 ls st h c n
theorem st_Wi_add_17 (zz : Nat × Nat) (r : mx_T) (ls : mx_L) (st : List Value) (h : mx_H) (c n : Nat) : mx_G r (t_Wi_add zz) 17 ls st h c n = (o_get 8 1) r (mx_G r (t_Wi_add zz)) 17 ls st h c n := mx_G_eq (tm_Wi_add zz) r 17 ls st h c n
theorem st_Wi_add_20 (zz : Nat × Nat) (r : mx_T) (ls : mx_L) (st : List Value) (h : mx_H) (c n : Nat) : mx_G r (t_Wi_add zz) 20 ls st h c n = (o_iload 1 1) r (mx_G r (t_Wi_add zz)) 20 ls st h c n := mx_G_eq (tm_Wi_add zz) r 20 ls st h c n
theorem st_Wi_add_21 (zz : Nat × Nat) (r : mx_T) (ls : mx_L) (st : List Value) (h : mx_H) (c n : Nat) : mx_G r (t_Wi_add zz) 21 ls st h c n = (o_iast .int (fun x => x)) r (mx_G r (t_Wi_add zz)) 21 ls st h c n := mx_G_eq (tm_Wi_add zz) r 21 ls st h c n
theorem st_Wi_add_22 (zz : Nat × Nat) (r : mx_T) (ls : mx_L) (st : List Value) (h : mx_H) (c n : Nat) : mx_G r (t_Wi_add zz) 22 ls st h c n = (o_aload 1 0) r (mx_G r (t_Wi_add zz)) 22 ls st h c n := mx_G_eq (tm_Wi_add zz) r 22 ls st h c n
theorem st_Wi_add_23 (zz : Nat × Nat) (r : mx_T) (ls : mx_L) (st : List Value) (h : mx_H) (c n : Nat) : mx_G r (t_Wi_add zz) 23 ls st h c n = (o_dup) r (mx_G r (t_Wi_add zz)) 23 ls st h c n := mx_G_eq (tm_Wi_add zz) r 23 ls st h c n
theorem st_Wi_add_24 (zz : Nat × Nat) (r : mx_T) (ls : mx_L) (st : List Value) (h : mx_H) (c n : Nat) : mx_G r (t_Wi_add zz) 24 ls st h c n = (o_get 8 1) r (mx_G r (t_Wi_add zz)) 24 ls st h c n := mx_G_eq (tm_Wi_add zz) r 24 ls st h c n
theorem st_Wi_add_27 (zz : Nat × Nat) (r : mx_T) (ls : mx_L) (st : List Value) (h : mx_H) (c n : Nat) : mx_G r (t_Wi_add zz) 27 ls st h c n = (o_push 1 (.int 1)) r (mx_G r (t_Wi_add zz)) 27 ls st h c n := mx_G_eq (tm_Wi_add zz) r 27 ls st h c n
theorem st_Wi_add_28 (zz : Nat × Nat) (r : mx_T) (ls : mx_L) (st : List Value) (h : mx_H) (c n : Nat) : mx_G r (t_Wi_add zz) 28 ls st h c n = (o_ii (fun x y => x + y)) r (mx_G r (t_Wi_add zz)) 28 ls st h c n := mx_G_eq (tm_Wi_add zz) r 28 ls st h c n
theorem st_Wi_add_29 (zz : Nat × Nat) (r : mx_T) (ls : mx_L) (st : List Value) (h : mx_H) (c n : Nat) : mx_G r (t_Wi_add zz) 29 ls st h c n = (o_put 8 1 mx_vI) r (mx_G r (t_Wi_add zz)) 29 ls st h c n := mx_G_eq (tm_Wi_add zz) r 29 ls st h c n
theorem st_Wi_add_32 (zz : Nat × Nat) (r : mx_T) (ls : mx_L) (st : List Value) (h : mx_H) (c n : Nat) : mx_G r (t_Wi_add zz) 32 ls st h c n = (o_vret) r (mx_G r (t_Wi_add zz)) 32 ls st h c n := mx_G_eq (tm_Wi_add zz) r 32 ls st h c n
theorem d_Hs_byteOf_0 : decode c_Hs_byteOf 0 = .ok (.lload_n 0, 1) := by decide +kernel
theorem d_Hs_byteOf_1 : decode c_Hs_byteOf 1 = .ok (.bipush 8, 2) := by decide +kernel
theorem d_Hs_byteOf_3 : decode c_Hs_byteOf 3 = .ok (.iload_n 2, 1) := by decide +kernel
theorem d_Hs_byteOf_4 : decode c_Hs_byteOf 4 = .ok (.imul, 1) := by decide +kernel
theorem d_Hs_byteOf_5 : decode c_Hs_byteOf 5 = .ok (.lushr, 1) := by decide +kernel
theorem d_Hs_byteOf_6 : decode c_Hs_byteOf 6 = .ok (.l2i, 1) := by decide +kernel
theorem d_Hs_byteOf_7 : decode c_Hs_byteOf 7 = .ok (.sipush 255, 3) := by decide +kernel
theorem d_Hs_byteOf_10 : decode c_Hs_byteOf 10 = .ok (.iand, 1) := by decide +kernel
theorem d_Hs_byteOf_11 : decode c_Hs_byteOf 11 = .ok (.ireturn, 1) := by decide +kernel
def t_Hs_byteOf (zz : Nat × Nat) : List (Nat × mx_O) := [(0, o_lload 1 0),
  (1, o_push 2 (.int 8)),
  (3, o_iload 1 2),
  (4, o_ii (fun x y => x * y)),
  (5, o_li (fun x y => (x.toUInt64 >>> (y.toInt64.toUInt64 &&& Int64.toUInt64 63)).toInt64)),
  (6, o_l1 (fun x => .int x.toInt32)),
  (7, o_push 3 (.int 255)),
  (10, o_ii (fun x y => x &&& y)),
  (11, o_iret)]
set_option maxRecDepth 100000 in
theorem tm_Hs_byteOf (zz : Nat × Nat) : mx_All (fun _ o => mx_Mono o) (t_Hs_byteOf zz) := by
  refine mx_all_cons (mo_st) ?_
  refine mx_all_cons (mo_st) ?_
  refine mx_all_cons (mo_st) ?_
  refine mx_all_cons (mo_st) ?_
  refine mx_all_cons (mo_st) ?_
  refine mx_all_cons (mo_st) ?_
  refine mx_all_cons (mo_st) ?_
  refine mx_all_cons (mo_st) ?_
  refine mx_all_cons (mo_ret) ?_
  exact mx_all_nil
def S_Hs_byteOf (zz : Nat × Nat) : mx_Sp := mx_S 3 0 0 (t_Hs_byteOf zz)
theorem sm_Hs_byteOf (zz : Nat × Nat) : mx_SMono (S_Hs_byteOf zz) := mx_S_mono (tm_Hs_byteOf zz)
abbrev rm_Hs_byteOf : Room := { frames := 0, cells := 0, slots := 0, locals := 0 }
set_option maxHeartbeats 4000000 in
set_option maxRecDepth 100000 in
theorem m_Hs_byteOf (l : Launch) (zz : Nat × Nat) : mx_Met l y_Hs_byteOf (wsOf y_Hs_byteOf c_Hs_byteOf 3 (some .int)) rm_Hs_byteOf wcl (mx_Z zz) 0 0 (S_Hs_byteOf zz) := by
  refine mx_met (cc := c_Hs_byteOf) (ret := (some .int)) (by decide) rfl ?_
  intro p e s m args below meth c D A Post X hz hr hlk hnm
  have hm : ∀ w ∈ mw, w.before args s = true := fun w h => X.1.2.2.2.2 w (List.mem_cons_of_mem _ h)
  refine mx_all_cons (ok_lload (fun hl kk => lv_lload_n X.1.1 X.1.2.1 d_Hs_byteOf_0 rfl hl kk)) ?_
  refine mx_all_cons (ok_push (fun kk => lv_bipush X.1.1 X.1.2.1 d_Hs_byteOf_1 (by decide) kk)) ?_
  refine mx_all_cons (ok_iload (fun hl kk => lv_iload_n X.1.1 X.1.2.1 d_Hs_byteOf_3 rfl hl kk)) ?_
  refine mx_all_cons (ok_ii (fun kk => lv_imul X.1.1 X.1.2.1 d_Hs_byteOf_4 kk)) ?_
  refine mx_all_cons (ok_li (fun kk => lv_lushr X.1.1 X.1.2.1 d_Hs_byteOf_5 rfl kk)) ?_
  refine mx_all_cons (ok_l1 (fun kk => lv_l2i X.1.1 X.1.2.1 d_Hs_byteOf_6 rfl kk)) ?_
  refine mx_all_cons (ok_push (fun kk => lv_sipush X.1.1 X.1.2.1 d_Hs_byteOf_7 (by decide) kk)) ?_
  refine mx_all_cons (ok_ii (fun kk => lv_iand X.1.1 X.1.2.1 d_Hs_byteOf_10 kk)) ?_
  refine mx_all_cons (ok_iret X hr hlk d_Hs_byteOf_11) ?_
  exact mx_all_nil
theorem st_Hs_byteOf_0 (zz : Nat × Nat) (r : mx_T) (ls : mx_L) (st : List Value) (h : mx_H) (c n : Nat) : mx_G r (t_Hs_byteOf zz) 0 ls st h c n = (o_lload 1 0) r (mx_G r (t_Hs_byteOf zz)) 0 ls st h c n := mx_G_eq (tm_Hs_byteOf zz) r 0 ls st h c n
theorem st_Hs_byteOf_1 (zz : Nat × Nat) (r : mx_T) (ls : mx_L) (st : List Value) (h : mx_H) (c n : Nat) : mx_G r (t_Hs_byteOf zz) 1 ls st h c n = (o_push 2 (.int 8)) r (mx_G r (t_Hs_byteOf zz)) 1 ls st h c n := mx_G_eq (tm_Hs_byteOf zz) r 1 ls st h c n
theorem st_Hs_byteOf_3 (zz : Nat × Nat) (r : mx_T) (ls : mx_L) (st : List Value) (h : mx_H) (c n : Nat) : mx_G r (t_Hs_byteOf zz) 3 ls st h c n = (o_iload 1 2) r (mx_G r (t_Hs_byteOf zz)) 3 ls st h c n := mx_G_eq (tm_Hs_byteOf zz) r 3 ls st h c n
theorem st_Hs_byteOf_4 (zz : Nat × Nat) (r : mx_T) (ls : mx_L) (st : List Value) (h : mx_H) (c n : Nat) : mx_G r (t_Hs_byteOf zz) 4 ls st h c n = (o_ii (fun x y => x * y)) r (mx_G r (t_Hs_byteOf zz)) 4 ls st h c n := mx_G_eq (tm_Hs_byteOf zz) r 4 ls st h c n
theorem st_Hs_byteOf_5 (zz : Nat × Nat) (r : mx_T) (ls : mx_L) (st : List Value) (h : mx_H) (c n : Nat) : mx_G r (t_Hs_byteOf zz) 5 ls st h c n = (o_li (fun x y => (x.toUInt64 >>> (y.toInt64.toUInt64 &&& Int64.toUInt64 63)).toInt64)) r (mx_G r (t_Hs_byteOf zz)) 5 ls st h c n := mx_G_eq (tm_Hs_byteOf zz) r 5 ls st h c n
theorem st_Hs_byteOf_6 (zz : Nat × Nat) (r : mx_T) (ls : mx_L) (st : List Value) (h : mx_H) (c n : Nat) : mx_G r (t_Hs_byteOf zz) 6 ls st h c n = (o_l1 (fun x => .int x.toInt32)) r (mx_G r (t_Hs_byteOf zz)) 6 ls st h c n := mx_G_eq (tm_Hs_byteOf zz) r 6 ls st h c n
theorem st_Hs_byteOf_7 (zz : Nat × Nat) (r : mx_T) (ls : mx_L) (st : List Value) (h : mx_H) (c n : Nat) : mx_G r (t_Hs_byteOf zz) 7 ls st h c n = (o_push 3 (.int 255)) r (mx_G r (t_Hs_byteOf zz)) 7 ls st h c n := mx_G_eq (tm_Hs_byteOf zz) r 7 ls st h c n
theorem st_Hs_byteOf_10 (zz : Nat × Nat) (r : mx_T) (ls : mx_L) (st : List Value) (h : mx_H) (c n : Nat) : mx_G r (t_Hs_byteOf zz) 10 ls st h c n = (o_ii (fun x y => x &&& y)) r (mx_G r (t_Hs_byteOf zz)) 10 ls st h c n := mx_G_eq (tm_Hs_byteOf zz) r 10 ls st h c n
theorem st_Hs_byteOf_11 (zz : Nat × Nat) (r : mx_T) (ls : mx_L) (st : List Value) (h : mx_H) (c n : Nat) : mx_G r (t_Hs_byteOf zz) 11 ls st h c n = (o_iret) r (mx_G r (t_Hs_byteOf zz)) 11 ls st h c n := mx_G_eq (tm_Hs_byteOf zz) r 11 ls st h c n
theorem d_Fr_checksumUnder_0 : decode c_Fr_checksumUnder 0 = .ok (.aload_n 0, 1) := by decide +kernel
theorem d_Fr_checksumUnder_1 : decode c_Fr_checksumUnder 1 = .ok (.getfield 37, 3) := by decide +kernel
theorem d_Fr_checksumUnder_4 : decode c_Fr_checksumUnder 4 = .ok (.ifCond .eq 7, 3) := by decide +kernel
theorem d_Fr_checksumUnder_7 : decode c_Fr_checksumUnder 7 = .ok (.iload_n 1, 1) := by decide +kernel
theorem d_Fr_checksumUnder_8 : decode c_Fr_checksumUnder 8 = .ok (.goto 4, 3) := by decide +kernel
theorem d_Fr_checksumUnder_11 : decode c_Fr_checksumUnder 11 = .ok (.iconst 0, 1) := by decide +kernel
theorem d_Fr_checksumUnder_12 : decode c_Fr_checksumUnder 12 = .ok (.istore 4, 2) := by decide +kernel
theorem d_Fr_checksumUnder_14 : decode c_Fr_checksumUnder 14 = .ok (.iconst 0, 1) := by decide +kernel
theorem d_Fr_checksumUnder_15 : decode c_Fr_checksumUnder 15 = .ok (.istore 5, 2) := by decide +kernel
theorem d_Fr_checksumUnder_17 : decode c_Fr_checksumUnder 17 = .ok (.iload 5, 2) := by decide +kernel
theorem d_Fr_checksumUnder_19 : decode c_Fr_checksumUnder 19 = .ok (.aload_n 0, 1) := by decide +kernel
theorem d_Fr_checksumUnder_20 : decode c_Fr_checksumUnder 20 = .ok (.getfield 34, 3) := by decide +kernel
theorem d_Fr_checksumUnder_23 : decode c_Fr_checksumUnder 23 = .ok (.if_icmp .ge 34, 3) := by decide +kernel
theorem d_Fr_checksumUnder_26 : decode c_Fr_checksumUnder 26 = .ok (.iload 4, 2) := by decide +kernel
theorem d_Fr_checksumUnder_28 : decode c_Fr_checksumUnder 28 = .ok (.lload_n 2, 1) := by decide +kernel
theorem d_Fr_checksumUnder_29 : decode c_Fr_checksumUnder 29 = .ok (.iload 5, 2) := by decide +kernel
theorem d_Fr_checksumUnder_31 : decode c_Fr_checksumUnder 31 = .ok (.invokestatic 44, 3) := by decide +kernel
theorem d_Fr_checksumUnder_34 : decode c_Fr_checksumUnder 34 = .ok (.iadd, 1) := by decide +kernel
theorem d_Fr_checksumUnder_35 : decode c_Fr_checksumUnder 35 = .ok (.istore 4, 2) := by decide +kernel
theorem d_Fr_checksumUnder_37 : decode c_Fr_checksumUnder 37 = .ok (.iload 4, 2) := by decide +kernel
theorem d_Fr_checksumUnder_39 : decode c_Fr_checksumUnder 39 = .ok (.sipush 255, 3) := by decide +kernel
theorem d_Fr_checksumUnder_42 : decode c_Fr_checksumUnder 42 = .ok (.if_icmp .le 9, 3) := by decide +kernel
theorem d_Fr_checksumUnder_45 : decode c_Fr_checksumUnder 45 = .ok (.iinc 4 (-255), 6) := by decide +kernel
theorem d_Fr_checksumUnder_51 : decode c_Fr_checksumUnder 51 = .ok (.iinc 5 1, 3) := by decide +kernel
theorem d_Fr_checksumUnder_54 : decode c_Fr_checksumUnder 54 = .ok (.goto (-37), 3) := by decide +kernel
theorem d_Fr_checksumUnder_57 : decode c_Fr_checksumUnder 57 = .ok (.sipush 255, 3) := by decide +kernel
theorem d_Fr_checksumUnder_60 : decode c_Fr_checksumUnder 60 = .ok (.iload 4, 2) := by decide +kernel
theorem d_Fr_checksumUnder_62 : decode c_Fr_checksumUnder 62 = .ok (.isub, 1) := by decide +kernel
theorem d_Fr_checksumUnder_63 : decode c_Fr_checksumUnder 63 = .ok (.ireturn, 1) := by decide +kernel
def t_Fr_checksumUnder (zz : Nat × Nat) : List (Nat × mx_O) := [(0, o_aload 1 0),
  (1, o_get 1 4),
  (4, o_if 11 (fun x => x = 0)),
  (7, o_iload 1 1),
  (8, o_goto 12),
  (11, o_push 1 (.int 0)),
  (12, o_istore 2 4),
  (14, o_push 1 (.int 0)),
  (15, o_istore 2 5),
  (17, o_iload 2 5),
  (19, o_aload 1 0),
  (20, o_get 1 3),
  (23, o_icmp 57 (fun x y => y ≤ x)),
  (26, o_iload 2 4),
  (28, o_lload 1 2),
  (29, o_iload 2 5),
  (31, o_call 0 0 2 0 0 (fun _ _ => True) (S_Hs_byteOf zz)),
  (34, o_ii (fun x y => x + y)),
  (35, o_istore 2 4),
  (37, o_iload 2 4),
  (39, o_push 3 (.int 255)),
  (42, o_icmp 51 (fun x y => x ≤ y)),
  (45, o_iincW 4 (-255)),
  (51, o_iinc 5 1),
  (54, o_goto 17),
  (57, o_push 3 (.int 255)),
  (60, o_iload 2 4),
  (62, o_ii (fun x y => x - y)),
  (63, o_iret)]
set_option maxRecDepth 100000 in
theorem tm_Fr_checksumUnder (zz : Nat × Nat) : mx_All (fun _ o => mx_Mono o) (t_Fr_checksumUnder zz) := by
  refine mx_all_cons (mo_st) ?_
  refine mx_all_cons (mo_st) ?_
  refine mx_all_cons (mo_br) ?_
  refine mx_all_cons (mo_st) ?_
  refine mx_all_cons (mo_st) ?_
  refine mx_all_cons (mo_st) ?_
  refine mx_all_cons (mo_st) ?_
  refine mx_all_cons (mo_st) ?_
  refine mx_all_cons (mo_st) ?_
  refine mx_all_cons (mo_st) ?_
  refine mx_all_cons (mo_st) ?_
  refine mx_all_cons (mo_st) ?_
  refine mx_all_cons (mo_br) ?_
  refine mx_all_cons (mo_st) ?_
  refine mx_all_cons (mo_st) ?_
  refine mx_all_cons (mo_st) ?_
  refine mx_all_cons (mo_call (sm_Hs_byteOf zz)) ?_
  refine mx_all_cons (mo_st) ?_
  refine mx_all_cons (mo_st) ?_
  refine mx_all_cons (mo_st) ?_
  refine mx_all_cons (mo_st) ?_
  refine mx_all_cons (mo_br) ?_
  refine mx_all_cons (mo_st) ?_
  refine mx_all_cons (mo_st) ?_
  refine mx_all_cons (mo_st) ?_
  refine mx_all_cons (mo_st) ?_
  refine mx_all_cons (mo_st) ?_
  refine mx_all_cons (mo_st) ?_
  refine mx_all_cons (mo_ret) ?_
  exact mx_all_nil
def S_Fr_checksumUnder (zz : Nat × Nat) : mx_Sp := mx_S 6 0 0 (t_Fr_checksumUnder zz)
theorem sm_Fr_checksumUnder (zz : Nat × Nat) : mx_SMono (S_Fr_checksumUnder zz) := mx_S_mono (tm_Fr_checksumUnder zz)
abbrev rm_Fr_checksumUnder : Room := { frames := 1, cells := 0, slots := 0, locals := 22 }
set_option maxHeartbeats 4000000 in
set_option maxRecDepth 100000 in
theorem m_Fr_checksumUnder (l : Launch) (zz : Nat × Nat) : mx_Met l y_Fr_checksumUnder (wsOf y_Fr_checksumUnder c_Fr_checksumUnder 6 (some .int)) rm_Fr_checksumUnder wcl (mx_Z zz) 0 0 (S_Fr_checksumUnder zz) := by
  refine mx_met (cc := c_Fr_checksumUnder) (ret := (some .int)) (by decide) rfl ?_
  intro p e s m args below meth c D A Post X hz hr hlk hnm
  have hm : ∀ w ∈ mw, w.before args s = true := fun w h => X.1.2.2.2.2 w (List.mem_cons_of_mem _ h)
  refine mx_all_cons (ok_aload (fun hl kk => lv_aload_n X.1.1 X.1.2.1 d_Fr_checksumUnder_0 rfl hl kk) (fun hl kk => lv_aload_nN X.1.1 X.1.2.1 d_Fr_checksumUnder_0 rfl hl kk)) ?_
  refine mx_all_cons (ok_get (C := "HeaderSchedule$Frame") (T := T_Fr) (N := 8) X (mw_up in_Fr) rfl 4 (by decide) (hm _ w230) (fun _ h9 => h9) d_Fr_checksumUnder_1) ?_
  refine mx_all_cons (ok_if (fun kt kf => lv_if_eq X.1.1 X.1.2.1 d_Fr_checksumUnder_4 (by decide) kt kf)) ?_
  refine mx_all_cons (ok_iload (fun hl kk => lv_iload_n X.1.1 X.1.2.1 d_Fr_checksumUnder_7 rfl hl kk)) ?_
  refine mx_all_cons (ok_goto X d_Fr_checksumUnder_8 (by decide)) ?_
  refine mx_all_cons (ok_push (fun kk => lv_iconst X.1.1 X.1.2.1 d_Fr_checksumUnder_11 (by decide) kk)) ?_
  refine mx_all_cons (ok_istore (fun hl kk => lv_istore X.1.1 X.1.2.1 d_Fr_checksumUnder_12 hl (by decide) rfl kk)) ?_
  refine mx_all_cons (ok_push (fun kk => lv_iconst X.1.1 X.1.2.1 d_Fr_checksumUnder_14 (by decide) kk)) ?_
  refine mx_all_cons (ok_istore (fun hl kk => lv_istore X.1.1 X.1.2.1 d_Fr_checksumUnder_15 hl (by decide) rfl kk)) ?_
  refine mx_all_cons (ok_iload (fun hl kk => lv_iload X.1.1 X.1.2.1 d_Fr_checksumUnder_17 hl kk)) ?_
  refine mx_all_cons (ok_aload (fun hl kk => lv_aload_n X.1.1 X.1.2.1 d_Fr_checksumUnder_19 rfl hl kk) (fun hl kk => lv_aload_nN X.1.1 X.1.2.1 d_Fr_checksumUnder_19 rfl hl kk)) ?_
  refine mx_all_cons (ok_get (C := "HeaderSchedule$Frame") (T := T_Fr) (N := 8) X (mw_up in_Fr) rfl 3 (by decide) (hm _ w227) (fun _ h9 => h9) d_Fr_checksumUnder_20) ?_
  refine mx_all_cons (ok_icmp (fun kt kf => lv_icmp_ge X.1.1 X.1.2.1 d_Fr_checksumUnder_23 (by decide) kt kf)) ?_
  refine mx_all_cons (ok_iload (fun hl kk => lv_iload X.1.1 X.1.2.1 d_Fr_checksumUnder_26 hl kk)) ?_
  refine mx_all_cons (ok_lload (fun hl kk => lv_lload_n X.1.1 X.1.2.1 d_Fr_checksumUnder_28 rfl hl kk)) ?_
  refine mx_all_cons (ok_iload (fun hl kk => lv_iload X.1.1 X.1.2.1 d_Fr_checksumUnder_29 hl kk)) ?_
  refine mx_all_cons (ok_callSN X (mx_Zok_Z zz) hz ⟨(Nat.le_of_ble_eq_true rfl), (Nat.le_of_ble_eq_true rfl)⟩ (m_Hs_byteOf l zz) ⟨mx_cnB 2 hm w586 (hz.2.2.1 (.methodLinkNest "HeaderSchedule$Frame" 44 y_Hs_byteOf "HeaderSchedule") (by decide +kernel)) w33 rfl rfl (by decide +kernel) ⟨(Nat.le_of_ble_eq_true rfl), (Nat.le_of_ble_eq_true rfl)⟩, (hm _ w585), trivial⟩ d_Fr_checksumUnder_31) ?_
  refine mx_all_cons (ok_ii (fun kk => lv_iadd X.1.1 X.1.2.1 d_Fr_checksumUnder_34 kk)) ?_
  refine mx_all_cons (ok_istore (fun hl kk => lv_istore X.1.1 X.1.2.1 d_Fr_checksumUnder_35 hl (by decide) rfl kk)) ?_
  refine mx_all_cons (ok_iload (fun hl kk => lv_iload X.1.1 X.1.2.1 d_Fr_checksumUnder_37 hl kk)) ?_
  refine mx_all_cons (ok_push (fun kk => lv_sipush X.1.1 X.1.2.1 d_Fr_checksumUnder_39 (by decide) kk)) ?_
  refine mx_all_cons (ok_icmp (fun kt kf => lv_icmp_le X.1.1 X.1.2.1 d_Fr_checksumUnder_42 (by decide) kt kf)) ?_
  refine mx_all_cons (ok_iincW X (by decide) (by decide) d_Fr_checksumUnder_45) ?_
  refine mx_all_cons (ok_iinc X (by decide) (by decide) d_Fr_checksumUnder_51) ?_
  refine mx_all_cons (ok_goto X d_Fr_checksumUnder_54 (by decide)) ?_
  refine mx_all_cons (ok_push (fun kk => lv_sipush X.1.1 X.1.2.1 d_Fr_checksumUnder_57 (by decide) kk)) ?_
  refine mx_all_cons (ok_iload (fun hl kk => lv_iload X.1.1 X.1.2.1 d_Fr_checksumUnder_60 hl kk)) ?_
  refine mx_all_cons (ok_ii (fun kk => lv_isub X.1.1 X.1.2.1 d_Fr_checksumUnder_62 kk)) ?_
  refine mx_all_cons (ok_iret X hr hlk d_Fr_checksumUnder_63) ?_
  exact mx_all_nil
theorem st_Fr_checksumUnder_0 (zz : Nat × Nat) (r : mx_T) (ls : mx_L) (st : List Value) (h : mx_H) (c n : Nat) : mx_G r (t_Fr_checksumUnder zz) 0 ls st h c n = (o_aload 1 0) r (mx_G r (t_Fr_checksumUnder zz)) 0 ls st h c n := mx_G_eq (tm_Fr_checksumUnder zz) r 0 ls st h c n
theorem st_Fr_checksumUnder_1 (zz : Nat × Nat) (r : mx_T) (ls : mx_L) (st : List Value) (h : mx_H) (c n : Nat) : mx_G r (t_Fr_checksumUnder zz) 1 ls st h c n = (o_get 1 4) r (mx_G r (t_Fr_checksumUnder zz)) 1 ls st h c n := mx_G_eq (tm_Fr_checksumUnder zz) r 1 ls st h c n
theorem st_Fr_checksumUnder_4 (zz : Nat × Nat) (r : mx_T) (ls : mx_L) (st : List Value) (h : mx_H) (c n : Nat) : mx_G r (t_Fr_checksumUnder zz) 4 ls st h c n = (o_if 11 (fun x => x = 0)) r (mx_G r (t_Fr_checksumUnder zz)) 4 ls st h c n := mx_G_eq (tm_Fr_checksumUnder zz) r 4 ls st h c n
theorem st_Fr_checksumUnder_7 (zz : Nat × Nat) (r : mx_T) (ls : mx_L) (st : List Value) (h : mx_H) (c n : Nat) : mx_G r (t_Fr_checksumUnder zz) 7 ls st h c n = (o_iload 1 1) r (mx_G r (t_Fr_checksumUnder zz)) 7 ls st h c n := mx_G_eq (tm_Fr_checksumUnder zz) r 7 ls st h c n
theorem st_Fr_checksumUnder_8 (zz : Nat × Nat) (r : mx_T) (ls : mx_L) (st : List Value) (h : mx_H) (c n : Nat) : mx_G r (t_Fr_checksumUnder zz) 8 ls st h c n = (o_goto 12) r (mx_G r (t_Fr_checksumUnder zz)) 8 ls st h c n := mx_G_eq (tm_Fr_checksumUnder zz) r 8 ls st h c n
theorem st_Fr_checksumUnder_11 (zz : Nat × Nat) (r : mx_T) (ls : mx_L) (st : List Value) (h : mx_H) (c n : Nat) : mx_G r (t_Fr_checksumUnder zz) 11 ls st h c n = (o_push 1 (.int 0)) r (mx_G r (t_Fr_checksumUnder zz)) 11 ls st h c n := mx_G_eq (tm_Fr_checksumUnder zz) r 11 ls st h c n
theorem st_Fr_checksumUnder_12 (zz : Nat × Nat) (r : mx_T) (ls : mx_L) (st : List Value) (h : mx_H) (c n : Nat) : mx_G r (t_Fr_checksumUnder zz) 12 ls st h c n = (o_istore 2 4) r (mx_G r (t_Fr_checksumUnder zz)) 12 ls st h c n := mx_G_eq (tm_Fr_checksumUnder zz) r 12 ls st h c n
theorem st_Fr_checksumUnder_14 (zz : Nat × Nat) (r : mx_T) (ls : mx_L) (st : List Value) (h : mx_H) (c n : Nat) : mx_G r (t_Fr_checksumUnder zz) 14 ls st h c n = (o_push 1 (.int 0)) r (mx_G r (t_Fr_checksumUnder zz)) 14 ls st h c n := mx_G_eq (tm_Fr_checksumUnder zz) r 14 ls st h c n
theorem st_Fr_checksumUnder_15 (zz : Nat × Nat) (r : mx_T) (ls : mx_L) (st : List Value) (h : mx_H) (c n : Nat) : mx_G r (t_Fr_checksumUnder zz) 15 ls st h c n = (o_istore 2 5) r (mx_G r (t_Fr_checksumUnder zz)) 15 ls st h c n := mx_G_eq (tm_Fr_checksumUnder zz) r 15 ls st h c n
theorem st_Fr_checksumUnder_17 (zz : Nat × Nat) (r : mx_T) (ls : mx_L) (st : List Value) (h : mx_H) (c n : Nat) : mx_G r (t_Fr_checksumUnder zz) 17 ls st h c n = (o_iload 2 5) r (mx_G r (t_Fr_checksumUnder zz)) 17 ls st h c n := mx_G_eq (tm_Fr_checksumUnder zz) r 17 ls st h c n
theorem st_Fr_checksumUnder_19 (zz : Nat × Nat) (r : mx_T) (ls : mx_L) (st : List Value) (h : mx_H) (c n : Nat) : mx_G r (t_Fr_checksumUnder zz) 19 ls st h c n = (o_aload 1 0) r (mx_G r (t_Fr_checksumUnder zz)) 19 ls st h c n := mx_G_eq (tm_Fr_checksumUnder zz) r 19 ls st h c n
theorem st_Fr_checksumUnder_20 (zz : Nat × Nat) (r : mx_T) (ls : mx_L) (st : List Value) (h : mx_H) (c n : Nat) : mx_G r (t_Fr_checksumUnder zz) 20 ls st h c n = (o_get 1 3) r (mx_G r (t_Fr_checksumUnder zz)) 20 ls st h c n := mx_G_eq (tm_Fr_checksumUnder zz) r 20 ls st h c n
theorem st_Fr_checksumUnder_23 (zz : Nat × Nat) (r : mx_T) (ls : mx_L) (st : List Value) (h : mx_H) (c n : Nat) : mx_G r (t_Fr_checksumUnder zz) 23 ls st h c n = (o_icmp 57 (fun x y => y ≤ x)) r (mx_G r (t_Fr_checksumUnder zz)) 23 ls st h c n := mx_G_eq (tm_Fr_checksumUnder zz) r 23 ls st h c n
theorem st_Fr_checksumUnder_26 (zz : Nat × Nat) (r : mx_T) (ls : mx_L) (st : List Value) (h : mx_H) (c n : Nat) : mx_G r (t_Fr_checksumUnder zz) 26 ls st h c n = (o_iload 2 4) r (mx_G r (t_Fr_checksumUnder zz)) 26 ls st h c n := mx_G_eq (tm_Fr_checksumUnder zz) r 26 ls st h c n
theorem st_Fr_checksumUnder_28 (zz : Nat × Nat) (r : mx_T) (ls : mx_L) (st : List Value) (h : mx_H) (c n : Nat) : mx_G r (t_Fr_checksumUnder zz) 28 ls st h c n = (o_lload 1 2) r (mx_G r (t_Fr_checksumUnder zz)) 28 ls st h c n := mx_G_eq (tm_Fr_checksumUnder zz) r 28 ls st h c n
theorem st_Fr_checksumUnder_29 (zz : Nat × Nat) (r : mx_T) (ls : mx_L) (st : List Value) (h : mx_H) (c n : Nat) : mx_G r (t_Fr_checksumUnder zz) 29 ls st h c n = (o_iload 2 5) r (mx_G r (t_Fr_checksumUnder zz)) 29 ls st h c n := mx_G_eq (tm_Fr_checksumUnder zz) r 29 ls st h c n
theorem st_Fr_checksumUnder_31 (zz : Nat × Nat) (r : mx_T) (ls : mx_L) (st : List Value) (h : mx_H) (c n : Nat) : mx_G r (t_Fr_checksumUnder zz) 31 ls st h c n = (o_call 0 0 2 0 0 (fun _ _ => True) (S_Hs_byteOf zz)) r (mx_G r (t_Fr_checksumUnder zz)) 31 ls st h c n := mx_G_eq (tm_Fr_checksumUnder zz) r 31 ls st h c n
theorem st_Fr_checksumUnder_34 (zz : Nat × Nat) (r : mx_T) (ls : mx_L) (st : List Value) (h : mx_H) (c n : Nat) : mx_G r (t_Fr_checksumUnder zz) 34 ls st h c n = (o_ii (fun x y => x + y)) r (mx_G r (t_Fr_checksumUnder zz)) 34 ls st h c n := mx_G_eq (tm_Fr_checksumUnder zz) r 34 ls st h c n
theorem st_Fr_checksumUnder_35 (zz : Nat × Nat) (r : mx_T) (ls : mx_L) (st : List Value) (h : mx_H) (c n : Nat) : mx_G r (t_Fr_checksumUnder zz) 35 ls st h c n = (o_istore 2 4) r (mx_G r (t_Fr_checksumUnder zz)) 35 ls st h c n := mx_G_eq (tm_Fr_checksumUnder zz) r 35 ls st h c n
theorem st_Fr_checksumUnder_37 (zz : Nat × Nat) (r : mx_T) (ls : mx_L) (st : List Value) (h : mx_H) (c n : Nat) : mx_G r (t_Fr_checksumUnder zz) 37 ls st h c n = (o_iload 2 4) r (mx_G r (t_Fr_checksumUnder zz)) 37 ls st h c n := mx_G_eq (tm_Fr_checksumUnder zz) r 37 ls st h c n
theorem st_Fr_checksumUnder_39 (zz : Nat × Nat) (r : mx_T) (ls : mx_L) (st : List Value) (h : mx_H) (c n : Nat) : mx_G r (t_Fr_checksumUnder zz) 39 ls st h c n = (o_push 3 (.int 255)) r (mx_G r (t_Fr_checksumUnder zz)) 39 ls st h c n := mx_G_eq (tm_Fr_checksumUnder zz) r 39 ls st h c n
theorem st_Fr_checksumUnder_42 (zz : Nat × Nat) (r : mx_T) (ls : mx_L) (st : List Value) (h : mx_H) (c n : Nat) : mx_G r (t_Fr_checksumUnder zz) 42 ls st h c n = (o_icmp 51 (fun x y => x ≤ y)) r (mx_G r (t_Fr_checksumUnder zz)) 42 ls st h c n := mx_G_eq (tm_Fr_checksumUnder zz) r 42 ls st h c n
theorem st_Fr_checksumUnder_45 (zz : Nat × Nat) (r : mx_T) (ls : mx_L) (st : List Value) (h : mx_H) (c n : Nat) : mx_G r (t_Fr_checksumUnder zz) 45 ls st h c n = (o_iincW 4 (-255)) r (mx_G r (t_Fr_checksumUnder zz)) 45 ls st h c n := mx_G_eq (tm_Fr_checksumUnder zz) r 45 ls st h c n
theorem st_Fr_checksumUnder_51 (zz : Nat × Nat) (r : mx_T) (ls : mx_L) (st : List Value) (h : mx_H) (c n : Nat) : mx_G r (t_Fr_checksumUnder zz) 51 ls st h c n = (o_iinc 5 1) r (mx_G r (t_Fr_checksumUnder zz)) 51 ls st h c n := mx_G_eq (tm_Fr_checksumUnder zz) r 51 ls st h c n
theorem st_Fr_checksumUnder_54 (zz : Nat × Nat) (r : mx_T) (ls : mx_L) (st : List Value) (h : mx_H) (c n : Nat) : mx_G r (t_Fr_checksumUnder zz) 54 ls st h c n = (o_goto 17) r (mx_G r (t_Fr_checksumUnder zz)) 54 ls st h c n := mx_G_eq (tm_Fr_checksumUnder zz) r 54 ls st h c n
theorem st_Fr_checksumUnder_57 (zz : Nat × Nat) (r : mx_T) (ls : mx_L) (st : List Value) (h : mx_H) (c n : Nat) : mx_G r (t_Fr_checksumUnder zz) 57 ls st h c n = (o_push 3 (.int 255)) r (mx_G r (t_Fr_checksumUnder zz)) 57 ls st h c n := mx_G_eq (tm_Fr_checksumUnder zz) r 57 ls st h c n
theorem st_Fr_checksumUnder_60 (zz : Nat × Nat) (r : mx_T) (ls : mx_L) (st : List Value) (h : mx_H) (c n : Nat) : mx_G r (t_Fr_checksumUnder zz) 60 ls st h c n = (o_iload 2 4) r (mx_G r (t_Fr_checksumUnder zz)) 60 ls st h c n := mx_G_eq (tm_Fr_checksumUnder zz) r 60 ls st h c n
theorem st_Fr_checksumUnder_62 (zz : Nat × Nat) (r : mx_T) (ls : mx_L) (st : List Value) (h : mx_H) (c n : Nat) : mx_G r (t_Fr_checksumUnder zz) 62 ls st h c n = (o_ii (fun x y => x - y)) r (mx_G r (t_Fr_checksumUnder zz)) 62 ls st h c n := mx_G_eq (tm_Fr_checksumUnder zz) r 62 ls st h c n
theorem st_Fr_checksumUnder_63 (zz : Nat × Nat) (r : mx_T) (ls : mx_L) (st : List Value) (h : mx_H) (c n : Nat) : mx_G r (t_Fr_checksumUnder zz) 63 ls st h c n = (o_iret) r (mx_G r (t_Fr_checksumUnder zz)) 63 ls st h c n := mx_G_eq (tm_Fr_checksumUnder zz) r 63 ls st h c n
theorem d_Wi_disturb_0 : decode c_Wi_disturb 0 = .ok (.aload_n 0, 1) := by decide +kernel
theorem d_Wi_disturb_1 : decode c_Wi_disturb 1 = .ok (.getfield 19, 3) := by decide +kernel
theorem d_Wi_disturb_4 : decode c_Wi_disturb 4 = .ok (.iconst 1, 1) := by decide +kernel
theorem d_Wi_disturb_5 : decode c_Wi_disturb 5 = .ok (.iadd, 1) := by decide +kernel
theorem d_Wi_disturb_6 : decode c_Wi_disturb 6 = .ok (.istore_n 1, 1) := by decide +kernel
theorem d_Wi_disturb_7 : decode c_Wi_disturb 7 = .ok (.aload_n 0, 1) := by decide +kernel
theorem d_Wi_disturb_8 : decode c_Wi_disturb 8 = .ok (.getfield 19, 3) := by decide +kernel
theorem d_Wi_disturb_11 : decode c_Wi_disturb 11 = .ok (.iconst (-1), 1) := by decide +kernel
theorem d_Wi_disturb_12 : decode c_Wi_disturb 12 = .ok (.if_icmp .eq 24, 3) := by decide +kernel
theorem d_Wi_disturb_15 : decode c_Wi_disturb 15 = .ok (.iload_n 1, 1) := by decide +kernel
theorem d_Wi_disturb_16 : decode c_Wi_disturb 16 = .ok (.aload_n 0, 1) := by decide +kernel
theorem d_Wi_disturb_17 : decode c_Wi_disturb 17 = .ok (.getfield 15, 3) := by decide +kernel
theorem d_Wi_disturb_20 : decode c_Wi_disturb 20 = .ok (.if_icmp .ge 16, 3) := by decide +kernel
theorem d_Wi_disturb_23 : decode c_Wi_disturb 23 = .ok (.aload_n 0, 1) := by decide +kernel
theorem d_Wi_disturb_24 : decode c_Wi_disturb 24 = .ok (.getfield 9, 3) := by decide +kernel
theorem d_Wi_disturb_27 : decode c_Wi_disturb 27 = .ok (.iload_n 1, 1) := by decide +kernel
theorem d_Wi_disturb_28 : decode c_Wi_disturb 28 = .ok (.dup2, 1) := by decide +kernel
theorem d_Wi_disturb_29 : decode c_Wi_disturb 29 = .ok (.iaload, 1) := by decide +kernel
theorem d_Wi_disturb_30 : decode c_Wi_disturb 30 = .ok (.aload_n 0, 1) := by decide +kernel
theorem d_Wi_disturb_31 : decode c_Wi_disturb 31 = .ok (.getfield 22, 3) := by decide +kernel
theorem d_Wi_disturb_34 : decode c_Wi_disturb 34 = .ok (.ixor, 1) := by decide +kernel
theorem d_Wi_disturb_35 : decode c_Wi_disturb 35 = .ok (.iastore, 1) := by decide +kernel
theorem d_Wi_disturb_36 : decode c_Wi_disturb 36 = .ok (.aload_n 0, 1) := by decide +kernel
theorem d_Wi_disturb_37 : decode c_Wi_disturb 37 = .ok (.iconst (-1), 1) := by decide +kernel
theorem d_Wi_disturb_38 : decode c_Wi_disturb 38 = .ok (.putfield 19, 3) := by decide +kernel
theorem d_Wi_disturb_41 : decode c_Wi_disturb 41 = .ok (.return_, 1) := by decide +kernel
def t_Wi_disturb (zz : Nat × Nat) : List (Nat × mx_O) := [(0, o_aload 1 0),
  (1, o_get 8 2),
  (4, o_push 1 (.int 1)),
  (5, o_ii (fun x y => x + y)),
  (6, o_istore 1 1),
  (7, o_aload 1 0),
  (8, o_get 8 2),
  (11, o_push 1 (.int (-1))),
  (12, o_icmp 36 (fun x y => x = y)),
  (15, o_iload 1 1),
  (16, o_aload 1 0),
  (17, o_get 8 1),
  (20, o_icmp 36 (fun x y => y ≤ x)),
  (23, o_aload 1 0),
  (24, o_get 8 0),
  (27, o_iload 1 1),
  (28, o_dup2),
  (29, o_iald .int),
  (30, o_aload 1 0),
  (31, o_get 8 3),
  (34, o_ii (fun x y => x ^^^ y)),
  (35, o_iast .int (fun x => x)),
  (36, o_aload 1 0),
  (37, o_push 1 (.int (-1))),
  (38, o_put 8 2 mx_vI),
  (41, o_vret)]
set_option maxRecDepth 100000 in
theorem tm_Wi_disturb (zz : Nat × Nat) : mx_All (fun _ o => mx_Mono o) (t_Wi_disturb zz) := by
  refine mx_all_cons (mo_st) ?_
  refine mx_all_cons (mo_st) ?_
  refine mx_all_cons (mo_st) ?_
  refine mx_all_cons (mo_st) ?_
  refine mx_all_cons (mo_st) ?_
  refine mx_all_cons (mo_st) ?_
  refine mx_all_cons (mo_st) ?_
  refine mx_all_cons (mo_st) ?_
  refine mx_all_cons (mo_br) ?_
  refine mx_all_cons (mo_st) ?_
  refine mx_all_cons (mo_st) ?_
  refine mx_all_cons (mo_st) ?_
  refine mx_all_cons (mo_br) ?_
  refine mx_all_cons (mo_st) ?_
  refine mx_all_cons (mo_st) ?_
  refine mx_all_cons (mo_st) ?_
  refine mx_all_cons (mo_st) ?_
  refine mx_all_cons (mo_sc) ?_
  refine mx_all_cons (mo_st) ?_
  refine mx_all_cons (mo_st) ?_
  refine mx_all_cons (mo_st) ?_
  refine mx_all_cons (mo_sc) ?_
  refine mx_all_cons (mo_st) ?_
  refine mx_all_cons (mo_st) ?_
  refine mx_all_cons (mo_sc) ?_
  refine mx_all_cons (mo_ret) ?_
  exact mx_all_nil
def S_Wi_disturb (zz : Nat × Nat) : mx_Sp := mx_S 2 0 0 (t_Wi_disturb zz)
theorem sm_Wi_disturb (zz : Nat × Nat) : mx_SMono (S_Wi_disturb zz) := mx_S_mono (tm_Wi_disturb zz)
abbrev rm_Wi_disturb : Room := { frames := 0, cells := 0, slots := 0, locals := 0 }
set_option maxHeartbeats 4000000 in
set_option maxRecDepth 100000 in
theorem m_Wi_disturb (l : Launch) (zz : Nat × Nat) : mx_Met l y_Wi_disturb (wsOf y_Wi_disturb c_Wi_disturb 2 none) rm_Wi_disturb wcl (mx_Z zz) 0 0 (S_Wi_disturb zz) := by
  refine mx_met (cc := c_Wi_disturb) (ret := none) (by decide) rfl ?_
  intro p e s m args below meth c D A Post X hz hr hlk hnm
  have hm : ∀ w ∈ mw, w.before args s = true := fun w h => X.1.2.2.2.2 w (List.mem_cons_of_mem _ h)
  refine mx_all_cons (ok_aload (fun hl kk => lv_aload_n X.1.1 X.1.2.1 d_Wi_disturb_0 rfl hl kk) (fun hl kk => lv_aload_nN X.1.1 X.1.2.1 d_Wi_disturb_0 rfl hl kk)) ?_
  refine mx_all_cons (ok_get (C := "HeaderSchedule$Wire") (T := T_Wi) (N := 4) X (mw_up in_Wi) rfl 2 (by decide) (hm _ w144) (fun _ h9 => h9) d_Wi_disturb_1) ?_
  refine mx_all_cons (ok_push (fun kk => lv_iconst X.1.1 X.1.2.1 d_Wi_disturb_4 (by decide) kk)) ?_
  refine mx_all_cons (ok_ii (fun kk => lv_iadd X.1.1 X.1.2.1 d_Wi_disturb_5 kk)) ?_
  refine mx_all_cons (ok_istore (fun hl kk => lv_istore_n X.1.1 X.1.2.1 d_Wi_disturb_6 rfl hl (by decide) rfl kk)) ?_
  refine mx_all_cons (ok_aload (fun hl kk => lv_aload_n X.1.1 X.1.2.1 d_Wi_disturb_7 rfl hl kk) (fun hl kk => lv_aload_nN X.1.1 X.1.2.1 d_Wi_disturb_7 rfl hl kk)) ?_
  refine mx_all_cons (ok_get (C := "HeaderSchedule$Wire") (T := T_Wi) (N := 4) X (mw_up in_Wi) rfl 2 (by decide) (hm _ w144) (fun _ h9 => h9) d_Wi_disturb_8) ?_
  refine mx_all_cons (ok_push (fun kk => lv_iconst X.1.1 X.1.2.1 d_Wi_disturb_11 (by decide) kk)) ?_
  refine mx_all_cons (ok_icmp (fun kt kf => lv_icmp_eq X.1.1 X.1.2.1 d_Wi_disturb_12 (by decide) kt kf)) ?_
  refine mx_all_cons (ok_iload (fun hl kk => lv_iload_n X.1.1 X.1.2.1 d_Wi_disturb_15 rfl hl kk)) ?_
  refine mx_all_cons (ok_aload (fun hl kk => lv_aload_n X.1.1 X.1.2.1 d_Wi_disturb_16 rfl hl kk) (fun hl kk => lv_aload_nN X.1.1 X.1.2.1 d_Wi_disturb_16 rfl hl kk)) ?_
  refine mx_all_cons (ok_get (C := "HeaderSchedule$Wire") (T := T_Wi) (N := 4) X (mw_up in_Wi) rfl 1 (by decide) (hm _ w143) (fun _ h9 => h9) d_Wi_disturb_17) ?_
  refine mx_all_cons (ok_icmp (fun kt kf => lv_icmp_ge X.1.1 X.1.2.1 d_Wi_disturb_20 (by decide) kt kf)) ?_
  refine mx_all_cons (ok_aload (fun hl kk => lv_aload_n X.1.1 X.1.2.1 d_Wi_disturb_23 rfl hl kk) (fun hl kk => lv_aload_nN X.1.1 X.1.2.1 d_Wi_disturb_23 rfl hl kk)) ?_
  refine mx_all_cons (ok_get (C := "HeaderSchedule$Wire") (T := T_Wi) (N := 4) X (mw_up in_Wi) rfl 0 (by decide) (hm _ w142) (fun _ h9 => h9) d_Wi_disturb_24) ?_
  refine mx_all_cons (ok_iload (fun hl kk => lv_iload_n X.1.1 X.1.2.1 d_Wi_disturb_27 rfl hl kk)) ?_
  refine mx_all_cons (ok_dup2 X d_Wi_disturb_28) ?_
  refine mx_all_cons (ok_iald X d_Wi_disturb_29) ?_
  refine mx_all_cons (ok_aload (fun hl kk => lv_aload_n X.1.1 X.1.2.1 d_Wi_disturb_30 rfl hl kk) (fun hl kk => lv_aload_nN X.1.1 X.1.2.1 d_Wi_disturb_30 rfl hl kk)) ?_
  refine mx_all_cons (ok_get (C := "HeaderSchedule$Wire") (T := T_Wi) (N := 4) X (mw_up in_Wi) rfl 3 (by decide) (hm _ w146) (fun _ h9 => h9) d_Wi_disturb_31) ?_
  refine mx_all_cons (ok_ii (fun kk => lv_ixor X.1.1 X.1.2.1 d_Wi_disturb_34 kk)) ?_
  refine mx_all_cons (ok_iast X d_Wi_disturb_35) ?_
  refine mx_all_cons (ok_aload (fun hl kk => lv_aload_n X.1.1 X.1.2.1 d_Wi_disturb_36 rfl hl kk) (fun hl kk => lv_aload_nN X.1.1 X.1.2.1 d_Wi_disturb_36 rfl hl kk)) ?_
  refine mx_all_cons (ok_push (fun kk => lv_iconst X.1.1 X.1.2.1 d_Wi_disturb_37 (by decide) kk)) ?_
  refine mx_all_cons (ok_put (C := "HeaderSchedule$Wire") (T := T_Wi) (N := 4) X (mw_up in_Wi) ty_Wi tyok_Wi nm_Wi rfl 2 (by decide) (hm _ w144) (fun _ h9 => h9) rfl (tyok_Wi 2 (by decide)) mx_vI_ok d_Wi_disturb_38) ?_
  refine mx_all_cons (ok_vret X hr hlk d_Wi_disturb_41) ?_
  exact mx_all_nil
theorem st_Wi_disturb_0 (zz : Nat × Nat) (r : mx_T) (ls : mx_L) (st : List Value) (h : mx_H) (c n : Nat) : mx_G r (t_Wi_disturb zz) 0 ls st h c n = (o_aload 1 0) r (mx_G r (t_Wi_disturb zz)) 0 ls st h c n := mx_G_eq (tm_Wi_disturb zz) r 0 ls st h c n
theorem st_Wi_disturb_1 (zz : Nat × Nat) (r : mx_T) (ls : mx_L) (st : List Value) (h : mx_H) (c n : Nat) : mx_G r (t_Wi_disturb zz) 1 ls st h c n = (o_get 8 2) r (mx_G r (t_Wi_disturb zz)) 1 ls st h c n := mx_G_eq (tm_Wi_disturb zz) r 1 ls st h c n
theorem st_Wi_disturb_4 (zz : Nat × Nat) (r : mx_T) (ls : mx_L) (st : List Value) (h : mx_H) (c n : Nat) : mx_G r (t_Wi_disturb zz) 4 ls st h c n = (o_push 1 (.int 1)) r (mx_G r (t_Wi_disturb zz)) 4 ls st h c n := mx_G_eq (tm_Wi_disturb zz) r 4 ls st h c n
theorem st_Wi_disturb_5 (zz : Nat × Nat) (r : mx_T) (ls : mx_L) (st : List Value) (h : mx_H) (c n : Nat) : mx_G r (t_Wi_disturb zz) 5 ls st h c n = (o_ii (fun x y => x + y)) r (mx_G r (t_Wi_disturb zz)) 5 ls st h c n := mx_G_eq (tm_Wi_disturb zz) r 5 ls st h c n
theorem st_Wi_disturb_6 (zz : Nat × Nat) (r : mx_T) (ls : mx_L) (st : List Value) (h : mx_H) (c n : Nat) : mx_G r (t_Wi_disturb zz) 6 ls st h c n = (o_istore 1 1) r (mx_G r (t_Wi_disturb zz)) 6 ls st h c n := mx_G_eq (tm_Wi_disturb zz) r 6 ls st h c n
theorem st_Wi_disturb_7 (zz : Nat × Nat) (r : mx_T) (ls : mx_L) (st : List Value) (h : mx_H) (c n : Nat) : mx_G r (t_Wi_disturb zz) 7 ls st h c n = (o_aload 1 0) r (mx_G r (t_Wi_disturb zz)) 7 ls st h c n := mx_G_eq (tm_Wi_disturb zz) r 7 ls st h c n
theorem st_Wi_disturb_8 (zz : Nat × Nat) (r : mx_T) (ls : mx_L) (st : List Value) (h : mx_H) (c n : Nat) : mx_G r (t_Wi_disturb zz) 8 ls st h c n = (o_get 8 2) r (mx_G r (t_Wi_disturb zz)) 8 ls st h c n := mx_G_eq (tm_Wi_disturb zz) r 8 ls st h c n
theorem st_Wi_disturb_11 (zz : Nat × Nat) (r : mx_T) (ls : mx_L) (st : List Value) (h : mx_H) (c n : Nat) : mx_G r (t_Wi_disturb zz) 11 ls st h c n = (o_push 1 (.int (-1))) r (mx_G r (t_Wi_disturb zz)) 11 ls st h c n := mx_G_eq (tm_Wi_disturb zz) r 11 ls st h c n
theorem st_Wi_disturb_12 (zz : Nat × Nat) (r : mx_T) (ls : mx_L) (st : List Value) (h : mx_H) (c n : Nat) : mx_G r (t_Wi_disturb zz) 12 ls st h c n = (o_icmp 36 (fun x y => x = y)) r (mx_G r (t_Wi_disturb zz)) 12 ls st h c n := mx_G_eq (tm_Wi_disturb zz) r 12 ls st h c n
theorem st_Wi_disturb_15 (zz : Nat × Nat) (r : mx_T) (ls : mx_L) (st : List Value) (h : mx_H) (c n : Nat) : mx_G r (t_Wi_disturb zz) 15 ls st h c n = (o_iload 1 1) r (mx_G r (t_Wi_disturb zz)) 15 ls st h c n := mx_G_eq (tm_Wi_disturb zz) r 15 ls st h c n
theorem st_Wi_disturb_16 (zz : Nat × Nat) (r : mx_T) (ls : mx_L) (st : List Value) (h : mx_H) (c n : Nat) : mx_G r (t_Wi_disturb zz) 16 ls st h c n = (o_aload 1 0) r (mx_G r (t_Wi_disturb zz)) 16 ls st h c n := mx_G_eq (tm_Wi_disturb zz) r 16 ls st h c n
theorem st_Wi_disturb_17 (zz : Nat × Nat) (r : mx_T) (ls : mx_L) (st : List Value) (h : mx_H) (c n : Nat) : mx_G r (t_Wi_disturb zz) 17 ls st h c n = (o_get 8 1) r (mx_G r (t_Wi_disturb zz)) 17 ls st h c n := mx_G_eq (tm_Wi_disturb zz) r 17 ls st h c n
theorem st_Wi_disturb_20 (zz : Nat × Nat) (r : mx_T) (ls : mx_L) (st : List Value) (h : mx_H) (c n : Nat) : mx_G r (t_Wi_disturb zz) 20 ls st h c n = (o_icmp 36 (fun x y => y ≤ x)) r (mx_G r (t_Wi_disturb zz)) 20 ls st h c n := mx_G_eq (tm_Wi_disturb zz) r 20 ls st h c n
theorem st_Wi_disturb_23 (zz : Nat × Nat) (r : mx_T) (ls : mx_L) (st : List Value) (h : mx_H) (c n : Nat) : mx_G r (t_Wi_disturb zz) 23 ls st h c n = (o_aload 1 0) r (mx_G r (t_Wi_disturb zz)) 23 ls st h c n := mx_G_eq (tm_Wi_disturb zz) r 23 ls st h c n
theorem st_Wi_disturb_24 (zz : Nat × Nat) (r : mx_T) (ls : mx_L) (st : List Value) (h : mx_H) (c n : Nat) : mx_G r (t_Wi_disturb zz) 24 ls st h c n = (o_get 8 0) r (mx_G r (t_Wi_disturb zz)) 24 ls st h c n := mx_G_eq (tm_Wi_disturb zz) r 24 ls st h c n
theorem st_Wi_disturb_27 (zz : Nat × Nat) (r : mx_T) (ls : mx_L) (st : List Value) (h : mx_H) (c n : Nat) : mx_G r (t_Wi_disturb zz) 27 ls st h c n = (o_iload 1 1) r (mx_G r (t_Wi_disturb zz)) 27 ls st h c n := mx_G_eq (tm_Wi_disturb zz) r 27 ls st h c n
theorem st_Wi_disturb_28 (zz : Nat × Nat) (r : mx_T) (ls : mx_L) (st : List Value) (h : mx_H) (c n : Nat) : mx_G r (t_Wi_disturb zz) 28 ls st h c n = (o_dup2) r (mx_G r (t_Wi_disturb zz)) 28 ls st h c n := mx_G_eq (tm_Wi_disturb zz) r 28 ls st h c n
theorem st_Wi_disturb_29 (zz : Nat × Nat) (r : mx_T) (ls : mx_L) (st : List Value) (h : mx_H) (c n : Nat) : mx_G r (t_Wi_disturb zz) 29 ls st h c n = (o_iald .int) r (mx_G r (t_Wi_disturb zz)) 29 ls st h c n := mx_G_eq (tm_Wi_disturb zz) r 29 ls st h c n
theorem st_Wi_disturb_30 (zz : Nat × Nat) (r : mx_T) (ls : mx_L) (st : List Value) (h : mx_H) (c n : Nat) : mx_G r (t_Wi_disturb zz) 30 ls st h c n = (o_aload 1 0) r (mx_G r (t_Wi_disturb zz)) 30 ls st h c n := mx_G_eq (tm_Wi_disturb zz) r 30 ls st h c n
theorem st_Wi_disturb_31 (zz : Nat × Nat) (r : mx_T) (ls : mx_L) (st : List Value) (h : mx_H) (c n : Nat) : mx_G r (t_Wi_disturb zz) 31 ls st h c n = (o_get 8 3) r (mx_G r (t_Wi_disturb zz)) 31 ls st h c n := mx_G_eq (tm_Wi_disturb zz) r 31 ls st h c n
theorem st_Wi_disturb_34 (zz : Nat × Nat) (r : mx_T) (ls : mx_L) (st : List Value) (h : mx_H) (c n : Nat) : mx_G r (t_Wi_disturb zz) 34 ls st h c n = (o_ii (fun x y => x ^^^ y)) r (mx_G r (t_Wi_disturb zz)) 34 ls st h c n := mx_G_eq (tm_Wi_disturb zz) r 34 ls st h c n
theorem st_Wi_disturb_35 (zz : Nat × Nat) (r : mx_T) (ls : mx_L) (st : List Value) (h : mx_H) (c n : Nat) : mx_G r (t_Wi_disturb zz) 35 ls st h c n = (o_iast .int (fun x => x)) r (mx_G r (t_Wi_disturb zz)) 35 ls st h c n := mx_G_eq (tm_Wi_disturb zz) r 35 ls st h c n
theorem st_Wi_disturb_36 (zz : Nat × Nat) (r : mx_T) (ls : mx_L) (st : List Value) (h : mx_H) (c n : Nat) : mx_G r (t_Wi_disturb zz) 36 ls st h c n = (o_aload 1 0) r (mx_G r (t_Wi_disturb zz)) 36 ls st h c n := mx_G_eq (tm_Wi_disturb zz) r 36 ls st h c n
theorem st_Wi_disturb_37 (zz : Nat × Nat) (r : mx_T) (ls : mx_L) (st : List Value) (h : mx_H) (c n : Nat) : mx_G r (t_Wi_disturb zz) 37 ls st h c n = (o_push 1 (.int (-1))) r (mx_G r (t_Wi_disturb zz)) 37 ls st h c n := mx_G_eq (tm_Wi_disturb zz) r 37 ls st h c n
theorem st_Wi_disturb_38 (zz : Nat × Nat) (r : mx_T) (ls : mx_L) (st : List Value) (h : mx_H) (c n : Nat) : mx_G r (t_Wi_disturb zz) 38 ls st h c n = (o_put 8 2 mx_vI) r (mx_G r (t_Wi_disturb zz)) 38 ls st h c n := mx_G_eq (tm_Wi_disturb zz) r 38 ls st h c n
theorem st_Wi_disturb_41 (zz : Nat × Nat) (r : mx_T) (ls : mx_L) (st : List Value) (h : mx_H) (c n : Nat) : mx_G r (t_Wi_disturb zz) 41 ls st h c n = (o_vret) r (mx_G r (t_Wi_disturb zz)) 41 ls st h c n := mx_G_eq (tm_Wi_disturb zz) r 41 ls st h c n
theorem d_Wi_respond_0 : decode c_Wi_respond 0 = .ok (.iconst 0, 1) := by decide +kernel
theorem d_Wi_respond_1 : decode c_Wi_respond 1 = .ok (.istore_n 2, 1) := by decide +kernel
theorem d_Wi_respond_2 : decode c_Wi_respond 2 = .ok (.iload_n 2, 1) := by decide +kernel
theorem d_Wi_respond_3 : decode c_Wi_respond 3 = .ok (.aload_n 1, 1) := by decide +kernel
theorem d_Wi_respond_4 : decode c_Wi_respond 4 = .ok (.getfield 29, 3) := by decide +kernel
theorem d_Wi_respond_7 : decode c_Wi_respond 7 = .ok (.if_icmp .ge 21, 3) := by decide +kernel
theorem d_Wi_respond_10 : decode c_Wi_respond 10 = .ok (.aload_n 0, 1) := by decide +kernel
theorem d_Wi_respond_11 : decode c_Wi_respond 11 = .ok (.aload_n 1, 1) := by decide +kernel
theorem d_Wi_respond_12 : decode c_Wi_respond 12 = .ok (.getfield 34, 3) := by decide +kernel
theorem d_Wi_respond_15 : decode c_Wi_respond 15 = .ok (.iload_n 2, 1) := by decide +kernel
theorem d_Wi_respond_16 : decode c_Wi_respond 16 = .ok (.invokestatic 38, 3) := by decide +kernel
theorem d_Wi_respond_19 : decode c_Wi_respond 19 = .ok (.invokevirtual 42, 3) := by decide +kernel
theorem d_Wi_respond_22 : decode c_Wi_respond 22 = .ok (.iinc 2 1, 3) := by decide +kernel
theorem d_Wi_respond_25 : decode c_Wi_respond 25 = .ok (.goto (-23), 3) := by decide +kernel
theorem d_Wi_respond_28 : decode c_Wi_respond 28 = .ok (.aload_n 0, 1) := by decide +kernel
theorem d_Wi_respond_29 : decode c_Wi_respond 29 = .ok (.aload_n 1, 1) := by decide +kernel
theorem d_Wi_respond_30 : decode c_Wi_respond 30 = .ok (.aload_n 0, 1) := by decide +kernel
theorem d_Wi_respond_31 : decode c_Wi_respond 31 = .ok (.getfield 9, 3) := by decide +kernel
theorem d_Wi_respond_34 : decode c_Wi_respond 34 = .ok (.iconst 0, 1) := by decide +kernel
theorem d_Wi_respond_35 : decode c_Wi_respond 35 = .ok (.iaload, 1) := by decide +kernel
theorem d_Wi_respond_36 : decode c_Wi_respond 36 = .ok (.aload_n 1, 1) := by decide +kernel
theorem d_Wi_respond_37 : decode c_Wi_respond 37 = .ok (.getfield 34, 3) := by decide +kernel
theorem d_Wi_respond_40 : decode c_Wi_respond 40 = .ok (.invokevirtual 46, 3) := by decide +kernel
theorem d_Wi_respond_43 : decode c_Wi_respond 43 = .ok (.invokevirtual 42, 3) := by decide +kernel
theorem d_Wi_respond_46 : decode c_Wi_respond 46 = .ok (.aload_n 0, 1) := by decide +kernel
theorem d_Wi_respond_47 : decode c_Wi_respond 47 = .ok (.invokevirtual 50, 3) := by decide +kernel
theorem d_Wi_respond_50 : decode c_Wi_respond 50 = .ok (.return_, 1) := by decide +kernel
def t_Wi_respond (zz : Nat × Nat) : List (Nat × mx_O) := [(0, o_push 1 (.int 0)),
  (1, o_istore 1 2),
  (2, o_iload 1 2),
  (3, o_aload 1 1),
  (4, o_get 1 3),
  (7, o_icmp 28 (fun x y => y ≤ x)),
  (10, o_aload 1 0),
  (11, o_aload 1 1),
  (12, o_get 1 5),
  (15, o_iload 1 2),
  (16, o_call 0 0 2 0 0 (fun _ _ => True) (S_Hs_byteOf zz)),
  (19, o_call 0 0 2 0 0 (mx_rv 8) (S_Wi_add zz)),
  (22, o_iinc 2 1),
  (25, o_goto 2),
  (28, o_aload 1 0),
  (29, o_aload 1 1),
  (30, o_aload 1 0),
  (31, o_get 8 0),
  (34, o_push 1 (.int 0)),
  (35, o_iald .int),
  (36, o_aload 1 1),
  (37, o_get 1 5),
  (40, o_call 0 0 3 0 0 (mx_rv 1) (S_Fr_checksumUnder zz)),
  (43, o_call 0 0 2 0 0 (mx_rv 8) (S_Wi_add zz)),
  (46, o_aload 1 0),
  (47, o_call 0 0 1 0 0 (mx_rv 8) (S_Wi_disturb zz)),
  (50, o_vret)]
set_option maxRecDepth 100000 in
theorem tm_Wi_respond (zz : Nat × Nat) : mx_All (fun _ o => mx_Mono o) (t_Wi_respond zz) := by
  refine mx_all_cons (mo_st) ?_
  refine mx_all_cons (mo_st) ?_
  refine mx_all_cons (mo_st) ?_
  refine mx_all_cons (mo_st) ?_
  refine mx_all_cons (mo_st) ?_
  refine mx_all_cons (mo_br) ?_
  refine mx_all_cons (mo_st) ?_
  refine mx_all_cons (mo_st) ?_
  refine mx_all_cons (mo_st) ?_
  refine mx_all_cons (mo_st) ?_
  refine mx_all_cons (mo_call (sm_Hs_byteOf zz)) ?_
  refine mx_all_cons (mo_call (sm_Wi_add zz)) ?_
  refine mx_all_cons (mo_st) ?_
  refine mx_all_cons (mo_st) ?_
  refine mx_all_cons (mo_st) ?_
  refine mx_all_cons (mo_st) ?_
  refine mx_all_cons (mo_st) ?_
  refine mx_all_cons (mo_st) ?_
  refine mx_all_cons (mo_st) ?_
  refine mx_all_cons (mo_sc) ?_
  refine mx_all_cons (mo_st) ?_
  refine mx_all_cons (mo_st) ?_
  refine mx_all_cons (mo_call (sm_Fr_checksumUnder zz)) ?_
  refine mx_all_cons (mo_call (sm_Wi_add zz)) ?_
  refine mx_all_cons (mo_st) ?_
  refine mx_all_cons (mo_call (sm_Wi_disturb zz)) ?_
  refine mx_all_cons (mo_ret) ?_
  exact mx_all_nil
def S_Wi_respond (zz : Nat × Nat) : mx_Sp := mx_S 3 0 0 (t_Wi_respond zz)
theorem sm_Wi_respond (zz : Nat × Nat) : mx_SMono (S_Wi_respond zz) := mx_S_mono (tm_Wi_respond zz)
abbrev rm_Wi_respond : Room := { frames := 2, cells := 0, slots := 0, locals := 47 }
set_option maxHeartbeats 4000000 in
set_option maxRecDepth 100000 in
theorem m_Wi_respond (l : Launch) (zz : Nat × Nat) : mx_Met l y_Wi_respond (wsOf y_Wi_respond c_Wi_respond 3 none) rm_Wi_respond wcl (mx_Z zz) 0 0 (S_Wi_respond zz) := by
  refine mx_met (cc := c_Wi_respond) (ret := none) (by decide) rfl ?_
  intro p e s m args below meth c D A Post X hz hr hlk hnm
  have hm : ∀ w ∈ mw, w.before args s = true := fun w h => X.1.2.2.2.2 w (List.mem_cons_of_mem _ h)
  refine mx_all_cons (ok_push (fun kk => lv_iconst X.1.1 X.1.2.1 d_Wi_respond_0 (by decide) kk)) ?_
  refine mx_all_cons (ok_istore (fun hl kk => lv_istore_n X.1.1 X.1.2.1 d_Wi_respond_1 rfl hl (by decide) rfl kk)) ?_
  refine mx_all_cons (ok_iload (fun hl kk => lv_iload_n X.1.1 X.1.2.1 d_Wi_respond_2 rfl hl kk)) ?_
  refine mx_all_cons (ok_aload (fun hl kk => lv_aload_n X.1.1 X.1.2.1 d_Wi_respond_3 rfl hl kk) (fun hl kk => lv_aload_nN X.1.1 X.1.2.1 d_Wi_respond_3 rfl hl kk)) ?_
  refine mx_all_cons (ok_get (C := "HeaderSchedule$Frame") (T := T_Fr) (N := 8) X (mw_up in_Fr) rfl 3 (by decide) (hm _ w229) (fun _ h9 => h9) d_Wi_respond_4) ?_
  refine mx_all_cons (ok_icmp (fun kt kf => lv_icmp_ge X.1.1 X.1.2.1 d_Wi_respond_7 (by decide) kt kf)) ?_
  refine mx_all_cons (ok_aload (fun hl kk => lv_aload_n X.1.1 X.1.2.1 d_Wi_respond_10 rfl hl kk) (fun hl kk => lv_aload_nN X.1.1 X.1.2.1 d_Wi_respond_10 rfl hl kk)) ?_
  refine mx_all_cons (ok_aload (fun hl kk => lv_aload_n X.1.1 X.1.2.1 d_Wi_respond_11 rfl hl kk) (fun hl kk => lv_aload_nN X.1.1 X.1.2.1 d_Wi_respond_11 rfl hl kk)) ?_
  refine mx_all_cons (ok_get (C := "HeaderSchedule$Frame") (T := T_Fr) (N := 8) X (mw_up in_Fr) rfl 5 (by decide) (hm _ w233) (fun _ h9 => h9) d_Wi_respond_12) ?_
  refine mx_all_cons (ok_iload (fun hl kk => lv_iload_n X.1.1 X.1.2.1 d_Wi_respond_15 rfl hl kk)) ?_
  refine mx_all_cons (ok_callSN X (mx_Zok_Z zz) hz ⟨(Nat.le_of_ble_eq_true rfl), (Nat.le_of_ble_eq_true rfl)⟩ (m_Hs_byteOf l zz) ⟨mx_cnB 2 hm w586 (hz.2.2.1 (.methodLinkNest "HeaderSchedule$Wire" 38 y_Hs_byteOf "HeaderSchedule") (by decide +kernel)) w33 rfl rfl (by decide +kernel) ⟨(Nat.le_of_ble_eq_true rfl), (Nat.le_of_ble_eq_true rfl)⟩, (hm _ w585), trivial⟩ d_Wi_respond_16) ?_
  refine mx_all_cons (ok_callV (C := "HeaderSchedule$Wire") (T := T_Wi) (N := 4) X (mx_Zok_Z zz) hz ⟨(Nat.le_of_ble_eq_true rfl), (Nat.le_of_ble_eq_true rfl)⟩ (m_Wi_add l zz) ⟨mx_cwB 1 hm w579 w587 w39 rfl rfl (by decide +kernel) ⟨(Nat.le_of_ble_eq_true rfl), (Nat.le_of_ble_eq_true rfl)⟩, (hm _ w577), hm _ w578⟩ rfl d_Wi_respond_19) ?_
  refine mx_all_cons (ok_iinc X (by decide) (by decide) d_Wi_respond_22) ?_
  refine mx_all_cons (ok_goto X d_Wi_respond_25 (by decide)) ?_
  refine mx_all_cons (ok_aload (fun hl kk => lv_aload_n X.1.1 X.1.2.1 d_Wi_respond_28 rfl hl kk) (fun hl kk => lv_aload_nN X.1.1 X.1.2.1 d_Wi_respond_28 rfl hl kk)) ?_
  refine mx_all_cons (ok_aload (fun hl kk => lv_aload_n X.1.1 X.1.2.1 d_Wi_respond_29 rfl hl kk) (fun hl kk => lv_aload_nN X.1.1 X.1.2.1 d_Wi_respond_29 rfl hl kk)) ?_
  refine mx_all_cons (ok_aload (fun hl kk => lv_aload_n X.1.1 X.1.2.1 d_Wi_respond_30 rfl hl kk) (fun hl kk => lv_aload_nN X.1.1 X.1.2.1 d_Wi_respond_30 rfl hl kk)) ?_
  refine mx_all_cons (ok_get (C := "HeaderSchedule$Wire") (T := T_Wi) (N := 4) X (mw_up in_Wi) rfl 0 (by decide) (hm _ w142) (fun _ h9 => h9) d_Wi_respond_31) ?_
  refine mx_all_cons (ok_push (fun kk => lv_iconst X.1.1 X.1.2.1 d_Wi_respond_34 (by decide) kk)) ?_
  refine mx_all_cons (ok_iald X d_Wi_respond_35) ?_
  refine mx_all_cons (ok_aload (fun hl kk => lv_aload_n X.1.1 X.1.2.1 d_Wi_respond_36 rfl hl kk) (fun hl kk => lv_aload_nN X.1.1 X.1.2.1 d_Wi_respond_36 rfl hl kk)) ?_
  refine mx_all_cons (ok_get (C := "HeaderSchedule$Frame") (T := T_Fr) (N := 8) X (mw_up in_Fr) rfl 5 (by decide) (hm _ w233) (fun _ h9 => h9) d_Wi_respond_37) ?_
  refine mx_all_cons (ok_callV (C := "HeaderSchedule$Frame") (T := T_Fr) (N := 8) X (mx_Zok_Z zz) hz ⟨(Nat.le_of_ble_eq_true rfl), (Nat.le_of_ble_eq_true rfl)⟩ (m_Fr_checksumUnder l zz) ⟨mx_cwB 2 hm w591 w588 w41 rfl rfl (by decide +kernel) ⟨(Nat.le_of_ble_eq_true rfl), (Nat.le_of_ble_eq_true rfl)⟩, (hm _ w589), hm _ w590⟩ rfl d_Wi_respond_40) ?_
  refine mx_all_cons (ok_callV (C := "HeaderSchedule$Wire") (T := T_Wi) (N := 4) X (mx_Zok_Z zz) hz ⟨(Nat.le_of_ble_eq_true rfl), (Nat.le_of_ble_eq_true rfl)⟩ (m_Wi_add l zz) ⟨mx_cwB 1 hm w579 w587 w39 rfl rfl (by decide +kernel) ⟨(Nat.le_of_ble_eq_true rfl), (Nat.le_of_ble_eq_true rfl)⟩, (hm _ w577), hm _ w578⟩ rfl d_Wi_respond_43) ?_
  refine mx_all_cons (ok_aload (fun hl kk => lv_aload_n X.1.1 X.1.2.1 d_Wi_respond_46 rfl hl kk) (fun hl kk => lv_aload_nN X.1.1 X.1.2.1 d_Wi_respond_46 rfl hl kk)) ?_
  refine mx_all_cons (ok_callV (C := "HeaderSchedule$Wire") (T := T_Wi) (N := 4) X (mx_Zok_Z zz) hz ⟨(Nat.le_of_ble_eq_true rfl), (Nat.le_of_ble_eq_true rfl)⟩ (m_Wi_disturb l zz) ⟨mx_cwB 0 hm w596 w593 w39 rfl rfl (by decide +kernel) ⟨(Nat.le_of_ble_eq_true rfl), (Nat.le_of_ble_eq_true rfl)⟩, (hm _ w594), hm _ w595⟩ rfl d_Wi_respond_47) ?_
  refine mx_all_cons (ok_vret X hr hlk d_Wi_respond_50) ?_
  exact mx_all_nil
theorem st_Wi_respond_0 (zz : Nat × Nat) (r : mx_T) (ls : mx_L) (st : List Value) (h : mx_H) (c n : Nat) : mx_G r (t_Wi_respond zz) 0 ls st h c n = (o_push 1 (.int 0)) r (mx_G r (t_Wi_respond zz)) 0 ls st h c n := mx_G_eq (tm_Wi_respond zz) r 0 ls st h c n
theorem st_Wi_respond_1 (zz : Nat × Nat) (r : mx_T) (ls : mx_L) (st : List Value) (h : mx_H) (c n : Nat) : mx_G r (t_Wi_respond zz) 1 ls st h c n = (o_istore 1 2) r (mx_G r (t_Wi_respond zz)) 1 ls st h c n := mx_G_eq (tm_Wi_respond zz) r 1 ls st h c n
theorem st_Wi_respond_2 (zz : Nat × Nat) (r : mx_T) (ls : mx_L) (st : List Value) (h : mx_H) (c n : Nat) : mx_G r (t_Wi_respond zz) 2 ls st h c n = (o_iload 1 2) r (mx_G r (t_Wi_respond zz)) 2 ls st h c n := mx_G_eq (tm_Wi_respond zz) r 2 ls st h c n
theorem st_Wi_respond_3 (zz : Nat × Nat) (r : mx_T) (ls : mx_L) (st : List Value) (h : mx_H) (c n : Nat) : mx_G r (t_Wi_respond zz) 3 ls st h c n = (o_aload 1 1) r (mx_G r (t_Wi_respond zz)) 3 ls st h c n := mx_G_eq (tm_Wi_respond zz) r 3 ls st h c n
theorem st_Wi_respond_4 (zz : Nat × Nat) (r : mx_T) (ls : mx_L) (st : List Value) (h : mx_H) (c n : Nat) : mx_G r (t_Wi_respond zz) 4 ls st h c n = (o_get 1 3) r (mx_G r (t_Wi_respond zz)) 4 ls st h c n := mx_G_eq (tm_Wi_respond zz) r 4 ls st h c n
theorem st_Wi_respond_7 (zz : Nat × Nat) (r : mx_T) (ls : mx_L) (st : List Value) (h : mx_H) (c n : Nat) : mx_G r (t_Wi_respond zz) 7 ls st h c n = (o_icmp 28 (fun x y => y ≤ x)) r (mx_G r (t_Wi_respond zz)) 7 ls st h c n := mx_G_eq (tm_Wi_respond zz) r 7 ls st h c n
theorem st_Wi_respond_10 (zz : Nat × Nat) (r : mx_T) (ls : mx_L) (st : List Value) (h : mx_H) (c n : Nat) : mx_G r (t_Wi_respond zz) 10 ls st h c n = (o_aload 1 0) r (mx_G r (t_Wi_respond zz)) 10 ls st h c n := mx_G_eq (tm_Wi_respond zz) r 10 ls st h c n
theorem st_Wi_respond_11 (zz : Nat × Nat) (r : mx_T) (ls : mx_L) (st : List Value) (h : mx_H) (c n : Nat) : mx_G r (t_Wi_respond zz) 11 ls st h c n = (o_aload 1 1) r (mx_G r (t_Wi_respond zz)) 11 ls st h c n := mx_G_eq (tm_Wi_respond zz) r 11 ls st h c n
theorem st_Wi_respond_12 (zz : Nat × Nat) (r : mx_T) (ls : mx_L) (st : List Value) (h : mx_H) (c n : Nat) : mx_G r (t_Wi_respond zz) 12 ls st h c n = (o_get 1 5) r (mx_G r (t_Wi_respond zz)) 12 ls st h c n := mx_G_eq (tm_Wi_respond zz) r 12 ls st h c n
theorem st_Wi_respond_15 (zz : Nat × Nat) (r : mx_T) (ls : mx_L) (st : List Value) (h : mx_H) (c n : Nat) : mx_G r (t_Wi_respond zz) 15 ls st h c n = (o_iload 1 2) r (mx_G r (t_Wi_respond zz)) 15 ls st h c n := mx_G_eq (tm_Wi_respond zz) r 15 ls st h c n
theorem st_Wi_respond_16 (zz : Nat × Nat) (r : mx_T) (ls : mx_L) (st : List Value) (h : mx_H) (c n : Nat) : mx_G r (t_Wi_respond zz) 16 ls st h c n = (o_call 0 0 2 0 0 (fun _ _ => True) (S_Hs_byteOf zz)) r (mx_G r (t_Wi_respond zz)) 16 ls st h c n := mx_G_eq (tm_Wi_respond zz) r 16 ls st h c n
theorem st_Wi_respond_19 (zz : Nat × Nat) (r : mx_T) (ls : mx_L) (st : List Value) (h : mx_H) (c n : Nat) : mx_G r (t_Wi_respond zz) 19 ls st h c n = (o_call 0 0 2 0 0 (mx_rv 8) (S_Wi_add zz)) r (mx_G r (t_Wi_respond zz)) 19 ls st h c n := mx_G_eq (tm_Wi_respond zz) r 19 ls st h c n
theorem st_Wi_respond_22 (zz : Nat × Nat) (r : mx_T) (ls : mx_L) (st : List Value) (h : mx_H) (c n : Nat) : mx_G r (t_Wi_respond zz) 22 ls st h c n = (o_iinc 2 1) r (mx_G r (t_Wi_respond zz)) 22 ls st h c n := mx_G_eq (tm_Wi_respond zz) r 22 ls st h c n
theorem st_Wi_respond_25 (zz : Nat × Nat) (r : mx_T) (ls : mx_L) (st : List Value) (h : mx_H) (c n : Nat) : mx_G r (t_Wi_respond zz) 25 ls st h c n = (o_goto 2) r (mx_G r (t_Wi_respond zz)) 25 ls st h c n := mx_G_eq (tm_Wi_respond zz) r 25 ls st h c n
theorem st_Wi_respond_28 (zz : Nat × Nat) (r : mx_T) (ls : mx_L) (st : List Value) (h : mx_H) (c n : Nat) : mx_G r (t_Wi_respond zz) 28 ls st h c n = (o_aload 1 0) r (mx_G r (t_Wi_respond zz)) 28 ls st h c n := mx_G_eq (tm_Wi_respond zz) r 28 ls st h c n
theorem st_Wi_respond_29 (zz : Nat × Nat) (r : mx_T) (ls : mx_L) (st : List Value) (h : mx_H) (c n : Nat) : mx_G r (t_Wi_respond zz) 29 ls st h c n = (o_aload 1 1) r (mx_G r (t_Wi_respond zz)) 29 ls st h c n := mx_G_eq (tm_Wi_respond zz) r 29 ls st h c n
theorem st_Wi_respond_30 (zz : Nat × Nat) (r : mx_T) (ls : mx_L) (st : List Value) (h : mx_H) (c n : Nat) : mx_G r (t_Wi_respond zz) 30 ls st h c n = (o_aload 1 0) r (mx_G r (t_Wi_respond zz)) 30 ls st h c n := mx_G_eq (tm_Wi_respond zz) r 30 ls st h c n
theorem st_Wi_respond_31 (zz : Nat × Nat) (r : mx_T) (ls : mx_L) (st : List Value) (h : mx_H) (c n : Nat) : mx_G r (t_Wi_respond zz) 31 ls st h c n = (o_get 8 0) r (mx_G r (t_Wi_respond zz)) 31 ls st h c n := mx_G_eq (tm_Wi_respond zz) r 31 ls st h c n
theorem st_Wi_respond_34 (zz : Nat × Nat) (r : mx_T) (ls : mx_L) (st : List Value) (h : mx_H) (c n : Nat) : mx_G r (t_Wi_respond zz) 34 ls st h c n = (o_push 1 (.int 0)) r (mx_G r (t_Wi_respond zz)) 34 ls st h c n := mx_G_eq (tm_Wi_respond zz) r 34 ls st h c n
theorem st_Wi_respond_35 (zz : Nat × Nat) (r : mx_T) (ls : mx_L) (st : List Value) (h : mx_H) (c n : Nat) : mx_G r (t_Wi_respond zz) 35 ls st h c n = (o_iald .int) r (mx_G r (t_Wi_respond zz)) 35 ls st h c n := mx_G_eq (tm_Wi_respond zz) r 35 ls st h c n
theorem st_Wi_respond_36 (zz : Nat × Nat) (r : mx_T) (ls : mx_L) (st : List Value) (h : mx_H) (c n : Nat) : mx_G r (t_Wi_respond zz) 36 ls st h c n = (o_aload 1 1) r (mx_G r (t_Wi_respond zz)) 36 ls st h c n := mx_G_eq (tm_Wi_respond zz) r 36 ls st h c n
theorem st_Wi_respond_37 (zz : Nat × Nat) (r : mx_T) (ls : mx_L) (st : List Value) (h : mx_H) (c n : Nat) : mx_G r (t_Wi_respond zz) 37 ls st h c n = (o_get 1 5) r (mx_G r (t_Wi_respond zz)) 37 ls st h c n := mx_G_eq (tm_Wi_respond zz) r 37 ls st h c n
theorem st_Wi_respond_40 (zz : Nat × Nat) (r : mx_T) (ls : mx_L) (st : List Value) (h : mx_H) (c n : Nat) : mx_G r (t_Wi_respond zz) 40 ls st h c n = (o_call 0 0 3 0 0 (mx_rv 1) (S_Fr_checksumUnder zz)) r (mx_G r (t_Wi_respond zz)) 40 ls st h c n := mx_G_eq (tm_Wi_respond zz) r 40 ls st h c n
theorem st_Wi_respond_43 (zz : Nat × Nat) (r : mx_T) (ls : mx_L) (st : List Value) (h : mx_H) (c n : Nat) : mx_G r (t_Wi_respond zz) 43 ls st h c n = (o_call 0 0 2 0 0 (mx_rv 8) (S_Wi_add zz)) r (mx_G r (t_Wi_respond zz)) 43 ls st h c n := mx_G_eq (tm_Wi_respond zz) r 43 ls st h c n
theorem st_Wi_respond_46 (zz : Nat × Nat) (r : mx_T) (ls : mx_L) (st : List Value) (h : mx_H) (c n : Nat) : mx_G r (t_Wi_respond zz) 46 ls st h c n = (o_aload 1 0) r (mx_G r (t_Wi_respond zz)) 46 ls st h c n := mx_G_eq (tm_Wi_respond zz) r 46 ls st h c n
theorem st_Wi_respond_47 (zz : Nat × Nat) (r : mx_T) (ls : mx_L) (st : List Value) (h : mx_H) (c n : Nat) : mx_G r (t_Wi_respond zz) 47 ls st h c n = (o_call 0 0 1 0 0 (mx_rv 8) (S_Wi_disturb zz)) r (mx_G r (t_Wi_respond zz)) 47 ls st h c n := mx_G_eq (tm_Wi_respond zz) r 47 ls st h c n
theorem st_Wi_respond_50 (zz : Nat × Nat) (r : mx_T) (ls : mx_L) (st : List Value) (h : mx_H) (c n : Nat) : mx_G r (t_Wi_respond zz) 50 ls st h c n = (o_vret) r (mx_G r (t_Wi_respond zz)) 50 ls st h c n := mx_G_eq (tm_Wi_respond zz) r 50 ls st h c n
theorem d_Wi_dataOf_0 : decode c_Wi_dataOf 0 = .ok (.lconst 0, 1) := by decide +kernel
theorem d_Wi_dataOf_1 : decode c_Wi_dataOf 1 = .ok (.lstore_n 2, 1) := by decide +kernel
theorem d_Wi_dataOf_2 : decode c_Wi_dataOf 2 = .ok (.iload_n 1, 1) := by decide +kernel
theorem d_Wi_dataOf_3 : decode c_Wi_dataOf 3 = .ok (.istore 4, 2) := by decide +kernel
theorem d_Wi_dataOf_5 : decode c_Wi_dataOf 5 = .ok (.iload 4, 2) := by decide +kernel
theorem d_Wi_dataOf_7 : decode c_Wi_dataOf 7 = .ok (.iconst 1, 1) := by decide +kernel
theorem d_Wi_dataOf_8 : decode c_Wi_dataOf 8 = .ok (.if_icmp .lt 23, 3) := by decide +kernel
theorem d_Wi_dataOf_11 : decode c_Wi_dataOf 11 = .ok (.lload_n 2, 1) := by decide +kernel
theorem d_Wi_dataOf_12 : decode c_Wi_dataOf 12 = .ok (.bipush 8, 2) := by decide +kernel
theorem d_Wi_dataOf_14 : decode c_Wi_dataOf 14 = .ok (.lshl, 1) := by decide +kernel
theorem d_Wi_dataOf_15 : decode c_Wi_dataOf 15 = .ok (.aload_n 0, 1) := by decide +kernel
theorem d_Wi_dataOf_16 : decode c_Wi_dataOf 16 = .ok (.getfield 9, 3) := by decide +kernel
theorem d_Wi_dataOf_19 : decode c_Wi_dataOf 19 = .ok (.iload 4, 2) := by decide +kernel
theorem d_Wi_dataOf_21 : decode c_Wi_dataOf 21 = .ok (.iaload, 1) := by decide +kernel
theorem d_Wi_dataOf_22 : decode c_Wi_dataOf 22 = .ok (.i2l, 1) := by decide +kernel
theorem d_Wi_dataOf_23 : decode c_Wi_dataOf 23 = .ok (.lor, 1) := by decide +kernel
theorem d_Wi_dataOf_24 : decode c_Wi_dataOf 24 = .ok (.lstore_n 2, 1) := by decide +kernel
theorem d_Wi_dataOf_25 : decode c_Wi_dataOf 25 = .ok (.iinc 4 (-1), 3) := by decide +kernel
theorem d_Wi_dataOf_28 : decode c_Wi_dataOf 28 = .ok (.goto (-23), 3) := by decide +kernel
theorem d_Wi_dataOf_31 : decode c_Wi_dataOf 31 = .ok (.lload_n 2, 1) := by decide +kernel
theorem d_Wi_dataOf_32 : decode c_Wi_dataOf 32 = .ok (.lreturn, 1) := by decide +kernel
def t_Wi_dataOf (zz : Nat × Nat) : List (Nat × mx_O) := [(0, o_push 1 (.long 0)),
  (1, o_lstore 1 2),
  (2, o_iload 1 1),
  (3, o_istore 2 4),
  (5, o_iload 2 4),
  (7, o_push 1 (.int 1)),
  (8, o_icmp 31 (fun x y => x < y)),
  (11, o_lload 1 2),
  (12, o_push 2 (.int 8)),
  (14, o_li (fun x y => x <<< (y.toInt64 &&& 63))),
  (15, o_aload 1 0),
  (16, o_get 8 0),
  (19, o_iload 2 4),
  (21, o_iald .int),
  (22, o_i1 (fun x => .long x.toInt64)),
  (23, o_ll (fun x y => .long (x ||| y))),
  (24, o_lstore 1 2),
  (25, o_iinc 4 (-1)),
  (28, o_goto 5),
  (31, o_lload 1 2),
  (32, o_lret)]
set_option maxRecDepth 100000 in
theorem tm_Wi_dataOf (zz : Nat × Nat) : mx_All (fun _ o => mx_Mono o) (t_Wi_dataOf zz) := by
  refine mx_all_cons (mo_st) ?_
  refine mx_all_cons (mo_st) ?_
  refine mx_all_cons (mo_st) ?_
  refine mx_all_cons (mo_st) ?_
  refine mx_all_cons (mo_st) ?_
  refine mx_all_cons (mo_st) ?_
  refine mx_all_cons (mo_br) ?_
  refine mx_all_cons (mo_st) ?_
  refine mx_all_cons (mo_st) ?_
  refine mx_all_cons (mo_st) ?_
  refine mx_all_cons (mo_st) ?_
  refine mx_all_cons (mo_st) ?_
  refine mx_all_cons (mo_st) ?_
  refine mx_all_cons (mo_sc) ?_
  refine mx_all_cons (mo_st) ?_
  refine mx_all_cons (mo_st) ?_
  refine mx_all_cons (mo_st) ?_
  refine mx_all_cons (mo_st) ?_
  refine mx_all_cons (mo_st) ?_
  refine mx_all_cons (mo_st) ?_
  refine mx_all_cons (mo_ret) ?_
  exact mx_all_nil
def S_Wi_dataOf (zz : Nat × Nat) : mx_Sp := mx_S 5 0 0 (t_Wi_dataOf zz)
theorem sm_Wi_dataOf (zz : Nat × Nat) : mx_SMono (S_Wi_dataOf zz) := mx_S_mono (tm_Wi_dataOf zz)
abbrev rm_Wi_dataOf : Room := { frames := 0, cells := 0, slots := 0, locals := 0 }
set_option maxHeartbeats 4000000 in
set_option maxRecDepth 100000 in
theorem m_Wi_dataOf (l : Launch) (zz : Nat × Nat) : mx_Met l y_Wi_dataOf (wsOf y_Wi_dataOf c_Wi_dataOf 5 (some .long)) rm_Wi_dataOf wcl (mx_Z zz) 0 0 (S_Wi_dataOf zz) := by
  refine mx_met (cc := c_Wi_dataOf) (ret := (some .long)) (by decide) rfl ?_
  intro p e s m args below meth c D A Post X hz hr hlk hnm
  have hm : ∀ w ∈ mw, w.before args s = true := fun w h => X.1.2.2.2.2 w (List.mem_cons_of_mem _ h)
  refine mx_all_cons (ok_push (fun kk => lv_lconst X.1.1 X.1.2.1 d_Wi_dataOf_0 (by decide) kk)) ?_
  refine mx_all_cons (ok_lstore (fun hl kk => lv_lstore_n X.1.1 X.1.2.1 d_Wi_dataOf_1 rfl hl (by decide) rfl kk)) ?_
  refine mx_all_cons (ok_iload (fun hl kk => lv_iload_n X.1.1 X.1.2.1 d_Wi_dataOf_2 rfl hl kk)) ?_
  refine mx_all_cons (ok_istore (fun hl kk => lv_istore X.1.1 X.1.2.1 d_Wi_dataOf_3 hl (by decide) rfl kk)) ?_
  refine mx_all_cons (ok_iload (fun hl kk => lv_iload X.1.1 X.1.2.1 d_Wi_dataOf_5 hl kk)) ?_
  refine mx_all_cons (ok_push (fun kk => lv_iconst X.1.1 X.1.2.1 d_Wi_dataOf_7 (by decide) kk)) ?_
  refine mx_all_cons (ok_icmp (fun kt kf => lv_icmp_lt X.1.1 X.1.2.1 d_Wi_dataOf_8 (by decide) kt kf)) ?_
  refine mx_all_cons (ok_lload (fun hl kk => lv_lload_n X.1.1 X.1.2.1 d_Wi_dataOf_11 rfl hl kk)) ?_
  refine mx_all_cons (ok_push (fun kk => lv_bipush X.1.1 X.1.2.1 d_Wi_dataOf_12 (by decide) kk)) ?_
  refine mx_all_cons (ok_li (fun kk => lv_lshl X.1.1 X.1.2.1 d_Wi_dataOf_14 rfl kk)) ?_
  refine mx_all_cons (ok_aload (fun hl kk => lv_aload_n X.1.1 X.1.2.1 d_Wi_dataOf_15 rfl hl kk) (fun hl kk => lv_aload_nN X.1.1 X.1.2.1 d_Wi_dataOf_15 rfl hl kk)) ?_
  refine mx_all_cons (ok_get (C := "HeaderSchedule$Wire") (T := T_Wi) (N := 4) X (mw_up in_Wi) rfl 0 (by decide) (hm _ w142) (fun _ h9 => h9) d_Wi_dataOf_16) ?_
  refine mx_all_cons (ok_iload (fun hl kk => lv_iload X.1.1 X.1.2.1 d_Wi_dataOf_19 hl kk)) ?_
  refine mx_all_cons (ok_iald X d_Wi_dataOf_21) ?_
  refine mx_all_cons (ok_i1 (fun kk => lv_i2l X.1.1 X.1.2.1 d_Wi_dataOf_22 rfl kk)) ?_
  refine mx_all_cons (ok_ll (fun kk => lv_lor X.1.1 X.1.2.1 d_Wi_dataOf_23 kk)) ?_
  refine mx_all_cons (ok_lstore (fun hl kk => lv_lstore_n X.1.1 X.1.2.1 d_Wi_dataOf_24 rfl hl (by decide) rfl kk)) ?_
  refine mx_all_cons (ok_iinc X (by decide) (by decide) d_Wi_dataOf_25) ?_
  refine mx_all_cons (ok_goto X d_Wi_dataOf_28 (by decide)) ?_
  refine mx_all_cons (ok_lload (fun hl kk => lv_lload_n X.1.1 X.1.2.1 d_Wi_dataOf_31 rfl hl kk)) ?_
  refine mx_all_cons (ok_lret X hr hlk d_Wi_dataOf_32) ?_
  exact mx_all_nil
theorem st_Wi_dataOf_0 (zz : Nat × Nat) (r : mx_T) (ls : mx_L) (st : List Value) (h : mx_H) (c n : Nat) : mx_G r (t_Wi_dataOf zz) 0 ls st h c n = (o_push 1 (.long 0)) r (mx_G r (t_Wi_dataOf zz)) 0 ls st h c n := mx_G_eq (tm_Wi_dataOf zz) r 0 ls st h c n
theorem st_Wi_dataOf_1 (zz : Nat × Nat) (r : mx_T) (ls : mx_L) (st : List Value) (h : mx_H) (c n : Nat) : mx_G r (t_Wi_dataOf zz) 1 ls st h c n = (o_lstore 1 2) r (mx_G r (t_Wi_dataOf zz)) 1 ls st h c n := mx_G_eq (tm_Wi_dataOf zz) r 1 ls st h c n
theorem st_Wi_dataOf_2 (zz : Nat × Nat) (r : mx_T) (ls : mx_L) (st : List Value) (h : mx_H) (c n : Nat) : mx_G r (t_Wi_dataOf zz) 2 ls st h c n = (o_iload 1 1) r (mx_G r (t_Wi_dataOf zz)) 2 ls st h c n := mx_G_eq (tm_Wi_dataOf zz) r 2 ls st h c n
theorem st_Wi_dataOf_3 (zz : Nat × Nat) (r : mx_T) (ls : mx_L) (st : List Value) (h : mx_H) (c n : Nat) : mx_G r (t_Wi_dataOf zz) 3 ls st h c n = (o_istore 2 4) r (mx_G r (t_Wi_dataOf zz)) 3 ls st h c n := mx_G_eq (tm_Wi_dataOf zz) r 3 ls st h c n
theorem st_Wi_dataOf_5 (zz : Nat × Nat) (r : mx_T) (ls : mx_L) (st : List Value) (h : mx_H) (c n : Nat) : mx_G r (t_Wi_dataOf zz) 5 ls st h c n = (o_iload 2 4) r (mx_G r (t_Wi_dataOf zz)) 5 ls st h c n := mx_G_eq (tm_Wi_dataOf zz) r 5 ls st h c n
theorem st_Wi_dataOf_7 (zz : Nat × Nat) (r : mx_T) (ls : mx_L) (st : List Value) (h : mx_H) (c n : Nat) : mx_G r (t_Wi_dataOf zz) 7 ls st h c n = (o_push 1 (.int 1)) r (mx_G r (t_Wi_dataOf zz)) 7 ls st h c n := mx_G_eq (tm_Wi_dataOf zz) r 7 ls st h c n
theorem st_Wi_dataOf_8 (zz : Nat × Nat) (r : mx_T) (ls : mx_L) (st : List Value) (h : mx_H) (c n : Nat) : mx_G r (t_Wi_dataOf zz) 8 ls st h c n = (o_icmp 31 (fun x y => x < y)) r (mx_G r (t_Wi_dataOf zz)) 8 ls st h c n := mx_G_eq (tm_Wi_dataOf zz) r 8 ls st h c n
theorem st_Wi_dataOf_11 (zz : Nat × Nat) (r : mx_T) (ls : mx_L) (st : List Value) (h : mx_H) (c n : Nat) : mx_G r (t_Wi_dataOf zz) 11 ls st h c n = (o_lload 1 2) r (mx_G r (t_Wi_dataOf zz)) 11 ls st h c n := mx_G_eq (tm_Wi_dataOf zz) r 11 ls st h c n
theorem st_Wi_dataOf_12 (zz : Nat × Nat) (r : mx_T) (ls : mx_L) (st : List Value) (h : mx_H) (c n : Nat) : mx_G r (t_Wi_dataOf zz) 12 ls st h c n = (o_push 2 (.int 8)) r (mx_G r (t_Wi_dataOf zz)) 12 ls st h c n := mx_G_eq (tm_Wi_dataOf zz) r 12 ls st h c n
theorem st_Wi_dataOf_14 (zz : Nat × Nat) (r : mx_T) (ls : mx_L) (st : List Value) (h : mx_H) (c n : Nat) : mx_G r (t_Wi_dataOf zz) 14 ls st h c n = (o_li (fun x y => x <<< (y.toInt64 &&& 63))) r (mx_G r (t_Wi_dataOf zz)) 14 ls st h c n := mx_G_eq (tm_Wi_dataOf zz) r 14 ls st h c n
theorem st_Wi_dataOf_15 (zz : Nat × Nat) (r : mx_T) (ls : mx_L) (st : List Value) (h : mx_H) (c n : Nat) : mx_G r (t_Wi_dataOf zz) 15 ls st h c n = (o_aload 1 0) r (mx_G r (t_Wi_dataOf zz)) 15 ls st h c n := mx_G_eq (tm_Wi_dataOf zz) r 15 ls st h c n
theorem st_Wi_dataOf_16 (zz : Nat × Nat) (r : mx_T) (ls : mx_L) (st : List Value) (h : mx_H) (c n : Nat) : mx_G r (t_Wi_dataOf zz) 16 ls st h c n = (o_get 8 0) r (mx_G r (t_Wi_dataOf zz)) 16 ls st h c n := mx_G_eq (tm_Wi_dataOf zz) r 16 ls st h c n
theorem st_Wi_dataOf_19 (zz : Nat × Nat) (r : mx_T) (ls : mx_L) (st : List Value) (h : mx_H) (c n : Nat) : mx_G r (t_Wi_dataOf zz) 19 ls st h c n = (o_iload 2 4) r (mx_G r (t_Wi_dataOf zz)) 19 ls st h c n := mx_G_eq (tm_Wi_dataOf zz) r 19 ls st h c n
theorem st_Wi_dataOf_21 (zz : Nat × Nat) (r : mx_T) (ls : mx_L) (st : List Value) (h : mx_H) (c n : Nat) : mx_G r (t_Wi_dataOf zz) 21 ls st h c n = (o_iald .int) r (mx_G r (t_Wi_dataOf zz)) 21 ls st h c n := mx_G_eq (tm_Wi_dataOf zz) r 21 ls st h c n
theorem st_Wi_dataOf_22 (zz : Nat × Nat) (r : mx_T) (ls : mx_L) (st : List Value) (h : mx_H) (c n : Nat) : mx_G r (t_Wi_dataOf zz) 22 ls st h c n = (o_i1 (fun x => .long x.toInt64)) r (mx_G r (t_Wi_dataOf zz)) 22 ls st h c n := mx_G_eq (tm_Wi_dataOf zz) r 22 ls st h c n
theorem st_Wi_dataOf_23 (zz : Nat × Nat) (r : mx_T) (ls : mx_L) (st : List Value) (h : mx_H) (c n : Nat) : mx_G r (t_Wi_dataOf zz) 23 ls st h c n = (o_ll (fun x y => .long (x ||| y))) r (mx_G r (t_Wi_dataOf zz)) 23 ls st h c n := mx_G_eq (tm_Wi_dataOf zz) r 23 ls st h c n
theorem st_Wi_dataOf_24 (zz : Nat × Nat) (r : mx_T) (ls : mx_L) (st : List Value) (h : mx_H) (c n : Nat) : mx_G r (t_Wi_dataOf zz) 24 ls st h c n = (o_lstore 1 2) r (mx_G r (t_Wi_dataOf zz)) 24 ls st h c n := mx_G_eq (tm_Wi_dataOf zz) r 24 ls st h c n
theorem st_Wi_dataOf_25 (zz : Nat × Nat) (r : mx_T) (ls : mx_L) (st : List Value) (h : mx_H) (c n : Nat) : mx_G r (t_Wi_dataOf zz) 25 ls st h c n = (o_iinc 4 (-1)) r (mx_G r (t_Wi_dataOf zz)) 25 ls st h c n := mx_G_eq (tm_Wi_dataOf zz) r 25 ls st h c n
theorem st_Wi_dataOf_28 (zz : Nat × Nat) (r : mx_T) (ls : mx_L) (st : List Value) (h : mx_H) (c n : Nat) : mx_G r (t_Wi_dataOf zz) 28 ls st h c n = (o_goto 5) r (mx_G r (t_Wi_dataOf zz)) 28 ls st h c n := mx_G_eq (tm_Wi_dataOf zz) r 28 ls st h c n
theorem st_Wi_dataOf_31 (zz : Nat × Nat) (r : mx_T) (ls : mx_L) (st : List Value) (h : mx_H) (c n : Nat) : mx_G r (t_Wi_dataOf zz) 31 ls st h c n = (o_lload 1 2) r (mx_G r (t_Wi_dataOf zz)) 31 ls st h c n := mx_G_eq (tm_Wi_dataOf zz) r 31 ls st h c n
theorem st_Wi_dataOf_32 (zz : Nat × Nat) (r : mx_T) (ls : mx_L) (st : List Value) (h : mx_H) (c n : Nat) : mx_G r (t_Wi_dataOf zz) 32 ls st h c n = (o_lret) r (mx_G r (t_Wi_dataOf zz)) 32 ls st h c n := mx_G_eq (tm_Wi_dataOf zz) r 32 ls st h c n
theorem d_Wi_isValidFor_0 : decode c_Wi_isValidFor 0 = .ok (.aload_n 1, 1) := by decide +kernel
theorem d_Wi_isValidFor_1 : decode c_Wi_isValidFor 1 = .ok (.getfield 29, 3) := by decide +kernel
theorem d_Wi_isValidFor_4 : decode c_Wi_isValidFor 4 = .ok (.iconst 1, 1) := by decide +kernel
theorem d_Wi_isValidFor_5 : decode c_Wi_isValidFor 5 = .ok (.iadd, 1) := by decide +kernel
theorem d_Wi_isValidFor_6 : decode c_Wi_isValidFor 6 = .ok (.istore_n 2, 1) := by decide +kernel
theorem d_Wi_isValidFor_7 : decode c_Wi_isValidFor 7 = .ok (.aload_n 0, 1) := by decide +kernel
theorem d_Wi_isValidFor_8 : decode c_Wi_isValidFor 8 = .ok (.getfield 15, 3) := by decide +kernel
theorem d_Wi_isValidFor_11 : decode c_Wi_isValidFor 11 = .ok (.iload_n 2, 1) := by decide +kernel
theorem d_Wi_isValidFor_12 : decode c_Wi_isValidFor 12 = .ok (.iconst 1, 1) := by decide +kernel
theorem d_Wi_isValidFor_13 : decode c_Wi_isValidFor 13 = .ok (.iadd, 1) := by decide +kernel
theorem d_Wi_isValidFor_14 : decode c_Wi_isValidFor 14 = .ok (.if_icmp .ne 34, 3) := by decide +kernel
theorem d_Wi_isValidFor_17 : decode c_Wi_isValidFor 17 = .ok (.aload_n 0, 1) := by decide +kernel
theorem d_Wi_isValidFor_18 : decode c_Wi_isValidFor 18 = .ok (.getfield 9, 3) := by decide +kernel
theorem d_Wi_isValidFor_21 : decode c_Wi_isValidFor 21 = .ok (.iload_n 2, 1) := by decide +kernel
theorem d_Wi_isValidFor_22 : decode c_Wi_isValidFor 22 = .ok (.iaload, 1) := by decide +kernel
theorem d_Wi_isValidFor_23 : decode c_Wi_isValidFor 23 = .ok (.aload_n 1, 1) := by decide +kernel
theorem d_Wi_isValidFor_24 : decode c_Wi_isValidFor 24 = .ok (.aload_n 0, 1) := by decide +kernel
theorem d_Wi_isValidFor_25 : decode c_Wi_isValidFor 25 = .ok (.getfield 9, 3) := by decide +kernel
theorem d_Wi_isValidFor_28 : decode c_Wi_isValidFor 28 = .ok (.iconst 0, 1) := by decide +kernel
theorem d_Wi_isValidFor_29 : decode c_Wi_isValidFor 29 = .ok (.iaload, 1) := by decide +kernel
theorem d_Wi_isValidFor_30 : decode c_Wi_isValidFor 30 = .ok (.aload_n 0, 1) := by decide +kernel
theorem d_Wi_isValidFor_31 : decode c_Wi_isValidFor 31 = .ok (.aload_n 1, 1) := by decide +kernel
theorem d_Wi_isValidFor_32 : decode c_Wi_isValidFor 32 = .ok (.getfield 29, 3) := by decide +kernel
theorem d_Wi_isValidFor_35 : decode c_Wi_isValidFor 35 = .ok (.invokevirtual 53, 3) := by decide +kernel
theorem d_Wi_isValidFor_38 : decode c_Wi_isValidFor 38 = .ok (.invokevirtual 46, 3) := by decide +kernel
theorem d_Wi_isValidFor_41 : decode c_Wi_isValidFor 41 = .ok (.if_icmp .ne 7, 3) := by decide +kernel
theorem d_Wi_isValidFor_44 : decode c_Wi_isValidFor 44 = .ok (.iconst 1, 1) := by decide +kernel
theorem d_Wi_isValidFor_45 : decode c_Wi_isValidFor 45 = .ok (.goto 4, 3) := by decide +kernel
theorem d_Wi_isValidFor_48 : decode c_Wi_isValidFor 48 = .ok (.iconst 0, 1) := by decide +kernel
theorem d_Wi_isValidFor_49 : decode c_Wi_isValidFor 49 = .ok (.ireturn, 1) := by decide +kernel
def t_Wi_isValidFor (zz : Nat × Nat) : List (Nat × mx_O) := [(0, o_aload 1 1),
  (1, o_get 1 3),
  (4, o_push 1 (.int 1)),
  (5, o_ii (fun x y => x + y)),
  (6, o_istore 1 2),
  (7, o_aload 1 0),
  (8, o_get 8 1),
  (11, o_iload 1 2),
  (12, o_push 1 (.int 1)),
  (13, o_ii (fun x y => x + y)),
  (14, o_icmp 48 (fun x y => ¬ x = y)),
  (17, o_aload 1 0),
  (18, o_get 8 0),
  (21, o_iload 1 2),
  (22, o_iald .int),
  (23, o_aload 1 1),
  (24, o_aload 1 0),
  (25, o_get 8 0),
  (28, o_push 1 (.int 0)),
  (29, o_iald .int),
  (30, o_aload 1 0),
  (31, o_aload 1 1),
  (32, o_get 1 3),
  (35, o_call 0 0 2 0 0 (mx_rv 8) (S_Wi_dataOf zz)),
  (38, o_call 0 0 3 0 0 (mx_rv 1) (S_Fr_checksumUnder zz)),
  (41, o_icmp 48 (fun x y => ¬ x = y)),
  (44, o_push 1 (.int 1)),
  (45, o_goto 49),
  (48, o_push 1 (.int 0)),
  (49, o_zret)]
set_option maxRecDepth 100000 in
theorem tm_Wi_isValidFor (zz : Nat × Nat) : mx_All (fun _ o => mx_Mono o) (t_Wi_isValidFor zz) := by
  refine mx_all_cons (mo_st) ?_
  refine mx_all_cons (mo_st) ?_
  refine mx_all_cons (mo_st) ?_
  refine mx_all_cons (mo_st) ?_
  refine mx_all_cons (mo_st) ?_
  refine mx_all_cons (mo_st) ?_
  refine mx_all_cons (mo_st) ?_
  refine mx_all_cons (mo_st) ?_
  refine mx_all_cons (mo_st) ?_
  refine mx_all_cons (mo_st) ?_
  refine mx_all_cons (mo_br) ?_
  refine mx_all_cons (mo_st) ?_
  refine mx_all_cons (mo_st) ?_
  refine mx_all_cons (mo_st) ?_
  refine mx_all_cons (mo_sc) ?_
  refine mx_all_cons (mo_st) ?_
  refine mx_all_cons (mo_st) ?_
  refine mx_all_cons (mo_st) ?_
  refine mx_all_cons (mo_st) ?_
  refine mx_all_cons (mo_sc) ?_
  refine mx_all_cons (mo_st) ?_
  refine mx_all_cons (mo_st) ?_
  refine mx_all_cons (mo_st) ?_
  refine mx_all_cons (mo_call (sm_Wi_dataOf zz)) ?_
  refine mx_all_cons (mo_call (sm_Fr_checksumUnder zz)) ?_
  refine mx_all_cons (mo_br) ?_
  refine mx_all_cons (mo_st) ?_
  refine mx_all_cons (mo_st) ?_
  refine mx_all_cons (mo_st) ?_
  refine mx_all_cons (mo_zret) ?_
  exact mx_all_nil
def S_Wi_isValidFor (zz : Nat × Nat) : mx_Sp := mx_S 3 0 0 (t_Wi_isValidFor zz)
theorem sm_Wi_isValidFor (zz : Nat × Nat) : mx_SMono (S_Wi_isValidFor zz) := mx_S_mono (tm_Wi_isValidFor zz)
abbrev rm_Wi_isValidFor : Room := { frames := 2, cells := 0, slots := 0, locals := 47 }
set_option maxHeartbeats 4000000 in
set_option maxRecDepth 100000 in
theorem m_Wi_isValidFor (l : Launch) (zz : Nat × Nat) : mx_Met l y_Wi_isValidFor (wsOf y_Wi_isValidFor c_Wi_isValidFor 3 (some .boolean)) rm_Wi_isValidFor wcl (mx_Z zz) 0 0 (S_Wi_isValidFor zz) := by
  refine mx_met (cc := c_Wi_isValidFor) (ret := (some .boolean)) (by decide) rfl ?_
  intro p e s m args below meth c D A Post X hz hr hlk hnm
  have hm : ∀ w ∈ mw, w.before args s = true := fun w h => X.1.2.2.2.2 w (List.mem_cons_of_mem _ h)
  refine mx_all_cons (ok_aload (fun hl kk => lv_aload_n X.1.1 X.1.2.1 d_Wi_isValidFor_0 rfl hl kk) (fun hl kk => lv_aload_nN X.1.1 X.1.2.1 d_Wi_isValidFor_0 rfl hl kk)) ?_
  refine mx_all_cons (ok_get (C := "HeaderSchedule$Frame") (T := T_Fr) (N := 8) X (mw_up in_Fr) rfl 3 (by decide) (hm _ w229) (fun _ h9 => h9) d_Wi_isValidFor_1) ?_
  refine mx_all_cons (ok_push (fun kk => lv_iconst X.1.1 X.1.2.1 d_Wi_isValidFor_4 (by decide) kk)) ?_
  refine mx_all_cons (ok_ii (fun kk => lv_iadd X.1.1 X.1.2.1 d_Wi_isValidFor_5 kk)) ?_
  refine mx_all_cons (ok_istore (fun hl kk => lv_istore_n X.1.1 X.1.2.1 d_Wi_isValidFor_6 rfl hl (by decide) rfl kk)) ?_
  refine mx_all_cons (ok_aload (fun hl kk => lv_aload_n X.1.1 X.1.2.1 d_Wi_isValidFor_7 rfl hl kk) (fun hl kk => lv_aload_nN X.1.1 X.1.2.1 d_Wi_isValidFor_7 rfl hl kk)) ?_
  refine mx_all_cons (ok_get (C := "HeaderSchedule$Wire") (T := T_Wi) (N := 4) X (mw_up in_Wi) rfl 1 (by decide) (hm _ w143) (fun _ h9 => h9) d_Wi_isValidFor_8) ?_
  refine mx_all_cons (ok_iload (fun hl kk => lv_iload_n X.1.1 X.1.2.1 d_Wi_isValidFor_11 rfl hl kk)) ?_
  refine mx_all_cons (ok_push (fun kk => lv_iconst X.1.1 X.1.2.1 d_Wi_isValidFor_12 (by decide) kk)) ?_
  refine mx_all_cons (ok_ii (fun kk => lv_iadd X.1.1 X.1.2.1 d_Wi_isValidFor_13 kk)) ?_
  refine mx_all_cons (ok_icmp (fun kt kf => lv_icmp_ne X.1.1 X.1.2.1 d_Wi_isValidFor_14 (by decide) kt (fun z => kf (fun g => g z)))) ?_
  refine mx_all_cons (ok_aload (fun hl kk => lv_aload_n X.1.1 X.1.2.1 d_Wi_isValidFor_17 rfl hl kk) (fun hl kk => lv_aload_nN X.1.1 X.1.2.1 d_Wi_isValidFor_17 rfl hl kk)) ?_
  refine mx_all_cons (ok_get (C := "HeaderSchedule$Wire") (T := T_Wi) (N := 4) X (mw_up in_Wi) rfl 0 (by decide) (hm _ w142) (fun _ h9 => h9) d_Wi_isValidFor_18) ?_
  refine mx_all_cons (ok_iload (fun hl kk => lv_iload_n X.1.1 X.1.2.1 d_Wi_isValidFor_21 rfl hl kk)) ?_
  refine mx_all_cons (ok_iald X d_Wi_isValidFor_22) ?_
  refine mx_all_cons (ok_aload (fun hl kk => lv_aload_n X.1.1 X.1.2.1 d_Wi_isValidFor_23 rfl hl kk) (fun hl kk => lv_aload_nN X.1.1 X.1.2.1 d_Wi_isValidFor_23 rfl hl kk)) ?_
  refine mx_all_cons (ok_aload (fun hl kk => lv_aload_n X.1.1 X.1.2.1 d_Wi_isValidFor_24 rfl hl kk) (fun hl kk => lv_aload_nN X.1.1 X.1.2.1 d_Wi_isValidFor_24 rfl hl kk)) ?_
  refine mx_all_cons (ok_get (C := "HeaderSchedule$Wire") (T := T_Wi) (N := 4) X (mw_up in_Wi) rfl 0 (by decide) (hm _ w142) (fun _ h9 => h9) d_Wi_isValidFor_25) ?_
  refine mx_all_cons (ok_push (fun kk => lv_iconst X.1.1 X.1.2.1 d_Wi_isValidFor_28 (by decide) kk)) ?_
  refine mx_all_cons (ok_iald X d_Wi_isValidFor_29) ?_
  refine mx_all_cons (ok_aload (fun hl kk => lv_aload_n X.1.1 X.1.2.1 d_Wi_isValidFor_30 rfl hl kk) (fun hl kk => lv_aload_nN X.1.1 X.1.2.1 d_Wi_isValidFor_30 rfl hl kk)) ?_
  refine mx_all_cons (ok_aload (fun hl kk => lv_aload_n X.1.1 X.1.2.1 d_Wi_isValidFor_31 rfl hl kk) (fun hl kk => lv_aload_nN X.1.1 X.1.2.1 d_Wi_isValidFor_31 rfl hl kk)) ?_
  refine mx_all_cons (ok_get (C := "HeaderSchedule$Frame") (T := T_Fr) (N := 8) X (mw_up in_Fr) rfl 3 (by decide) (hm _ w229) (fun _ h9 => h9) d_Wi_isValidFor_32) ?_
  refine mx_all_cons (ok_callV (C := "HeaderSchedule$Wire") (T := T_Wi) (N := 4) X (mx_Zok_Z zz) hz ⟨(Nat.le_of_ble_eq_true rfl), (Nat.le_of_ble_eq_true rfl)⟩ (m_Wi_dataOf l zz) ⟨mx_cwB 1 hm w604 w601 w39 rfl rfl (by decide +kernel) ⟨(Nat.le_of_ble_eq_true rfl), (Nat.le_of_ble_eq_true rfl)⟩, (hm _ w602), hm _ w603⟩ rfl d_Wi_isValidFor_35) ?_
  refine mx_all_cons (ok_callV (C := "HeaderSchedule$Frame") (T := T_Fr) (N := 8) X (mx_Zok_Z zz) hz ⟨(Nat.le_of_ble_eq_true rfl), (Nat.le_of_ble_eq_true rfl)⟩ (m_Fr_checksumUnder l zz) ⟨mx_cwB 2 hm w591 w588 w41 rfl rfl (by decide +kernel) ⟨(Nat.le_of_ble_eq_true rfl), (Nat.le_of_ble_eq_true rfl)⟩, (hm _ w589), hm _ w590⟩ rfl d_Wi_isValidFor_38) ?_
  refine mx_all_cons (ok_icmp (fun kt kf => lv_icmp_ne X.1.1 X.1.2.1 d_Wi_isValidFor_41 (by decide) kt (fun z => kf (fun g => g z)))) ?_
  refine mx_all_cons (ok_push (fun kk => lv_iconst X.1.1 X.1.2.1 d_Wi_isValidFor_44 (by decide) kk)) ?_
  refine mx_all_cons (ok_goto X d_Wi_isValidFor_45 (by decide)) ?_
  refine mx_all_cons (ok_push (fun kk => lv_iconst X.1.1 X.1.2.1 d_Wi_isValidFor_48 (by decide) kk)) ?_
  refine mx_all_cons (ok_zret X hr hlk d_Wi_isValidFor_49) ?_
  exact mx_all_nil
theorem st_Wi_isValidFor_0 (zz : Nat × Nat) (r : mx_T) (ls : mx_L) (st : List Value) (h : mx_H) (c n : Nat) : mx_G r (t_Wi_isValidFor zz) 0 ls st h c n = (o_aload 1 1) r (mx_G r (t_Wi_isValidFor zz)) 0 ls st h c n := mx_G_eq (tm_Wi_isValidFor zz) r 0 ls st h c n
theorem st_Wi_isValidFor_1 (zz : Nat × Nat) (r : mx_T) (ls : mx_L) (st : List Value) (h : mx_H) (c n : Nat) : mx_G r (t_Wi_isValidFor zz) 1 ls st h c n = (o_get 1 3) r (mx_G r (t_Wi_isValidFor zz)) 1 ls st h c n := mx_G_eq (tm_Wi_isValidFor zz) r 1 ls st h c n
theorem st_Wi_isValidFor_4 (zz : Nat × Nat) (r : mx_T) (ls : mx_L) (st : List Value) (h : mx_H) (c n : Nat) : mx_G r (t_Wi_isValidFor zz) 4 ls st h c n = (o_push 1 (.int 1)) r (mx_G r (t_Wi_isValidFor zz)) 4 ls st h c n := mx_G_eq (tm_Wi_isValidFor zz) r 4 ls st h c n
theorem st_Wi_isValidFor_5 (zz : Nat × Nat) (r : mx_T) (ls : mx_L) (st : List Value) (h : mx_H) (c n : Nat) : mx_G r (t_Wi_isValidFor zz) 5 ls st h c n = (o_ii (fun x y => x + y)) r (mx_G r (t_Wi_isValidFor zz)) 5 ls st h c n := mx_G_eq (tm_Wi_isValidFor zz) r 5 ls st h c n
theorem st_Wi_isValidFor_6 (zz : Nat × Nat) (r : mx_T) (ls : mx_L) (st : List Value) (h : mx_H) (c n : Nat) : mx_G r (t_Wi_isValidFor zz) 6 ls st h c n = (o_istore 1 2) r (mx_G r (t_Wi_isValidFor zz)) 6 ls st h c n := mx_G_eq (tm_Wi_isValidFor zz) r 6 ls st h c n
theorem st_Wi_isValidFor_7 (zz : Nat × Nat) (r : mx_T) (ls : mx_L) (st : List Value) (h : mx_H) (c n : Nat) : mx_G r (t_Wi_isValidFor zz) 7 ls st h c n = (o_aload 1 0) r (mx_G r (t_Wi_isValidFor zz)) 7 ls st h c n := mx_G_eq (tm_Wi_isValidFor zz) r 7 ls st h c n
theorem st_Wi_isValidFor_8 (zz : Nat × Nat) (r : mx_T) (ls : mx_L) (st : List Value) (h : mx_H) (c n : Nat) : mx_G r (t_Wi_isValidFor zz) 8 ls st h c n = (o_get 8 1) r (mx_G r (t_Wi_isValidFor zz)) 8 ls st h c n := mx_G_eq (tm_Wi_isValidFor zz) r 8 ls st h c n
theorem st_Wi_isValidFor_11 (zz : Nat × Nat) (r : mx_T) (ls : mx_L) (st : List Value) (h : mx_H) (c n : Nat) : mx_G r (t_Wi_isValidFor zz) 11 ls st h c n = (o_iload 1 2) r (mx_G r (t_Wi_isValidFor zz)) 11 ls st h c n := mx_G_eq (tm_Wi_isValidFor zz) r 11 ls st h c n
theorem st_Wi_isValidFor_12 (zz : Nat × Nat) (r : mx_T) (ls : mx_L) (st : List Value) (h : mx_H) (c n : Nat) : mx_G r (t_Wi_isValidFor zz) 12 ls st h c n = (o_push 1 (.int 1)) r (mx_G r (t_Wi_isValidFor zz)) 12 ls st h c n := mx_G_eq (tm_Wi_isValidFor zz) r 12 ls st h c n
theorem st_Wi_isValidFor_13 (zz : Nat × Nat) (r : mx_T) (ls : mx_L) (st : List Value) (h : mx_H) (c n : Nat) : mx_G r (t_Wi_isValidFor zz) 13 ls st h c n = (o_ii (fun x y => x + y)) r (mx_G r (t_Wi_isValidFor zz)) 13 ls st h c n := mx_G_eq (tm_Wi_isValidFor zz) r 13 ls st h c n
theorem st_Wi_isValidFor_14 (zz : Nat × Nat) (r : mx_T) (ls : mx_L) (st : List Value) (h : mx_H) (c n : Nat) : mx_G r (t_Wi_isValidFor zz) 14 ls st h c n = (o_icmp 48 (fun x y => ¬ x = y)) r (mx_G r (t_Wi_isValidFor zz)) 14 ls st h c n := mx_G_eq (tm_Wi_isValidFor zz) r 14 ls st h c n
theorem st_Wi_isValidFor_17 (zz : Nat × Nat) (r : mx_T) (ls : mx_L) (st : List Value) (h : mx_H) (c n : Nat) : mx_G r (t_Wi_isValidFor zz) 17 ls st h c n = (o_aload 1 0) r (mx_G r (t_Wi_isValidFor zz)) 17 ls st h c n := mx_G_eq (tm_Wi_isValidFor zz) r 17 ls st h c n
theorem st_Wi_isValidFor_18 (zz : Nat × Nat) (r : mx_T) (ls : mx_L) (st : List Value) (h : mx_H) (c n : Nat) : mx_G r (t_Wi_isValidFor zz) 18 ls st h c n = (o_get 8 0) r (mx_G r (t_Wi_isValidFor zz)) 18 ls st h c n := mx_G_eq (tm_Wi_isValidFor zz) r 18 ls st h c n
theorem st_Wi_isValidFor_21 (zz : Nat × Nat) (r : mx_T) (ls : mx_L) (st : List Value) (h : mx_H) (c n : Nat) : mx_G r (t_Wi_isValidFor zz) 21 ls st h c n = (o_iload 1 2) r (mx_G r (t_Wi_isValidFor zz)) 21 ls st h c n := mx_G_eq (tm_Wi_isValidFor zz) r 21 ls st h c n
theorem st_Wi_isValidFor_22 (zz : Nat × Nat) (r : mx_T) (ls : mx_L) (st : List Value) (h : mx_H) (c n : Nat) : mx_G r (t_Wi_isValidFor zz) 22 ls st h c n = (o_iald .int) r (mx_G r (t_Wi_isValidFor zz)) 22 ls st h c n := mx_G_eq (tm_Wi_isValidFor zz) r 22 ls st h c n
theorem st_Wi_isValidFor_23 (zz : Nat × Nat) (r : mx_T) (ls : mx_L) (st : List Value) (h : mx_H) (c n : Nat) : mx_G r (t_Wi_isValidFor zz) 23 ls st h c n = (o_aload 1 1) r (mx_G r (t_Wi_isValidFor zz)) 23 ls st h c n := mx_G_eq (tm_Wi_isValidFor zz) r 23 ls st h c n
theorem st_Wi_isValidFor_24 (zz : Nat × Nat) (r : mx_T) (ls : mx_L) (st : List Value) (h : mx_H) (c n : Nat) : mx_G r (t_Wi_isValidFor zz) 24 ls st h c n = (o_aload 1 0) r (mx_G r (t_Wi_isValidFor zz)) 24 ls st h c n := mx_G_eq (tm_Wi_isValidFor zz) r 24 ls st h c n
theorem st_Wi_isValidFor_25 (zz : Nat × Nat) (r : mx_T) (ls : mx_L) (st : List Value) (h : mx_H) (c n : Nat) : mx_G r (t_Wi_isValidFor zz) 25 ls st h c n = (o_get 8 0) r (mx_G r (t_Wi_isValidFor zz)) 25 ls st h c n := mx_G_eq (tm_Wi_isValidFor zz) r 25 ls st h c n
theorem st_Wi_isValidFor_28 (zz : Nat × Nat) (r : mx_T) (ls : mx_L) (st : List Value) (h : mx_H) (c n : Nat) : mx_G r (t_Wi_isValidFor zz) 28 ls st h c n = (o_push 1 (.int 0)) r (mx_G r (t_Wi_isValidFor zz)) 28 ls st h c n := mx_G_eq (tm_Wi_isValidFor zz) r 28 ls st h c n
theorem st_Wi_isValidFor_29 (zz : Nat × Nat) (r : mx_T) (ls : mx_L) (st : List Value) (h : mx_H) (c n : Nat) : mx_G r (t_Wi_isValidFor zz) 29 ls st h c n = (o_iald .int) r (mx_G r (t_Wi_isValidFor zz)) 29 ls st h c n := mx_G_eq (tm_Wi_isValidFor zz) r 29 ls st h c n
theorem st_Wi_isValidFor_30 (zz : Nat × Nat) (r : mx_T) (ls : mx_L) (st : List Value) (h : mx_H) (c n : Nat) : mx_G r (t_Wi_isValidFor zz) 30 ls st h c n = (o_aload 1 0) r (mx_G r (t_Wi_isValidFor zz)) 30 ls st h c n := mx_G_eq (tm_Wi_isValidFor zz) r 30 ls st h c n
theorem st_Wi_isValidFor_31 (zz : Nat × Nat) (r : mx_T) (ls : mx_L) (st : List Value) (h : mx_H) (c n : Nat) : mx_G r (t_Wi_isValidFor zz) 31 ls st h c n = (o_aload 1 1) r (mx_G r (t_Wi_isValidFor zz)) 31 ls st h c n := mx_G_eq (tm_Wi_isValidFor zz) r 31 ls st h c n
theorem st_Wi_isValidFor_32 (zz : Nat × Nat) (r : mx_T) (ls : mx_L) (st : List Value) (h : mx_H) (c n : Nat) : mx_G r (t_Wi_isValidFor zz) 32 ls st h c n = (o_get 1 3) r (mx_G r (t_Wi_isValidFor zz)) 32 ls st h c n := mx_G_eq (tm_Wi_isValidFor zz) r 32 ls st h c n
theorem st_Wi_isValidFor_35 (zz : Nat × Nat) (r : mx_T) (ls : mx_L) (st : List Value) (h : mx_H) (c n : Nat) : mx_G r (t_Wi_isValidFor zz) 35 ls st h c n = (o_call 0 0 2 0 0 (mx_rv 8) (S_Wi_dataOf zz)) r (mx_G r (t_Wi_isValidFor zz)) 35 ls st h c n := mx_G_eq (tm_Wi_isValidFor zz) r 35 ls st h c n
theorem st_Wi_isValidFor_38 (zz : Nat × Nat) (r : mx_T) (ls : mx_L) (st : List Value) (h : mx_H) (c n : Nat) : mx_G r (t_Wi_isValidFor zz) 38 ls st h c n = (o_call 0 0 3 0 0 (mx_rv 1) (S_Fr_checksumUnder zz)) r (mx_G r (t_Wi_isValidFor zz)) 38 ls st h c n := mx_G_eq (tm_Wi_isValidFor zz) r 38 ls st h c n
theorem st_Wi_isValidFor_41 (zz : Nat × Nat) (r : mx_T) (ls : mx_L) (st : List Value) (h : mx_H) (c n : Nat) : mx_G r (t_Wi_isValidFor zz) 41 ls st h c n = (o_icmp 48 (fun x y => ¬ x = y)) r (mx_G r (t_Wi_isValidFor zz)) 41 ls st h c n := mx_G_eq (tm_Wi_isValidFor zz) r 41 ls st h c n
theorem st_Wi_isValidFor_44 (zz : Nat × Nat) (r : mx_T) (ls : mx_L) (st : List Value) (h : mx_H) (c n : Nat) : mx_G r (t_Wi_isValidFor zz) 44 ls st h c n = (o_push 1 (.int 1)) r (mx_G r (t_Wi_isValidFor zz)) 44 ls st h c n := mx_G_eq (tm_Wi_isValidFor zz) r 44 ls st h c n
theorem st_Wi_isValidFor_45 (zz : Nat × Nat) (r : mx_T) (ls : mx_L) (st : List Value) (h : mx_H) (c n : Nat) : mx_G r (t_Wi_isValidFor zz) 45 ls st h c n = (o_goto 49) r (mx_G r (t_Wi_isValidFor zz)) 45 ls st h c n := mx_G_eq (tm_Wi_isValidFor zz) r 45 ls st h c n
theorem st_Wi_isValidFor_48 (zz : Nat × Nat) (r : mx_T) (ls : mx_L) (st : List Value) (h : mx_H) (c n : Nat) : mx_G r (t_Wi_isValidFor zz) 48 ls st h c n = (o_push 1 (.int 0)) r (mx_G r (t_Wi_isValidFor zz)) 48 ls st h c n := mx_G_eq (tm_Wi_isValidFor zz) r 48 ls st h c n
theorem st_Wi_isValidFor_49 (zz : Nat × Nat) (r : mx_T) (ls : mx_L) (st : List Value) (h : mx_H) (c n : Nat) : mx_G r (t_Wi_isValidFor zz) 49 ls st h c n = (o_zret) r (mx_G r (t_Wi_isValidFor zz)) 49 ls st h c n := mx_G_eq (tm_Wi_isValidFor zz) r 49 ls st h c n
theorem d_Sg_takeFrom_0 : decode c_Sg_takeFrom 0 = .ok (.aload_n 0, 1) := by decide +kernel
theorem d_Sg_takeFrom_1 : decode c_Sg_takeFrom 1 = .ok (.lload_n 1, 1) := by decide +kernel
theorem d_Sg_takeFrom_2 : decode c_Sg_takeFrom 2 = .ok (.aload_n 0, 1) := by decide +kernel
theorem d_Sg_takeFrom_3 : decode c_Sg_takeFrom 3 = .ok (.getfield 17, 3) := by decide +kernel
theorem d_Sg_takeFrom_6 : decode c_Sg_takeFrom 6 = .ok (.lushr, 1) := by decide +kernel
theorem d_Sg_takeFrom_7 : decode c_Sg_takeFrom 7 = .ok (.aload_n 0, 1) := by decide +kernel
theorem d_Sg_takeFrom_8 : decode c_Sg_takeFrom 8 = .ok (.invokevirtual 27, 3) := by decide +kernel
theorem d_Sg_takeFrom_11 : decode c_Sg_takeFrom 11 = .ok (.land, 1) := by decide +kernel
theorem d_Sg_takeFrom_12 : decode c_Sg_takeFrom 12 = .ok (.l2i, 1) := by decide +kernel
theorem d_Sg_takeFrom_13 : decode c_Sg_takeFrom 13 = .ok (.putfield 24, 3) := by decide +kernel
theorem d_Sg_takeFrom_16 : decode c_Sg_takeFrom 16 = .ok (.aload_n 0, 1) := by decide +kernel
theorem d_Sg_takeFrom_17 : decode c_Sg_takeFrom 17 = .ok (.iconst 1, 1) := by decide +kernel
theorem d_Sg_takeFrom_18 : decode c_Sg_takeFrom 18 = .ok (.putfield 7, 3) := by decide +kernel
theorem d_Sg_takeFrom_21 : decode c_Sg_takeFrom 21 = .ok (.return_, 1) := by decide +kernel
def t_Sg_takeFrom (zz : Nat × Nat) : List (Nat × mx_O) := [(0, o_aload 1 0),
  (1, o_lload 1 1),
  (2, o_aload 1 0),
  (3, o_get 2 1),
  (6, o_li (fun x y => (x.toUInt64 >>> (y.toInt64.toUInt64 &&& Int64.toUInt64 63)).toInt64)),
  (7, o_aload 1 0),
  (8, o_call 0 0 1 0 0 (mx_rv 2) (S_Sg_most zz)),
  (11, o_ll (fun x y => .long (x &&& y))),
  (12, o_l1 (fun x => .int x.toInt32)),
  (13, o_put 2 3 mx_vI),
  (16, o_aload 1 0),
  (17, o_push 1 (.int 1)),
  (18, o_put 2 4 mx_vZ),
  (21, o_vret)]
set_option maxRecDepth 100000 in
theorem tm_Sg_takeFrom (zz : Nat × Nat) : mx_All (fun _ o => mx_Mono o) (t_Sg_takeFrom zz) := by
  refine mx_all_cons (mo_st) ?_
  refine mx_all_cons (mo_st) ?_
  refine mx_all_cons (mo_st) ?_
  refine mx_all_cons (mo_st) ?_
  refine mx_all_cons (mo_st) ?_
  refine mx_all_cons (mo_st) ?_
  refine mx_all_cons (mo_call (sm_Sg_most zz)) ?_
  refine mx_all_cons (mo_st) ?_
  refine mx_all_cons (mo_st) ?_
  refine mx_all_cons (mo_sc) ?_
  refine mx_all_cons (mo_st) ?_
  refine mx_all_cons (mo_st) ?_
  refine mx_all_cons (mo_sc) ?_
  refine mx_all_cons (mo_ret) ?_
  exact mx_all_nil
def S_Sg_takeFrom (zz : Nat × Nat) : mx_Sp := mx_S 3 0 0 (t_Sg_takeFrom zz)
theorem sm_Sg_takeFrom (zz : Nat × Nat) : mx_SMono (S_Sg_takeFrom zz) := mx_S_mono (tm_Sg_takeFrom zz)
abbrev rm_Sg_takeFrom : Room := { frames := 1, cells := 0, slots := 0, locals := 20 }
set_option maxHeartbeats 4000000 in
set_option maxRecDepth 100000 in
theorem m_Sg_takeFrom (l : Launch) (zz : Nat × Nat) : mx_Met l y_Sg_takeFrom (wsOf y_Sg_takeFrom c_Sg_takeFrom 3 none) rm_Sg_takeFrom wcl (mx_Z zz) 0 0 (S_Sg_takeFrom zz) := by
  refine mx_met (cc := c_Sg_takeFrom) (ret := none) (by decide) rfl ?_
  intro p e s m args below meth c D A Post X hz hr hlk hnm
  have hm : ∀ w ∈ mw, w.before args s = true := fun w h => X.1.2.2.2.2 w (List.mem_cons_of_mem _ h)
  refine mx_all_cons (ok_aload (fun hl kk => lv_aload_n X.1.1 X.1.2.1 d_Sg_takeFrom_0 rfl hl kk) (fun hl kk => lv_aload_nN X.1.1 X.1.2.1 d_Sg_takeFrom_0 rfl hl kk)) ?_
  refine mx_all_cons (ok_lload (fun hl kk => lv_lload_n X.1.1 X.1.2.1 d_Sg_takeFrom_1 rfl hl kk)) ?_
  refine mx_all_cons (ok_aload (fun hl kk => lv_aload_n X.1.1 X.1.2.1 d_Sg_takeFrom_2 rfl hl kk) (fun hl kk => lv_aload_nN X.1.1 X.1.2.1 d_Sg_takeFrom_2 rfl hl kk)) ?_
  refine mx_all_cons (ok_get (C := "HeaderSchedule$Signal") (T := T_Sg) (N := 5) X (mw_up in_Sg) rfl 1 (by decide) (hm _ w345) (fun _ h9 => h9) d_Sg_takeFrom_3) ?_
  refine mx_all_cons (ok_li (fun kk => lv_lushr X.1.1 X.1.2.1 d_Sg_takeFrom_6 rfl kk)) ?_
  refine mx_all_cons (ok_aload (fun hl kk => lv_aload_n X.1.1 X.1.2.1 d_Sg_takeFrom_7 rfl hl kk) (fun hl kk => lv_aload_nN X.1.1 X.1.2.1 d_Sg_takeFrom_7 rfl hl kk)) ?_
  refine mx_all_cons (ok_callV (C := "HeaderSchedule$Signal") (T := T_Sg) (N := 5) X (mx_Zok_Z zz) hz ⟨(Nat.le_of_ble_eq_true rfl), (Nat.le_of_ble_eq_true rfl)⟩ (m_Sg_most l zz) ⟨mx_cwB 0 hm w369 w366 w48 rfl rfl (by decide +kernel) ⟨(Nat.le_of_ble_eq_true rfl), (Nat.le_of_ble_eq_true rfl)⟩, (hm _ w367), hm _ w368⟩ rfl d_Sg_takeFrom_8) ?_
  refine mx_all_cons (ok_ll (fun kk => lv_land X.1.1 X.1.2.1 d_Sg_takeFrom_11 kk)) ?_
  refine mx_all_cons (ok_l1 (fun kk => lv_l2i X.1.1 X.1.2.1 d_Sg_takeFrom_12 rfl kk)) ?_
  refine mx_all_cons (ok_put (C := "HeaderSchedule$Signal") (T := T_Sg) (N := 5) X (mw_up in_Sg) ty_Sg tyok_Sg nm_Sg rfl 3 (by decide) (hm _ w347) (fun _ h9 => h9) rfl (tyok_Sg 3 (by decide)) mx_vI_ok d_Sg_takeFrom_13) ?_
  refine mx_all_cons (ok_aload (fun hl kk => lv_aload_n X.1.1 X.1.2.1 d_Sg_takeFrom_16 rfl hl kk) (fun hl kk => lv_aload_nN X.1.1 X.1.2.1 d_Sg_takeFrom_16 rfl hl kk)) ?_
  refine mx_all_cons (ok_push (fun kk => lv_iconst X.1.1 X.1.2.1 d_Sg_takeFrom_17 (by decide) kk)) ?_
  refine mx_all_cons (ok_put (C := "HeaderSchedule$Signal") (T := T_Sg) (N := 5) X (mw_up in_Sg) ty_Sg tyok_Sg nm_Sg rfl 4 (by decide) (hm _ w349) (fun _ h9 => h9) rfl (tyok_Sg 4 (by decide)) mx_vZ_ok d_Sg_takeFrom_18) ?_
  refine mx_all_cons (ok_vret X hr hlk d_Sg_takeFrom_21) ?_
  exact mx_all_nil
theorem st_Sg_takeFrom_0 (zz : Nat × Nat) (r : mx_T) (ls : mx_L) (st : List Value) (h : mx_H) (c n : Nat) : mx_G r (t_Sg_takeFrom zz) 0 ls st h c n = (o_aload 1 0) r (mx_G r (t_Sg_takeFrom zz)) 0 ls st h c n := mx_G_eq (tm_Sg_takeFrom zz) r 0 ls st h c n
theorem st_Sg_takeFrom_1 (zz : Nat × Nat) (r : mx_T) (ls : mx_L) (st : List Value) (h : mx_H) (c n : Nat) : mx_G r (t_Sg_takeFrom zz) 1 ls st h c n = (o_lload 1 1) r (mx_G r (t_Sg_takeFrom zz)) 1 ls st h c n := mx_G_eq (tm_Sg_takeFrom zz) r 1 ls st h c n
theorem st_Sg_takeFrom_2 (zz : Nat × Nat) (r : mx_T) (ls : mx_L) (st : List Value) (h : mx_H) (c n : Nat) : mx_G r (t_Sg_takeFrom zz) 2 ls st h c n = (o_aload 1 0) r (mx_G r (t_Sg_takeFrom zz)) 2 ls st h c n := mx_G_eq (tm_Sg_takeFrom zz) r 2 ls st h c n
theorem st_Sg_takeFrom_3 (zz : Nat × Nat) (r : mx_T) (ls : mx_L) (st : List Value) (h : mx_H) (c n : Nat) : mx_G r (t_Sg_takeFrom zz) 3 ls st h c n = (o_get 2 1) r (mx_G r (t_Sg_takeFrom zz)) 3 ls st h c n := mx_G_eq (tm_Sg_takeFrom zz) r 3 ls st h c n
theorem st_Sg_takeFrom_6 (zz : Nat × Nat) (r : mx_T) (ls : mx_L) (st : List Value) (h : mx_H) (c n : Nat) : mx_G r (t_Sg_takeFrom zz) 6 ls st h c n = (o_li (fun x y => (x.toUInt64 >>> (y.toInt64.toUInt64 &&& Int64.toUInt64 63)).toInt64)) r (mx_G r (t_Sg_takeFrom zz)) 6 ls st h c n := mx_G_eq (tm_Sg_takeFrom zz) r 6 ls st h c n
theorem st_Sg_takeFrom_7 (zz : Nat × Nat) (r : mx_T) (ls : mx_L) (st : List Value) (h : mx_H) (c n : Nat) : mx_G r (t_Sg_takeFrom zz) 7 ls st h c n = (o_aload 1 0) r (mx_G r (t_Sg_takeFrom zz)) 7 ls st h c n := mx_G_eq (tm_Sg_takeFrom zz) r 7 ls st h c n
theorem st_Sg_takeFrom_8 (zz : Nat × Nat) (r : mx_T) (ls : mx_L) (st : List Value) (h : mx_H) (c n : Nat) : mx_G r (t_Sg_takeFrom zz) 8 ls st h c n = (o_call 0 0 1 0 0 (mx_rv 2) (S_Sg_most zz)) r (mx_G r (t_Sg_takeFrom zz)) 8 ls st h c n := mx_G_eq (tm_Sg_takeFrom zz) r 8 ls st h c n
theorem st_Sg_takeFrom_11 (zz : Nat × Nat) (r : mx_T) (ls : mx_L) (st : List Value) (h : mx_H) (c n : Nat) : mx_G r (t_Sg_takeFrom zz) 11 ls st h c n = (o_ll (fun x y => .long (x &&& y))) r (mx_G r (t_Sg_takeFrom zz)) 11 ls st h c n := mx_G_eq (tm_Sg_takeFrom zz) r 11 ls st h c n
theorem st_Sg_takeFrom_12 (zz : Nat × Nat) (r : mx_T) (ls : mx_L) (st : List Value) (h : mx_H) (c n : Nat) : mx_G r (t_Sg_takeFrom zz) 12 ls st h c n = (o_l1 (fun x => .int x.toInt32)) r (mx_G r (t_Sg_takeFrom zz)) 12 ls st h c n := mx_G_eq (tm_Sg_takeFrom zz) r 12 ls st h c n
theorem st_Sg_takeFrom_13 (zz : Nat × Nat) (r : mx_T) (ls : mx_L) (st : List Value) (h : mx_H) (c n : Nat) : mx_G r (t_Sg_takeFrom zz) 13 ls st h c n = (o_put 2 3 mx_vI) r (mx_G r (t_Sg_takeFrom zz)) 13 ls st h c n := mx_G_eq (tm_Sg_takeFrom zz) r 13 ls st h c n
theorem st_Sg_takeFrom_16 (zz : Nat × Nat) (r : mx_T) (ls : mx_L) (st : List Value) (h : mx_H) (c n : Nat) : mx_G r (t_Sg_takeFrom zz) 16 ls st h c n = (o_aload 1 0) r (mx_G r (t_Sg_takeFrom zz)) 16 ls st h c n := mx_G_eq (tm_Sg_takeFrom zz) r 16 ls st h c n
theorem st_Sg_takeFrom_17 (zz : Nat × Nat) (r : mx_T) (ls : mx_L) (st : List Value) (h : mx_H) (c n : Nat) : mx_G r (t_Sg_takeFrom zz) 17 ls st h c n = (o_push 1 (.int 1)) r (mx_G r (t_Sg_takeFrom zz)) 17 ls st h c n := mx_G_eq (tm_Sg_takeFrom zz) r 17 ls st h c n
theorem st_Sg_takeFrom_18 (zz : Nat × Nat) (r : mx_T) (ls : mx_L) (st : List Value) (h : mx_H) (c n : Nat) : mx_G r (t_Sg_takeFrom zz) 18 ls st h c n = (o_put 2 4 mx_vZ) r (mx_G r (t_Sg_takeFrom zz)) 18 ls st h c n := mx_G_eq (tm_Sg_takeFrom zz) r 18 ls st h c n
theorem st_Sg_takeFrom_21 (zz : Nat × Nat) (r : mx_T) (ls : mx_L) (st : List Value) (h : mx_H) (c n : Nat) : mx_G r (t_Sg_takeFrom zz) 21 ls st h c n = (o_vret) r (mx_G r (t_Sg_takeFrom zz)) 21 ls st h c n := mx_G_eq (tm_Sg_takeFrom zz) r 21 ls st h c n
theorem d_Hs_takeIn_0 : decode c_Hs_takeIn 0 = .ok (.aload_n 0, 1) := by decide +kernel
theorem d_Hs_takeIn_1 : decode c_Hs_takeIn 1 = .ok (.getfield 39, 3) := by decide +kernel
theorem d_Hs_takeIn_4 : decode c_Hs_takeIn 4 = .ok (.aload_n 1, 1) := by decide +kernel
theorem d_Hs_takeIn_5 : decode c_Hs_takeIn 5 = .ok (.getfield 87, 3) := by decide +kernel
theorem d_Hs_takeIn_8 : decode c_Hs_takeIn 8 = .ok (.invokevirtual 293, 3) := by decide +kernel
theorem d_Hs_takeIn_11 : decode c_Hs_takeIn 11 = .ok (.lstore_n 2, 1) := by decide +kernel
theorem d_Hs_takeIn_12 : decode c_Hs_takeIn 12 = .ok (.iconst 0, 1) := by decide +kernel
theorem d_Hs_takeIn_13 : decode c_Hs_takeIn 13 = .ok (.istore 4, 2) := by decide +kernel
theorem d_Hs_takeIn_15 : decode c_Hs_takeIn 15 = .ok (.iload 4, 2) := by decide +kernel
theorem d_Hs_takeIn_17 : decode c_Hs_takeIn 17 = .ok (.aload_n 0, 1) := by decide +kernel
theorem d_Hs_takeIn_18 : decode c_Hs_takeIn 18 = .ok (.getfield 16, 3) := by decide +kernel
theorem d_Hs_takeIn_21 : decode c_Hs_takeIn 21 = .ok (.invokevirtual 58, 3) := by decide +kernel
theorem d_Hs_takeIn_24 : decode c_Hs_takeIn 24 = .ok (.if_icmp .ge 38, 3) := by decide +kernel
theorem d_Hs_takeIn_27 : decode c_Hs_takeIn 27 = .ok (.aload_n 0, 1) := by decide +kernel
theorem d_Hs_takeIn_28 : decode c_Hs_takeIn 28 = .ok (.getfield 16, 3) := by decide +kernel
theorem d_Hs_takeIn_31 : decode c_Hs_takeIn 31 = .ok (.iload 4, 2) := by decide +kernel
theorem d_Hs_takeIn_33 : decode c_Hs_takeIn 33 = .ok (.invokevirtual 213, 3) := by decide +kernel
theorem d_Hs_takeIn_36 : decode c_Hs_takeIn 36 = .ok (.checkcast 90, 3) := by decide +kernel
theorem d_Hs_takeIn_39 : decode c_Hs_takeIn 39 = .ok (.astore 5, 2) := by decide +kernel
theorem d_Hs_takeIn_41 : decode c_Hs_takeIn 41 = .ok (.aload 5, 2) := by decide +kernel
theorem d_Hs_takeIn_43 : decode c_Hs_takeIn 43 = .ok (.getfield 171, 3) := by decide +kernel
theorem d_Hs_takeIn_46 : decode c_Hs_takeIn 46 = .ok (.aload_n 1, 1) := by decide +kernel
theorem d_Hs_takeIn_47 : decode c_Hs_takeIn 47 = .ok (.if_acmp .ne 9, 3) := by decide +kernel
theorem d_Hs_takeIn_50 : decode c_Hs_takeIn 50 = .ok (.aload 5, 2) := by decide +kernel
theorem d_Hs_takeIn_52 : decode c_Hs_takeIn 52 = .ok (.lload_n 2, 1) := by decide +kernel
theorem d_Hs_takeIn_53 : decode c_Hs_takeIn 53 = .ok (.invokevirtual 297, 3) := by decide +kernel
theorem d_Hs_takeIn_56 : decode c_Hs_takeIn 56 = .ok (.iinc 4 1, 3) := by decide +kernel
theorem d_Hs_takeIn_59 : decode c_Hs_takeIn 59 = .ok (.goto (-44), 3) := by decide +kernel
theorem d_Hs_takeIn_62 : decode c_Hs_takeIn 62 = .ok (.aload_n 1, 1) := by decide +kernel
theorem d_Hs_takeIn_63 : decode c_Hs_takeIn 63 = .ok (.iconst 0, 1) := by decide +kernel
theorem d_Hs_takeIn_64 : decode c_Hs_takeIn 64 = .ok (.putfield 175, 3) := by decide +kernel
theorem d_Hs_takeIn_67 : decode c_Hs_takeIn 67 = .ok (.return_, 1) := by decide +kernel
def t_Hs_takeIn (zz : Nat × Nat) : List (Nat × mx_O) := [(0, o_aload 1 0),
  (1, o_get 0 6),
  (4, o_aload 1 1),
  (5, o_get 1 3),
  (8, o_call 0 0 2 0 0 (mx_rv 8) (S_Wi_dataOf zz)),
  (11, o_lstore 1 2),
  (12, o_push 1 (.int 0)),
  (13, o_istore 2 4),
  (15, o_iload 2 4),
  (17, o_aload 1 0),
  (18, o_get 0 1),
  (21, o_call 0 0 1 0 0 (mx_rv 9) (S_Al_size zz)),
  (24, o_icmp 62 (fun x y => y ≤ x)),
  (27, o_aload 1 0),
  (28, o_get 0 1),
  (31, o_iload 2 4),
  (33, o_call 0 0 2 0 0 (mx_rv 9) (S_Al_get zz)),
  (36, o_cast 2),
  (39, o_astore 2 5),
  (41, o_aload 2 5),
  (43, o_get 2 0),
  (46, o_aload 1 1),
  (47, o_acmp 56 (fun x y => ¬ x = y)),
  (50, o_aload 2 5),
  (52, o_lload 1 2),
  (53, o_call 0 0 2 0 0 (mx_rv 2) (S_Sg_takeFrom zz)),
  (56, o_iinc 4 1),
  (59, o_goto 15),
  (62, o_aload 1 1),
  (63, o_push 1 (.int 0)),
  (64, o_put 1 7 mx_vZ),
  (67, o_vret)]
set_option maxRecDepth 100000 in
theorem tm_Hs_takeIn (zz : Nat × Nat) : mx_All (fun _ o => mx_Mono o) (t_Hs_takeIn zz) := by
  refine mx_all_cons (mo_st) ?_
  refine mx_all_cons (mo_st) ?_
  refine mx_all_cons (mo_st) ?_
  refine mx_all_cons (mo_st) ?_
  refine mx_all_cons (mo_call (sm_Wi_dataOf zz)) ?_
  refine mx_all_cons (mo_st) ?_
  refine mx_all_cons (mo_st) ?_
  refine mx_all_cons (mo_st) ?_
  refine mx_all_cons (mo_st) ?_
  refine mx_all_cons (mo_st) ?_
  refine mx_all_cons (mo_st) ?_
  refine mx_all_cons (mo_call (sm_Al_size zz)) ?_
  refine mx_all_cons (mo_br) ?_
  refine mx_all_cons (mo_st) ?_
  refine mx_all_cons (mo_st) ?_
  refine mx_all_cons (mo_st) ?_
  refine mx_all_cons (mo_call (sm_Al_get zz)) ?_
  refine mx_all_cons (mo_sc) ?_
  refine mx_all_cons (mo_st) ?_
  refine mx_all_cons (mo_st) ?_
  refine mx_all_cons (mo_st) ?_
  refine mx_all_cons (mo_st) ?_
  refine mx_all_cons (mo_br) ?_
  refine mx_all_cons (mo_st) ?_
  refine mx_all_cons (mo_st) ?_
  refine mx_all_cons (mo_call (sm_Sg_takeFrom zz)) ?_
  refine mx_all_cons (mo_st) ?_
  refine mx_all_cons (mo_st) ?_
  refine mx_all_cons (mo_st) ?_
  refine mx_all_cons (mo_st) ?_
  refine mx_all_cons (mo_sc) ?_
  refine mx_all_cons (mo_ret) ?_
  exact mx_all_nil
def S_Hs_takeIn (zz : Nat × Nat) : mx_Sp := mx_S 6 0 0 (t_Hs_takeIn zz)
theorem sm_Hs_takeIn (zz : Nat × Nat) : mx_SMono (S_Hs_takeIn zz) := mx_S_mono (tm_Hs_takeIn zz)
abbrev rm_Hs_takeIn : Room := { frames := 3, cells := 0, slots := 0, locals := 64 }
set_option maxHeartbeats 4000000 in
set_option maxRecDepth 100000 in
theorem m_Hs_takeIn (l : Launch) (zz : Nat × Nat) : mx_Met l y_Hs_takeIn (wsOf y_Hs_takeIn c_Hs_takeIn 6 none) rm_Hs_takeIn wcl (mx_Z zz) 0 0 (S_Hs_takeIn zz) := by
  refine mx_met (cc := c_Hs_takeIn) (ret := none) (by decide) rfl ?_
  intro p e s m args below meth c D A Post X hz hr hlk hnm
  have hm : ∀ w ∈ mw, w.before args s = true := fun w h => X.1.2.2.2.2 w (List.mem_cons_of_mem _ h)
  refine mx_all_cons (ok_aload (fun hl kk => lv_aload_n X.1.1 X.1.2.1 d_Hs_takeIn_0 rfl hl kk) (fun hl kk => lv_aload_nN X.1.1 X.1.2.1 d_Hs_takeIn_0 rfl hl kk)) ?_
  refine mx_all_cons (ok_get (C := "HeaderSchedule") (T := T_Hs) (N := 11) X (mw_up in_Hs) rfl 6 (by decide) (hm _ w164) (fun _ h9 => h9) d_Hs_takeIn_1) ?_
  refine mx_all_cons (ok_aload (fun hl kk => lv_aload_n X.1.1 X.1.2.1 d_Hs_takeIn_4 rfl hl kk) (fun hl kk => lv_aload_nN X.1.1 X.1.2.1 d_Hs_takeIn_4 rfl hl kk)) ?_
  refine mx_all_cons (ok_get (C := "HeaderSchedule$Frame") (T := T_Fr) (N := 8) X (mw_up in_Fr) rfl 3 (by decide) (hm _ w228) (fun _ h9 => h9) d_Hs_takeIn_5) ?_
  refine mx_all_cons (ok_callV (C := "HeaderSchedule$Wire") (T := T_Wi) (N := 4) X (mx_Zok_Z zz) hz ⟨(Nat.le_of_ble_eq_true rfl), (Nat.le_of_ble_eq_true rfl)⟩ (m_Wi_dataOf l zz) ⟨mx_cwB 1 hm w604 w609 w39 rfl rfl (by decide +kernel) ⟨(Nat.le_of_ble_eq_true rfl), (Nat.le_of_ble_eq_true rfl)⟩, (hm _ w602), hm _ w603⟩ rfl d_Hs_takeIn_8) ?_
  refine mx_all_cons (ok_lstore (fun hl kk => lv_lstore_n X.1.1 X.1.2.1 d_Hs_takeIn_11 rfl hl (by decide) rfl kk)) ?_
  refine mx_all_cons (ok_push (fun kk => lv_iconst X.1.1 X.1.2.1 d_Hs_takeIn_12 (by decide) kk)) ?_
  refine mx_all_cons (ok_istore (fun hl kk => lv_istore X.1.1 X.1.2.1 d_Hs_takeIn_13 hl (by decide) rfl kk)) ?_
  refine mx_all_cons (ok_iload (fun hl kk => lv_iload X.1.1 X.1.2.1 d_Hs_takeIn_15 hl kk)) ?_
  refine mx_all_cons (ok_aload (fun hl kk => lv_aload_n X.1.1 X.1.2.1 d_Hs_takeIn_17 rfl hl kk) (fun hl kk => lv_aload_nN X.1.1 X.1.2.1 d_Hs_takeIn_17 rfl hl kk)) ?_
  refine mx_all_cons (ok_get (C := "HeaderSchedule") (T := T_Hs) (N := 11) X (mw_up in_Hs) rfl 1 (by decide) (hm _ w159) (fun _ h9 => h9) d_Hs_takeIn_18) ?_
  refine mx_all_cons (ok_callV (C := "java/util/ArrayList") (T := T_Al) (N := 3) X (mx_Zok_Z zz) hz ⟨(Nat.le_of_ble_eq_true rfl), (Nat.le_of_ble_eq_true rfl)⟩ (m_Al_size l zz) ⟨mx_cwB 0 hm w199 w196 w36 rfl rfl (by decide +kernel) ⟨(Nat.le_of_ble_eq_true rfl), (Nat.le_of_ble_eq_true rfl)⟩, (hm _ w197), hm _ w198⟩ rfl d_Hs_takeIn_21) ?_
  refine mx_all_cons (ok_icmp (fun kt kf => lv_icmp_ge X.1.1 X.1.2.1 d_Hs_takeIn_24 (by decide) kt kf)) ?_
  refine mx_all_cons (ok_aload (fun hl kk => lv_aload_n X.1.1 X.1.2.1 d_Hs_takeIn_27 rfl hl kk) (fun hl kk => lv_aload_nN X.1.1 X.1.2.1 d_Hs_takeIn_27 rfl hl kk)) ?_
  refine mx_all_cons (ok_get (C := "HeaderSchedule") (T := T_Hs) (N := 11) X (mw_up in_Hs) rfl 1 (by decide) (hm _ w159) (fun _ h9 => h9) d_Hs_takeIn_28) ?_
  refine mx_all_cons (ok_iload (fun hl kk => lv_iload X.1.1 X.1.2.1 d_Hs_takeIn_31 hl kk)) ?_
  refine mx_all_cons (ok_callV (C := "java/util/ArrayList") (T := T_Al) (N := 3) X (mx_Zok_Z zz) hz ⟨(Nat.le_of_ble_eq_true rfl), (Nat.le_of_ble_eq_true rfl)⟩ (m_Al_get l zz) ⟨mx_cwB 1 hm w326 w323 w36 rfl rfl (by decide +kernel) ⟨(Nat.le_of_ble_eq_true rfl), (Nat.le_of_ble_eq_true rfl)⟩, (hm _ w324), hm _ w325⟩ rfl d_Hs_takeIn_33) ?_
  refine mx_all_cons (ok_cast (C := "HeaderSchedule$Signal") (T := T_Sg) (N := 5) X rfl (hm _ w337) d_Hs_takeIn_36) ?_
  refine mx_all_cons (ok_astore (fun hl kk => lv_astore X.1.1 X.1.2.1 d_Hs_takeIn_39 hl (by decide) rfl kk) (fun hl kk => lv_astoreN X.1.1 X.1.2.1 d_Hs_takeIn_39 hl (by decide) rfl kk)) ?_
  refine mx_all_cons (ok_aload (fun hl kk => lv_aload X.1.1 X.1.2.1 d_Hs_takeIn_41 hl kk) (fun hl kk => lv_aloadN X.1.1 X.1.2.1 d_Hs_takeIn_41 hl kk)) ?_
  refine mx_all_cons (ok_get (C := "HeaderSchedule$Signal") (T := T_Sg) (N := 5) X (mw_up in_Sg) rfl 0 (by decide) (hm _ w344) (fun _ h9 => h9) d_Hs_takeIn_43) ?_
  refine mx_all_cons (ok_aload (fun hl kk => lv_aload_n X.1.1 X.1.2.1 d_Hs_takeIn_46 rfl hl kk) (fun hl kk => lv_aload_nN X.1.1 X.1.2.1 d_Hs_takeIn_46 rfl hl kk)) ?_
  refine mx_all_cons (ok_acmpne X d_Hs_takeIn_47 (by decide)) ?_
  refine mx_all_cons (ok_aload (fun hl kk => lv_aload X.1.1 X.1.2.1 d_Hs_takeIn_50 hl kk) (fun hl kk => lv_aloadN X.1.1 X.1.2.1 d_Hs_takeIn_50 hl kk)) ?_
  refine mx_all_cons (ok_lload (fun hl kk => lv_lload_n X.1.1 X.1.2.1 d_Hs_takeIn_52 rfl hl kk)) ?_
  refine mx_all_cons (ok_callV (C := "HeaderSchedule$Signal") (T := T_Sg) (N := 5) X (mx_Zok_Z zz) hz ⟨(Nat.le_of_ble_eq_true rfl), (Nat.le_of_ble_eq_true rfl)⟩ (m_Sg_takeFrom l zz) ⟨mx_cwB 1 hm w613 w610 w48 rfl rfl (by decide +kernel) ⟨(Nat.le_of_ble_eq_true rfl), (Nat.le_of_ble_eq_true rfl)⟩, (hm _ w611), hm _ w612⟩ rfl d_Hs_takeIn_53) ?_
  refine mx_all_cons (ok_iinc X (by decide) (by decide) d_Hs_takeIn_56) ?_
  refine mx_all_cons (ok_goto X d_Hs_takeIn_59 (by decide)) ?_
  refine mx_all_cons (ok_aload (fun hl kk => lv_aload_n X.1.1 X.1.2.1 d_Hs_takeIn_62 rfl hl kk) (fun hl kk => lv_aload_nN X.1.1 X.1.2.1 d_Hs_takeIn_62 rfl hl kk)) ?_
  refine mx_all_cons (ok_push (fun kk => lv_iconst X.1.1 X.1.2.1 d_Hs_takeIn_63 (by decide) kk)) ?_
  refine mx_all_cons (ok_put (C := "HeaderSchedule$Frame") (T := T_Fr) (N := 8) X (mw_up in_Fr) ty_Fr tyok_Fr nm_Fr rfl 7 (by decide) (hm _ w239) (fun _ h9 => h9) rfl (tyok_Fr 7 (by decide)) mx_vZ_ok d_Hs_takeIn_64) ?_
  refine mx_all_cons (ok_vret X hr hlk d_Hs_takeIn_67) ?_
  exact mx_all_nil
theorem st_Hs_takeIn_0 (zz : Nat × Nat) (r : mx_T) (ls : mx_L) (st : List Value) (h : mx_H) (c n : Nat) : mx_G r (t_Hs_takeIn zz) 0 ls st h c n = (o_aload 1 0) r (mx_G r (t_Hs_takeIn zz)) 0 ls st h c n := mx_G_eq (tm_Hs_takeIn zz) r 0 ls st h c n
theorem st_Hs_takeIn_1 (zz : Nat × Nat) (r : mx_T) (ls : mx_L) (st : List Value) (h : mx_H) (c n : Nat) : mx_G r (t_Hs_takeIn zz) 1 ls st h c n = (o_get 0 6) r (mx_G r (t_Hs_takeIn zz)) 1 ls st h c n := mx_G_eq (tm_Hs_takeIn zz) r 1 ls st h c n
theorem st_Hs_takeIn_4 (zz : Nat × Nat) (r : mx_T) (ls : mx_L) (st : List Value) (h : mx_H) (c n : Nat) : mx_G r (t_Hs_takeIn zz) 4 ls st h c n = (o_aload 1 1) r (mx_G r (t_Hs_takeIn zz)) 4 ls st h c n := mx_G_eq (tm_Hs_takeIn zz) r 4 ls st h c n
theorem st_Hs_takeIn_5 (zz : Nat × Nat) (r : mx_T) (ls : mx_L) (st : List Value) (h : mx_H) (c n : Nat) : mx_G r (t_Hs_takeIn zz) 5 ls st h c n = (o_get 1 3) r (mx_G r (t_Hs_takeIn zz)) 5 ls st h c n := mx_G_eq (tm_Hs_takeIn zz) r 5 ls st h c n
theorem st_Hs_takeIn_8 (zz : Nat × Nat) (r : mx_T) (ls : mx_L) (st : List Value) (h : mx_H) (c n : Nat) : mx_G r (t_Hs_takeIn zz) 8 ls st h c n = (o_call 0 0 2 0 0 (mx_rv 8) (S_Wi_dataOf zz)) r (mx_G r (t_Hs_takeIn zz)) 8 ls st h c n := mx_G_eq (tm_Hs_takeIn zz) r 8 ls st h c n
theorem st_Hs_takeIn_11 (zz : Nat × Nat) (r : mx_T) (ls : mx_L) (st : List Value) (h : mx_H) (c n : Nat) : mx_G r (t_Hs_takeIn zz) 11 ls st h c n = (o_lstore 1 2) r (mx_G r (t_Hs_takeIn zz)) 11 ls st h c n := mx_G_eq (tm_Hs_takeIn zz) r 11 ls st h c n
theorem st_Hs_takeIn_12 (zz : Nat × Nat) (r : mx_T) (ls : mx_L) (st : List Value) (h : mx_H) (c n : Nat) : mx_G r (t_Hs_takeIn zz) 12 ls st h c n = (o_push 1 (.int 0)) r (mx_G r (t_Hs_takeIn zz)) 12 ls st h c n := mx_G_eq (tm_Hs_takeIn zz) r 12 ls st h c n
theorem st_Hs_takeIn_13 (zz : Nat × Nat) (r : mx_T) (ls : mx_L) (st : List Value) (h : mx_H) (c n : Nat) : mx_G r (t_Hs_takeIn zz) 13 ls st h c n = (o_istore 2 4) r (mx_G r (t_Hs_takeIn zz)) 13 ls st h c n := mx_G_eq (tm_Hs_takeIn zz) r 13 ls st h c n
theorem st_Hs_takeIn_15 (zz : Nat × Nat) (r : mx_T) (ls : mx_L) (st : List Value) (h : mx_H) (c n : Nat) : mx_G r (t_Hs_takeIn zz) 15 ls st h c n = (o_iload 2 4) r (mx_G r (t_Hs_takeIn zz)) 15 ls st h c n := mx_G_eq (tm_Hs_takeIn zz) r 15 ls st h c n
theorem st_Hs_takeIn_17 (zz : Nat × Nat) (r : mx_T) (ls : mx_L) (st : List Value) (h : mx_H) (c n : Nat) : mx_G r (t_Hs_takeIn zz) 17 ls st h c n = (o_aload 1 0) r (mx_G r (t_Hs_takeIn zz)) 17 ls st h c n := mx_G_eq (tm_Hs_takeIn zz) r 17 ls st h c n
theorem st_Hs_takeIn_18 (zz : Nat × Nat) (r : mx_T) (ls : mx_L) (st : List Value) (h : mx_H) (c n : Nat) : mx_G r (t_Hs_takeIn zz) 18 ls st h c n = (o_get 0 1) r (mx_G r (t_Hs_takeIn zz)) 18 ls st h c n := mx_G_eq (tm_Hs_takeIn zz) r 18 ls st h c n
theorem st_Hs_takeIn_21 (zz : Nat × Nat) (r : mx_T) (ls : mx_L) (st : List Value) (h : mx_H) (c n : Nat) : mx_G r (t_Hs_takeIn zz) 21 ls st h c n = (o_call 0 0 1 0 0 (mx_rv 9) (S_Al_size zz)) r (mx_G r (t_Hs_takeIn zz)) 21 ls st h c n := mx_G_eq (tm_Hs_takeIn zz) r 21 ls st h c n
theorem st_Hs_takeIn_24 (zz : Nat × Nat) (r : mx_T) (ls : mx_L) (st : List Value) (h : mx_H) (c n : Nat) : mx_G r (t_Hs_takeIn zz) 24 ls st h c n = (o_icmp 62 (fun x y => y ≤ x)) r (mx_G r (t_Hs_takeIn zz)) 24 ls st h c n := mx_G_eq (tm_Hs_takeIn zz) r 24 ls st h c n
theorem st_Hs_takeIn_27 (zz : Nat × Nat) (r : mx_T) (ls : mx_L) (st : List Value) (h : mx_H) (c n : Nat) : mx_G r (t_Hs_takeIn zz) 27 ls st h c n = (o_aload 1 0) r (mx_G r (t_Hs_takeIn zz)) 27 ls st h c n := mx_G_eq (tm_Hs_takeIn zz) r 27 ls st h c n
theorem st_Hs_takeIn_28 (zz : Nat × Nat) (r : mx_T) (ls : mx_L) (st : List Value) (h : mx_H) (c n : Nat) : mx_G r (t_Hs_takeIn zz) 28 ls st h c n = (o_get 0 1) r (mx_G r (t_Hs_takeIn zz)) 28 ls st h c n := mx_G_eq (tm_Hs_takeIn zz) r 28 ls st h c n
theorem st_Hs_takeIn_31 (zz : Nat × Nat) (r : mx_T) (ls : mx_L) (st : List Value) (h : mx_H) (c n : Nat) : mx_G r (t_Hs_takeIn zz) 31 ls st h c n = (o_iload 2 4) r (mx_G r (t_Hs_takeIn zz)) 31 ls st h c n := mx_G_eq (tm_Hs_takeIn zz) r 31 ls st h c n
theorem st_Hs_takeIn_33 (zz : Nat × Nat) (r : mx_T) (ls : mx_L) (st : List Value) (h : mx_H) (c n : Nat) : mx_G r (t_Hs_takeIn zz) 33 ls st h c n = (o_call 0 0 2 0 0 (mx_rv 9) (S_Al_get zz)) r (mx_G r (t_Hs_takeIn zz)) 33 ls st h c n := mx_G_eq (tm_Hs_takeIn zz) r 33 ls st h c n
theorem st_Hs_takeIn_36 (zz : Nat × Nat) (r : mx_T) (ls : mx_L) (st : List Value) (h : mx_H) (c n : Nat) : mx_G r (t_Hs_takeIn zz) 36 ls st h c n = (o_cast 2) r (mx_G r (t_Hs_takeIn zz)) 36 ls st h c n := mx_G_eq (tm_Hs_takeIn zz) r 36 ls st h c n
theorem st_Hs_takeIn_39 (zz : Nat × Nat) (r : mx_T) (ls : mx_L) (st : List Value) (h : mx_H) (c n : Nat) : mx_G r (t_Hs_takeIn zz) 39 ls st h c n = (o_astore 2 5) r (mx_G r (t_Hs_takeIn zz)) 39 ls st h c n := mx_G_eq (tm_Hs_takeIn zz) r 39 ls st h c n
theorem st_Hs_takeIn_41 (zz : Nat × Nat) (r : mx_T) (ls : mx_L) (st : List Value) (h : mx_H) (c n : Nat) : mx_G r (t_Hs_takeIn zz) 41 ls st h c n = (o_aload 2 5) r (mx_G r (t_Hs_takeIn zz)) 41 ls st h c n := mx_G_eq (tm_Hs_takeIn zz) r 41 ls st h c n
theorem st_Hs_takeIn_43 (zz : Nat × Nat) (r : mx_T) (ls : mx_L) (st : List Value) (h : mx_H) (c n : Nat) : mx_G r (t_Hs_takeIn zz) 43 ls st h c n = (o_get 2 0) r (mx_G r (t_Hs_takeIn zz)) 43 ls st h c n := mx_G_eq (tm_Hs_takeIn zz) r 43 ls st h c n
theorem st_Hs_takeIn_46 (zz : Nat × Nat) (r : mx_T) (ls : mx_L) (st : List Value) (h : mx_H) (c n : Nat) : mx_G r (t_Hs_takeIn zz) 46 ls st h c n = (o_aload 1 1) r (mx_G r (t_Hs_takeIn zz)) 46 ls st h c n := mx_G_eq (tm_Hs_takeIn zz) r 46 ls st h c n
theorem st_Hs_takeIn_47 (zz : Nat × Nat) (r : mx_T) (ls : mx_L) (st : List Value) (h : mx_H) (c n : Nat) : mx_G r (t_Hs_takeIn zz) 47 ls st h c n = (o_acmp 56 (fun x y => ¬ x = y)) r (mx_G r (t_Hs_takeIn zz)) 47 ls st h c n := mx_G_eq (tm_Hs_takeIn zz) r 47 ls st h c n
theorem st_Hs_takeIn_50 (zz : Nat × Nat) (r : mx_T) (ls : mx_L) (st : List Value) (h : mx_H) (c n : Nat) : mx_G r (t_Hs_takeIn zz) 50 ls st h c n = (o_aload 2 5) r (mx_G r (t_Hs_takeIn zz)) 50 ls st h c n := mx_G_eq (tm_Hs_takeIn zz) r 50 ls st h c n
theorem st_Hs_takeIn_52 (zz : Nat × Nat) (r : mx_T) (ls : mx_L) (st : List Value) (h : mx_H) (c n : Nat) : mx_G r (t_Hs_takeIn zz) 52 ls st h c n = (o_lload 1 2) r (mx_G r (t_Hs_takeIn zz)) 52 ls st h c n := mx_G_eq (tm_Hs_takeIn zz) r 52 ls st h c n
theorem st_Hs_takeIn_53 (zz : Nat × Nat) (r : mx_T) (ls : mx_L) (st : List Value) (h : mx_H) (c n : Nat) : mx_G r (t_Hs_takeIn zz) 53 ls st h c n = (o_call 0 0 2 0 0 (mx_rv 2) (S_Sg_takeFrom zz)) r (mx_G r (t_Hs_takeIn zz)) 53 ls st h c n := mx_G_eq (tm_Hs_takeIn zz) r 53 ls st h c n
theorem st_Hs_takeIn_56 (zz : Nat × Nat) (r : mx_T) (ls : mx_L) (st : List Value) (h : mx_H) (c n : Nat) : mx_G r (t_Hs_takeIn zz) 56 ls st h c n = (o_iinc 4 1) r (mx_G r (t_Hs_takeIn zz)) 56 ls st h c n := mx_G_eq (tm_Hs_takeIn zz) r 56 ls st h c n
theorem st_Hs_takeIn_59 (zz : Nat × Nat) (r : mx_T) (ls : mx_L) (st : List Value) (h : mx_H) (c n : Nat) : mx_G r (t_Hs_takeIn zz) 59 ls st h c n = (o_goto 15) r (mx_G r (t_Hs_takeIn zz)) 59 ls st h c n := mx_G_eq (tm_Hs_takeIn zz) r 59 ls st h c n
theorem st_Hs_takeIn_62 (zz : Nat × Nat) (r : mx_T) (ls : mx_L) (st : List Value) (h : mx_H) (c n : Nat) : mx_G r (t_Hs_takeIn zz) 62 ls st h c n = (o_aload 1 1) r (mx_G r (t_Hs_takeIn zz)) 62 ls st h c n := mx_G_eq (tm_Hs_takeIn zz) r 62 ls st h c n
theorem st_Hs_takeIn_63 (zz : Nat × Nat) (r : mx_T) (ls : mx_L) (st : List Value) (h : mx_H) (c n : Nat) : mx_G r (t_Hs_takeIn zz) 63 ls st h c n = (o_push 1 (.int 0)) r (mx_G r (t_Hs_takeIn zz)) 63 ls st h c n := mx_G_eq (tm_Hs_takeIn zz) r 63 ls st h c n
theorem st_Hs_takeIn_64 (zz : Nat × Nat) (r : mx_T) (ls : mx_L) (st : List Value) (h : mx_H) (c n : Nat) : mx_G r (t_Hs_takeIn zz) 64 ls st h c n = (o_put 1 7 mx_vZ) r (mx_G r (t_Hs_takeIn zz)) 64 ls st h c n := mx_G_eq (tm_Hs_takeIn zz) r 64 ls st h c n
theorem st_Hs_takeIn_67 (zz : Nat × Nat) (r : mx_T) (ls : mx_L) (st : List Value) (h : mx_H) (c n : Nat) : mx_G r (t_Hs_takeIn zz) 67 ls st h c n = (o_vret) r (mx_G r (t_Hs_takeIn zz)) 67 ls st h c n := mx_G_eq (tm_Hs_takeIn zz) r 67 ls st h c n
theorem d_Hs_runFrame_0 : decode c_Hs_runFrame 0 = .ok (.aload_n 0, 1) := by decide +kernel
theorem d_Hs_runFrame_1 : decode c_Hs_runFrame 1 = .ok (.getfield 39, 3) := by decide +kernel
theorem d_Hs_runFrame_4 : decode c_Hs_runFrame 4 = .ok (.aload_n 1, 1) := by decide +kernel
theorem d_Hs_runFrame_5 : decode c_Hs_runFrame 5 = .ok (.getfield 258, 3) := by decide +kernel
theorem d_Hs_runFrame_8 : decode c_Hs_runFrame 8 = .ok (.invokevirtual 261, 3) := by decide +kernel
theorem d_Hs_runFrame_11 : decode c_Hs_runFrame 11 = .ok (.aload_n 0, 1) := by decide +kernel
theorem d_Hs_runFrame_12 : decode c_Hs_runFrame 12 = .ok (.getfield 39, 3) := by decide +kernel
theorem d_Hs_runFrame_15 : decode c_Hs_runFrame 15 = .ok (.aload_n 1, 1) := by decide +kernel
theorem d_Hs_runFrame_16 : decode c_Hs_runFrame 16 = .ok (.invokevirtual 263, 3) := by decide +kernel
theorem d_Hs_runFrame_19 : decode c_Hs_runFrame 19 = .ok (.aload_n 0, 1) := by decide +kernel
theorem d_Hs_runFrame_20 : decode c_Hs_runFrame 20 = .ok (.getfield 39, 3) := by decide +kernel
theorem d_Hs_runFrame_23 : decode c_Hs_runFrame 23 = .ok (.aload_n 1, 1) := by decide +kernel
theorem d_Hs_runFrame_24 : decode c_Hs_runFrame 24 = .ok (.invokevirtual 267, 3) := by decide +kernel
theorem d_Hs_runFrame_27 : decode c_Hs_runFrame 27 = .ok (.ifCond .ne 5, 3) := by decide +kernel
theorem d_Hs_runFrame_30 : decode c_Hs_runFrame 30 = .ok (.iconst 3, 1) := by decide +kernel
theorem d_Hs_runFrame_31 : decode c_Hs_runFrame 31 = .ok (.ireturn, 1) := by decide +kernel
theorem d_Hs_runFrame_32 : decode c_Hs_runFrame 32 = .ok (.aload_n 0, 1) := by decide +kernel
theorem d_Hs_runFrame_33 : decode c_Hs_runFrame 33 = .ok (.aload_n 1, 1) := by decide +kernel
theorem d_Hs_runFrame_34 : decode c_Hs_runFrame 34 = .ok (.invokevirtual 270, 3) := by decide +kernel
theorem d_Hs_runFrame_37 : decode c_Hs_runFrame 37 = .ok (.iconst 1, 1) := by decide +kernel
theorem d_Hs_runFrame_38 : decode c_Hs_runFrame 38 = .ok (.ireturn, 1) := by decide +kernel
def t_Hs_runFrame (zz : Nat × Nat) : List (Nat × mx_O) := [(0, o_aload 1 0),
  (1, o_get 0 6),
  (4, o_aload 1 1),
  (5, o_get 1 1),
  (8, o_call 0 0 2 0 0 (mx_rv 8) (S_Wi_add zz)),
  (11, o_aload 1 0),
  (12, o_get 0 6),
  (15, o_aload 1 1),
  (16, o_call 0 0 2 0 0 (mx_rv 8) (S_Wi_respond zz)),
  (19, o_aload 1 0),
  (20, o_get 0 6),
  (23, o_aload 1 1),
  (24, o_call 0 0 2 0 0 (mx_rv 8) (S_Wi_isValidFor zz)),
  (27, o_if 32 (fun x => ¬ x = 0)),
  (30, o_push 1 (.int 3)),
  (31, o_iret),
  (32, o_aload 1 0),
  (33, o_aload 1 1),
  (34, o_call 0 0 2 0 0 (mx_rv 0) (S_Hs_takeIn zz)),
  (37, o_push 1 (.int 1)),
  (38, o_iret)]
set_option maxRecDepth 100000 in
theorem tm_Hs_runFrame (zz : Nat × Nat) : mx_All (fun _ o => mx_Mono o) (t_Hs_runFrame zz) := by
  refine mx_all_cons (mo_st) ?_
  refine mx_all_cons (mo_st) ?_
  refine mx_all_cons (mo_st) ?_
  refine mx_all_cons (mo_st) ?_
  refine mx_all_cons (mo_call (sm_Wi_add zz)) ?_
  refine mx_all_cons (mo_st) ?_
  refine mx_all_cons (mo_st) ?_
  refine mx_all_cons (mo_st) ?_
  refine mx_all_cons (mo_call (sm_Wi_respond zz)) ?_
  refine mx_all_cons (mo_st) ?_
  refine mx_all_cons (mo_st) ?_
  refine mx_all_cons (mo_st) ?_
  refine mx_all_cons (mo_call (sm_Wi_isValidFor zz)) ?_
  refine mx_all_cons (mo_br) ?_
  refine mx_all_cons (mo_st) ?_
  refine mx_all_cons (mo_ret) ?_
  refine mx_all_cons (mo_st) ?_
  refine mx_all_cons (mo_st) ?_
  refine mx_all_cons (mo_call (sm_Hs_takeIn zz)) ?_
  refine mx_all_cons (mo_st) ?_
  refine mx_all_cons (mo_ret) ?_
  exact mx_all_nil
def S_Hs_runFrame (zz : Nat × Nat) : mx_Sp := mx_S 2 0 0 (t_Hs_runFrame zz)
theorem sm_Hs_runFrame (zz : Nat × Nat) : mx_SMono (S_Hs_runFrame zz) := mx_S_mono (tm_Hs_runFrame zz)
abbrev rm_Hs_runFrame : Room := { frames := 4, cells := 0, slots := 0, locals := 89 }
set_option maxHeartbeats 4000000 in
set_option maxRecDepth 100000 in
theorem m_Hs_runFrame (l : Launch) (zz : Nat × Nat) : mx_Met l y_Hs_runFrame (wsOf y_Hs_runFrame c_Hs_runFrame 2 (some .int)) rm_Hs_runFrame wcl (mx_Z zz) 0 0 (S_Hs_runFrame zz) := by
  refine mx_met (cc := c_Hs_runFrame) (ret := (some .int)) (by decide) rfl ?_
  intro p e s m args below meth c D A Post X hz hr hlk hnm
  have hm : ∀ w ∈ mw, w.before args s = true := fun w h => X.1.2.2.2.2 w (List.mem_cons_of_mem _ h)
  refine mx_all_cons (ok_aload (fun hl kk => lv_aload_n X.1.1 X.1.2.1 d_Hs_runFrame_0 rfl hl kk) (fun hl kk => lv_aload_nN X.1.1 X.1.2.1 d_Hs_runFrame_0 rfl hl kk)) ?_
  refine mx_all_cons (ok_get (C := "HeaderSchedule") (T := T_Hs) (N := 11) X (mw_up in_Hs) rfl 6 (by decide) (hm _ w164) (fun _ h9 => h9) d_Hs_runFrame_1) ?_
  refine mx_all_cons (ok_aload (fun hl kk => lv_aload_n X.1.1 X.1.2.1 d_Hs_runFrame_4 rfl hl kk) (fun hl kk => lv_aload_nN X.1.1 X.1.2.1 d_Hs_runFrame_4 rfl hl kk)) ?_
  refine mx_all_cons (ok_get (C := "HeaderSchedule$Frame") (T := T_Fr) (N := 8) X (mw_up in_Fr) rfl 1 (by decide) (hm _ w224) (fun _ h9 => h9) d_Hs_runFrame_5) ?_
  refine mx_all_cons (ok_callV (C := "HeaderSchedule$Wire") (T := T_Wi) (N := 4) X (mx_Zok_Z zz) hz ⟨(Nat.le_of_ble_eq_true rfl), (Nat.le_of_ble_eq_true rfl)⟩ (m_Wi_add l zz) ⟨mx_cwB 1 hm w579 w576 w39 rfl rfl (by decide +kernel) ⟨(Nat.le_of_ble_eq_true rfl), (Nat.le_of_ble_eq_true rfl)⟩, (hm _ w577), hm _ w578⟩ rfl d_Hs_runFrame_8) ?_
  refine mx_all_cons (ok_aload (fun hl kk => lv_aload_n X.1.1 X.1.2.1 d_Hs_runFrame_11 rfl hl kk) (fun hl kk => lv_aload_nN X.1.1 X.1.2.1 d_Hs_runFrame_11 rfl hl kk)) ?_
  refine mx_all_cons (ok_get (C := "HeaderSchedule") (T := T_Hs) (N := 11) X (mw_up in_Hs) rfl 6 (by decide) (hm _ w164) (fun _ h9 => h9) d_Hs_runFrame_12) ?_
  refine mx_all_cons (ok_aload (fun hl kk => lv_aload_n X.1.1 X.1.2.1 d_Hs_runFrame_15 rfl hl kk) (fun hl kk => lv_aload_nN X.1.1 X.1.2.1 d_Hs_runFrame_15 rfl hl kk)) ?_
  refine mx_all_cons (ok_callV (C := "HeaderSchedule$Wire") (T := T_Wi) (N := 4) X (mx_Zok_Z zz) hz ⟨(Nat.le_of_ble_eq_true rfl), (Nat.le_of_ble_eq_true rfl)⟩ (m_Wi_respond l zz) ⟨mx_cwB 1 hm w583 w580 w39 rfl rfl (by decide +kernel) ⟨(Nat.le_of_ble_eq_true rfl), (Nat.le_of_ble_eq_true rfl)⟩, (hm _ w581), hm _ w582⟩ rfl d_Hs_runFrame_16) ?_
  refine mx_all_cons (ok_aload (fun hl kk => lv_aload_n X.1.1 X.1.2.1 d_Hs_runFrame_19 rfl hl kk) (fun hl kk => lv_aload_nN X.1.1 X.1.2.1 d_Hs_runFrame_19 rfl hl kk)) ?_
  refine mx_all_cons (ok_get (C := "HeaderSchedule") (T := T_Hs) (N := 11) X (mw_up in_Hs) rfl 6 (by decide) (hm _ w164) (fun _ h9 => h9) d_Hs_runFrame_20) ?_
  refine mx_all_cons (ok_aload (fun hl kk => lv_aload_n X.1.1 X.1.2.1 d_Hs_runFrame_23 rfl hl kk) (fun hl kk => lv_aload_nN X.1.1 X.1.2.1 d_Hs_runFrame_23 rfl hl kk)) ?_
  refine mx_all_cons (ok_callV (C := "HeaderSchedule$Wire") (T := T_Wi) (N := 4) X (mx_Zok_Z zz) hz ⟨(Nat.le_of_ble_eq_true rfl), (Nat.le_of_ble_eq_true rfl)⟩ (m_Wi_isValidFor l zz) ⟨mx_cwB 1 hm w600 w597 w39 rfl rfl (by decide +kernel) ⟨(Nat.le_of_ble_eq_true rfl), (Nat.le_of_ble_eq_true rfl)⟩, (hm _ w598), hm _ w599⟩ rfl d_Hs_runFrame_24) ?_
  refine mx_all_cons (ok_if (fun kt kf => lv_if_ne X.1.1 X.1.2.1 d_Hs_runFrame_27 (by decide) kt (fun z => kf (fun g => g z)))) ?_
  refine mx_all_cons (ok_push (fun kk => lv_iconst X.1.1 X.1.2.1 d_Hs_runFrame_30 (by decide) kk)) ?_
  refine mx_all_cons (ok_iret X hr hlk d_Hs_runFrame_31) ?_
  refine mx_all_cons (ok_aload (fun hl kk => lv_aload_n X.1.1 X.1.2.1 d_Hs_runFrame_32 rfl hl kk) (fun hl kk => lv_aload_nN X.1.1 X.1.2.1 d_Hs_runFrame_32 rfl hl kk)) ?_
  refine mx_all_cons (ok_aload (fun hl kk => lv_aload_n X.1.1 X.1.2.1 d_Hs_runFrame_33 rfl hl kk) (fun hl kk => lv_aload_nN X.1.1 X.1.2.1 d_Hs_runFrame_33 rfl hl kk)) ?_
  refine mx_all_cons (ok_callV (C := "HeaderSchedule") (T := T_Hs) (N := 11) X (mx_Zok_Z zz) hz ⟨(Nat.le_of_ble_eq_true rfl), (Nat.le_of_ble_eq_true rfl)⟩ (m_Hs_takeIn l zz) ⟨mx_cwB 1 hm w608 w605 w33 rfl rfl (by decide +kernel) ⟨(Nat.le_of_ble_eq_true rfl), (Nat.le_of_ble_eq_true rfl)⟩, (hm _ w607), hm _ w13⟩ rfl d_Hs_runFrame_34) ?_
  refine mx_all_cons (ok_push (fun kk => lv_iconst X.1.1 X.1.2.1 d_Hs_runFrame_37 (by decide) kk)) ?_
  refine mx_all_cons (ok_iret X hr hlk d_Hs_runFrame_38) ?_
  exact mx_all_nil
theorem st_Hs_runFrame_0 (zz : Nat × Nat) (r : mx_T) (ls : mx_L) (st : List Value) (h : mx_H) (c n : Nat) : mx_G r (t_Hs_runFrame zz) 0 ls st h c n = (o_aload 1 0) r (mx_G r (t_Hs_runFrame zz)) 0 ls st h c n := mx_G_eq (tm_Hs_runFrame zz) r 0 ls st h c n
theorem st_Hs_runFrame_1 (zz : Nat × Nat) (r : mx_T) (ls : mx_L) (st : List Value) (h : mx_H) (c n : Nat) : mx_G r (t_Hs_runFrame zz) 1 ls st h c n = (o_get 0 6) r (mx_G r (t_Hs_runFrame zz)) 1 ls st h c n := mx_G_eq (tm_Hs_runFrame zz) r 1 ls st h c n
theorem st_Hs_runFrame_4 (zz : Nat × Nat) (r : mx_T) (ls : mx_L) (st : List Value) (h : mx_H) (c n : Nat) : mx_G r (t_Hs_runFrame zz) 4 ls st h c n = (o_aload 1 1) r (mx_G r (t_Hs_runFrame zz)) 4 ls st h c n := mx_G_eq (tm_Hs_runFrame zz) r 4 ls st h c n
theorem st_Hs_runFrame_5 (zz : Nat × Nat) (r : mx_T) (ls : mx_L) (st : List Value) (h : mx_H) (c n : Nat) : mx_G r (t_Hs_runFrame zz) 5 ls st h c n = (o_get 1 1) r (mx_G r (t_Hs_runFrame zz)) 5 ls st h c n := mx_G_eq (tm_Hs_runFrame zz) r 5 ls st h c n
theorem st_Hs_runFrame_8 (zz : Nat × Nat) (r : mx_T) (ls : mx_L) (st : List Value) (h : mx_H) (c n : Nat) : mx_G r (t_Hs_runFrame zz) 8 ls st h c n = (o_call 0 0 2 0 0 (mx_rv 8) (S_Wi_add zz)) r (mx_G r (t_Hs_runFrame zz)) 8 ls st h c n := mx_G_eq (tm_Hs_runFrame zz) r 8 ls st h c n
theorem st_Hs_runFrame_11 (zz : Nat × Nat) (r : mx_T) (ls : mx_L) (st : List Value) (h : mx_H) (c n : Nat) : mx_G r (t_Hs_runFrame zz) 11 ls st h c n = (o_aload 1 0) r (mx_G r (t_Hs_runFrame zz)) 11 ls st h c n := mx_G_eq (tm_Hs_runFrame zz) r 11 ls st h c n
theorem st_Hs_runFrame_12 (zz : Nat × Nat) (r : mx_T) (ls : mx_L) (st : List Value) (h : mx_H) (c n : Nat) : mx_G r (t_Hs_runFrame zz) 12 ls st h c n = (o_get 0 6) r (mx_G r (t_Hs_runFrame zz)) 12 ls st h c n := mx_G_eq (tm_Hs_runFrame zz) r 12 ls st h c n
theorem st_Hs_runFrame_15 (zz : Nat × Nat) (r : mx_T) (ls : mx_L) (st : List Value) (h : mx_H) (c n : Nat) : mx_G r (t_Hs_runFrame zz) 15 ls st h c n = (o_aload 1 1) r (mx_G r (t_Hs_runFrame zz)) 15 ls st h c n := mx_G_eq (tm_Hs_runFrame zz) r 15 ls st h c n
theorem st_Hs_runFrame_16 (zz : Nat × Nat) (r : mx_T) (ls : mx_L) (st : List Value) (h : mx_H) (c n : Nat) : mx_G r (t_Hs_runFrame zz) 16 ls st h c n = (o_call 0 0 2 0 0 (mx_rv 8) (S_Wi_respond zz)) r (mx_G r (t_Hs_runFrame zz)) 16 ls st h c n := mx_G_eq (tm_Hs_runFrame zz) r 16 ls st h c n
theorem st_Hs_runFrame_19 (zz : Nat × Nat) (r : mx_T) (ls : mx_L) (st : List Value) (h : mx_H) (c n : Nat) : mx_G r (t_Hs_runFrame zz) 19 ls st h c n = (o_aload 1 0) r (mx_G r (t_Hs_runFrame zz)) 19 ls st h c n := mx_G_eq (tm_Hs_runFrame zz) r 19 ls st h c n
theorem st_Hs_runFrame_20 (zz : Nat × Nat) (r : mx_T) (ls : mx_L) (st : List Value) (h : mx_H) (c n : Nat) : mx_G r (t_Hs_runFrame zz) 20 ls st h c n = (o_get 0 6) r (mx_G r (t_Hs_runFrame zz)) 20 ls st h c n := mx_G_eq (tm_Hs_runFrame zz) r 20 ls st h c n
theorem st_Hs_runFrame_23 (zz : Nat × Nat) (r : mx_T) (ls : mx_L) (st : List Value) (h : mx_H) (c n : Nat) : mx_G r (t_Hs_runFrame zz) 23 ls st h c n = (o_aload 1 1) r (mx_G r (t_Hs_runFrame zz)) 23 ls st h c n := mx_G_eq (tm_Hs_runFrame zz) r 23 ls st h c n
theorem st_Hs_runFrame_24 (zz : Nat × Nat) (r : mx_T) (ls : mx_L) (st : List Value) (h : mx_H) (c n : Nat) : mx_G r (t_Hs_runFrame zz) 24 ls st h c n = (o_call 0 0 2 0 0 (mx_rv 8) (S_Wi_isValidFor zz)) r (mx_G r (t_Hs_runFrame zz)) 24 ls st h c n := mx_G_eq (tm_Hs_runFrame zz) r 24 ls st h c n
theorem st_Hs_runFrame_27 (zz : Nat × Nat) (r : mx_T) (ls : mx_L) (st : List Value) (h : mx_H) (c n : Nat) : mx_G r (t_Hs_runFrame zz) 27 ls st h c n = (o_if 32 (fun x => ¬ x = 0)) r (mx_G r (t_Hs_runFrame zz)) 27 ls st h c n := mx_G_eq (tm_Hs_runFrame zz) r 27 ls st h c n
theorem st_Hs_runFrame_30 (zz : Nat × Nat) (r : mx_T) (ls : mx_L) (st : List Value) (h : mx_H) (c n : Nat) : mx_G r (t_Hs_runFrame zz) 30 ls st h c n = (o_push 1 (.int 3)) r (mx_G r (t_Hs_runFrame zz)) 30 ls st h c n := mx_G_eq (tm_Hs_runFrame zz) r 30 ls st h c n
theorem st_Hs_runFrame_31 (zz : Nat × Nat) (r : mx_T) (ls : mx_L) (st : List Value) (h : mx_H) (c n : Nat) : mx_G r (t_Hs_runFrame zz) 31 ls st h c n = (o_iret) r (mx_G r (t_Hs_runFrame zz)) 31 ls st h c n := mx_G_eq (tm_Hs_runFrame zz) r 31 ls st h c n
theorem st_Hs_runFrame_32 (zz : Nat × Nat) (r : mx_T) (ls : mx_L) (st : List Value) (h : mx_H) (c n : Nat) : mx_G r (t_Hs_runFrame zz) 32 ls st h c n = (o_aload 1 0) r (mx_G r (t_Hs_runFrame zz)) 32 ls st h c n := mx_G_eq (tm_Hs_runFrame zz) r 32 ls st h c n
theorem st_Hs_runFrame_33 (zz : Nat × Nat) (r : mx_T) (ls : mx_L) (st : List Value) (h : mx_H) (c n : Nat) : mx_G r (t_Hs_runFrame zz) 33 ls st h c n = (o_aload 1 1) r (mx_G r (t_Hs_runFrame zz)) 33 ls st h c n := mx_G_eq (tm_Hs_runFrame zz) r 33 ls st h c n
theorem st_Hs_runFrame_34 (zz : Nat × Nat) (r : mx_T) (ls : mx_L) (st : List Value) (h : mx_H) (c n : Nat) : mx_G r (t_Hs_runFrame zz) 34 ls st h c n = (o_call 0 0 2 0 0 (mx_rv 0) (S_Hs_takeIn zz)) r (mx_G r (t_Hs_runFrame zz)) 34 ls st h c n := mx_G_eq (tm_Hs_runFrame zz) r 34 ls st h c n
theorem st_Hs_runFrame_37 (zz : Nat × Nat) (r : mx_T) (ls : mx_L) (st : List Value) (h : mx_H) (c n : Nat) : mx_G r (t_Hs_runFrame zz) 37 ls st h c n = (o_push 1 (.int 1)) r (mx_G r (t_Hs_runFrame zz)) 37 ls st h c n := mx_G_eq (tm_Hs_runFrame zz) r 37 ls st h c n
theorem st_Hs_runFrame_38 (zz : Nat × Nat) (r : mx_T) (ls : mx_L) (st : List Value) (h : mx_H) (c n : Nat) : mx_G r (t_Hs_runFrame zz) 38 ls st h c n = (o_iret) r (mx_G r (t_Hs_runFrame zz)) 38 ls st h c n := mx_G_eq (tm_Hs_runFrame zz) r 38 ls st h c n
theorem d_Gr_firstPending_0 : decode c_Gr_firstPending 0 = .ok (.aload_n 0, 1) := by decide +kernel
theorem d_Gr_firstPending_1 : decode c_Gr_firstPending 1 = .ok (.getfield 7, 3) := by decide +kernel
theorem d_Gr_firstPending_4 : decode c_Gr_firstPending 4 = .ok (.astore_n 1, 1) := by decide +kernel
theorem d_Gr_firstPending_5 : decode c_Gr_firstPending 5 = .ok (.aload_n 1, 1) := by decide +kernel
theorem d_Gr_firstPending_6 : decode c_Gr_firstPending 6 = .ok (.arraylength, 1) := by decide +kernel
theorem d_Gr_firstPending_7 : decode c_Gr_firstPending 7 = .ok (.istore_n 2, 1) := by decide +kernel
theorem d_Gr_firstPending_8 : decode c_Gr_firstPending 8 = .ok (.iconst 0, 1) := by decide +kernel
theorem d_Gr_firstPending_9 : decode c_Gr_firstPending 9 = .ok (.istore_n 3, 1) := by decide +kernel
theorem d_Gr_firstPending_10 : decode c_Gr_firstPending 10 = .ok (.iload_n 3, 1) := by decide +kernel
theorem d_Gr_firstPending_11 : decode c_Gr_firstPending 11 = .ok (.iload_n 2, 1) := by decide +kernel
theorem d_Gr_firstPending_12 : decode c_Gr_firstPending 12 = .ok (.if_icmp .ge 25, 3) := by decide +kernel
theorem d_Gr_firstPending_15 : decode c_Gr_firstPending 15 = .ok (.aload_n 1, 1) := by decide +kernel
theorem d_Gr_firstPending_16 : decode c_Gr_firstPending 16 = .ok (.iload_n 3, 1) := by decide +kernel
theorem d_Gr_firstPending_17 : decode c_Gr_firstPending 17 = .ok (.aaload, 1) := by decide +kernel
theorem d_Gr_firstPending_18 : decode c_Gr_firstPending 18 = .ok (.astore 4, 2) := by decide +kernel
theorem d_Gr_firstPending_20 : decode c_Gr_firstPending 20 = .ok (.aload 4, 2) := by decide +kernel
theorem d_Gr_firstPending_22 : decode c_Gr_firstPending 22 = .ok (.getfield 13, 3) := by decide +kernel
theorem d_Gr_firstPending_25 : decode c_Gr_firstPending 25 = .ok (.ifCond .eq 6, 3) := by decide +kernel
theorem d_Gr_firstPending_28 : decode c_Gr_firstPending 28 = .ok (.aload 4, 2) := by decide +kernel
theorem d_Gr_firstPending_30 : decode c_Gr_firstPending 30 = .ok (.areturn, 1) := by decide +kernel
theorem d_Gr_firstPending_31 : decode c_Gr_firstPending 31 = .ok (.iinc 3 1, 3) := by decide +kernel
theorem d_Gr_firstPending_34 : decode c_Gr_firstPending 34 = .ok (.goto (-24), 3) := by decide +kernel
theorem d_Gr_firstPending_37 : decode c_Gr_firstPending 37 = .ok (.aconst_null, 1) := by decide +kernel
theorem d_Gr_firstPending_38 : decode c_Gr_firstPending 38 = .ok (.areturn, 1) := by decide +kernel
def t_Gr_firstPending (zz : Nat × Nat) : List (Nat × mx_O) := [(0, o_aload 1 0),
  (1, o_get 3 0),
  (4, o_astore 1 1),
  (5, o_aload 1 1),
  (6, o_alen),
  (7, o_istore 1 2),
  (8, o_push 1 (.int 0)),
  (9, o_istore 1 3),
  (10, o_iload 1 3),
  (11, o_iload 1 2),
  (12, o_icmp 37 (fun x y => y ≤ x)),
  (15, o_aload 1 1),
  (16, o_iload 1 3),
  (17, o_aald),
  (18, o_astore 2 4),
  (20, o_aload 2 4),
  (22, o_get 1 7),
  (25, o_if 31 (fun x => x = 0)),
  (28, o_aload 2 4),
  (30, o_aret),
  (31, o_iinc 3 1),
  (34, o_goto 10),
  (37, o_push 1 .null),
  (38, o_aret)]
set_option maxRecDepth 100000 in
theorem tm_Gr_firstPending (zz : Nat × Nat) : mx_All (fun _ o => mx_Mono o) (t_Gr_firstPending zz) := by
  refine mx_all_cons (mo_st) ?_
  refine mx_all_cons (mo_st) ?_
  refine mx_all_cons (mo_st) ?_
  refine mx_all_cons (mo_st) ?_
  refine mx_all_cons (mo_st) ?_
  refine mx_all_cons (mo_st) ?_
  refine mx_all_cons (mo_st) ?_
  refine mx_all_cons (mo_st) ?_
  refine mx_all_cons (mo_st) ?_
  refine mx_all_cons (mo_st) ?_
  refine mx_all_cons (mo_br) ?_
  refine mx_all_cons (mo_st) ?_
  refine mx_all_cons (mo_st) ?_
  refine mx_all_cons (mo_sc) ?_
  refine mx_all_cons (mo_st) ?_
  refine mx_all_cons (mo_st) ?_
  refine mx_all_cons (mo_st) ?_
  refine mx_all_cons (mo_br) ?_
  refine mx_all_cons (mo_st) ?_
  refine mx_all_cons (mo_ret) ?_
  refine mx_all_cons (mo_st) ?_
  refine mx_all_cons (mo_st) ?_
  refine mx_all_cons (mo_st) ?_
  refine mx_all_cons (mo_ret) ?_
  exact mx_all_nil
def S_Gr_firstPending (zz : Nat × Nat) : mx_Sp := mx_S 5 0 0 (t_Gr_firstPending zz)
theorem sm_Gr_firstPending (zz : Nat × Nat) : mx_SMono (S_Gr_firstPending zz) := mx_S_mono (tm_Gr_firstPending zz)
abbrev rm_Gr_firstPending : Room := { frames := 0, cells := 0, slots := 0, locals := 0 }
set_option maxHeartbeats 4000000 in
set_option maxRecDepth 100000 in
theorem m_Gr_firstPending (l : Launch) (zz : Nat × Nat) : mx_Met l y_Gr_firstPending (wsOf y_Gr_firstPending c_Gr_firstPending 5 (some (.object "HeaderSchedule$Frame"))) rm_Gr_firstPending wcl (mx_Z zz) 0 0 (S_Gr_firstPending zz) := by
  refine mx_met (cc := c_Gr_firstPending) (ret := (some (.object "HeaderSchedule$Frame"))) (by decide) rfl ?_
  intro p e s m args below meth c D A Post X hz hr hlk hnm
  have hm : ∀ w ∈ mw, w.before args s = true := fun w h => X.1.2.2.2.2 w (List.mem_cons_of_mem _ h)
  refine mx_all_cons (ok_aload (fun hl kk => lv_aload_n X.1.1 X.1.2.1 d_Gr_firstPending_0 rfl hl kk) (fun hl kk => lv_aload_nN X.1.1 X.1.2.1 d_Gr_firstPending_0 rfl hl kk)) ?_
  refine mx_all_cons (ok_get (C := "HeaderSchedule$Group") (T := T_Gr) (N := 1) X (mw_up in_Gr) rfl 0 (by decide) (hm _ w399) (fun _ h9 => h9) d_Gr_firstPending_1) ?_
  refine mx_all_cons (ok_astore (fun hl kk => lv_astore_n X.1.1 X.1.2.1 d_Gr_firstPending_4 rfl hl (by decide) rfl kk) (fun hl kk => lv_astore_nN X.1.1 X.1.2.1 d_Gr_firstPending_4 rfl hl (by decide) rfl kk)) ?_
  refine mx_all_cons (ok_aload (fun hl kk => lv_aload_n X.1.1 X.1.2.1 d_Gr_firstPending_5 rfl hl kk) (fun hl kk => lv_aload_nN X.1.1 X.1.2.1 d_Gr_firstPending_5 rfl hl kk)) ?_
  refine mx_all_cons (ok_alen X d_Gr_firstPending_6) ?_
  refine mx_all_cons (ok_istore (fun hl kk => lv_istore_n X.1.1 X.1.2.1 d_Gr_firstPending_7 rfl hl (by decide) rfl kk)) ?_
  refine mx_all_cons (ok_push (fun kk => lv_iconst X.1.1 X.1.2.1 d_Gr_firstPending_8 (by decide) kk)) ?_
  refine mx_all_cons (ok_istore (fun hl kk => lv_istore_n X.1.1 X.1.2.1 d_Gr_firstPending_9 rfl hl (by decide) rfl kk)) ?_
  refine mx_all_cons (ok_iload (fun hl kk => lv_iload_n X.1.1 X.1.2.1 d_Gr_firstPending_10 rfl hl kk)) ?_
  refine mx_all_cons (ok_iload (fun hl kk => lv_iload_n X.1.1 X.1.2.1 d_Gr_firstPending_11 rfl hl kk)) ?_
  refine mx_all_cons (ok_icmp (fun kt kf => lv_icmp_ge X.1.1 X.1.2.1 d_Gr_firstPending_12 (by decide) kt kf)) ?_
  refine mx_all_cons (ok_aload (fun hl kk => lv_aload_n X.1.1 X.1.2.1 d_Gr_firstPending_15 rfl hl kk) (fun hl kk => lv_aload_nN X.1.1 X.1.2.1 d_Gr_firstPending_15 rfl hl kk)) ?_
  refine mx_all_cons (ok_iload (fun hl kk => lv_iload_n X.1.1 X.1.2.1 d_Gr_firstPending_16 rfl hl kk)) ?_
  refine mx_all_cons (ok_aald X d_Gr_firstPending_17) ?_
  refine mx_all_cons (ok_astore (fun hl kk => lv_astore X.1.1 X.1.2.1 d_Gr_firstPending_18 hl (by decide) rfl kk) (fun hl kk => lv_astoreN X.1.1 X.1.2.1 d_Gr_firstPending_18 hl (by decide) rfl kk)) ?_
  refine mx_all_cons (ok_aload (fun hl kk => lv_aload X.1.1 X.1.2.1 d_Gr_firstPending_20 hl kk) (fun hl kk => lv_aloadN X.1.1 X.1.2.1 d_Gr_firstPending_20 hl kk)) ?_
  refine mx_all_cons (ok_get (C := "HeaderSchedule$Frame") (T := T_Fr) (N := 8) X (mw_up in_Fr) rfl 7 (by decide) (hm _ w237) (fun _ h9 => h9) d_Gr_firstPending_22) ?_
  refine mx_all_cons (ok_if (fun kt kf => lv_if_eq X.1.1 X.1.2.1 d_Gr_firstPending_25 (by decide) kt kf)) ?_
  refine mx_all_cons (ok_aload (fun hl kk => lv_aload X.1.1 X.1.2.1 d_Gr_firstPending_28 hl kk) (fun hl kk => lv_aloadN X.1.1 X.1.2.1 d_Gr_firstPending_28 hl kk)) ?_
  refine mx_all_cons (ok_aret X hr (by first | exact Or.inl ⟨_, rfl⟩ | exact Or.inr ⟨_, rfl⟩) hlk d_Gr_firstPending_30) ?_
  refine mx_all_cons (ok_iinc X (by decide) (by decide) d_Gr_firstPending_31) ?_
  refine mx_all_cons (ok_goto X d_Gr_firstPending_34 (by decide)) ?_
  refine mx_all_cons (ok_push (fun kk => lv_null X.1.1 X.1.2.1 d_Gr_firstPending_37 kk)) ?_
  refine mx_all_cons (ok_aret X hr (by first | exact Or.inl ⟨_, rfl⟩ | exact Or.inr ⟨_, rfl⟩) hlk d_Gr_firstPending_38) ?_
  exact mx_all_nil
theorem st_Gr_firstPending_0 (zz : Nat × Nat) (r : mx_T) (ls : mx_L) (st : List Value) (h : mx_H) (c n : Nat) : mx_G r (t_Gr_firstPending zz) 0 ls st h c n = (o_aload 1 0) r (mx_G r (t_Gr_firstPending zz)) 0 ls st h c n := mx_G_eq (tm_Gr_firstPending zz) r 0 ls st h c n
theorem st_Gr_firstPending_1 (zz : Nat × Nat) (r : mx_T) (ls : mx_L) (st : List Value) (h : mx_H) (c n : Nat) : mx_G r (t_Gr_firstPending zz) 1 ls st h c n = (o_get 3 0) r (mx_G r (t_Gr_firstPending zz)) 1 ls st h c n := mx_G_eq (tm_Gr_firstPending zz) r 1 ls st h c n
theorem st_Gr_firstPending_4 (zz : Nat × Nat) (r : mx_T) (ls : mx_L) (st : List Value) (h : mx_H) (c n : Nat) : mx_G r (t_Gr_firstPending zz) 4 ls st h c n = (o_astore 1 1) r (mx_G r (t_Gr_firstPending zz)) 4 ls st h c n := mx_G_eq (tm_Gr_firstPending zz) r 4 ls st h c n
theorem st_Gr_firstPending_5 (zz : Nat × Nat) (r : mx_T) (ls : mx_L) (st : List Value) (h : mx_H) (c n : Nat) : mx_G r (t_Gr_firstPending zz) 5 ls st h c n = (o_aload 1 1) r (mx_G r (t_Gr_firstPending zz)) 5 ls st h c n := mx_G_eq (tm_Gr_firstPending zz) r 5 ls st h c n
theorem st_Gr_firstPending_6 (zz : Nat × Nat) (r : mx_T) (ls : mx_L) (st : List Value) (h : mx_H) (c n : Nat) : mx_G r (t_Gr_firstPending zz) 6 ls st h c n = (o_alen) r (mx_G r (t_Gr_firstPending zz)) 6 ls st h c n := mx_G_eq (tm_Gr_firstPending zz) r 6 ls st h c n
theorem st_Gr_firstPending_7 (zz : Nat × Nat) (r : mx_T) (ls : mx_L) (st : List Value) (h : mx_H) (c n : Nat) : mx_G r (t_Gr_firstPending zz) 7 ls st h c n = (o_istore 1 2) r (mx_G r (t_Gr_firstPending zz)) 7 ls st h c n := mx_G_eq (tm_Gr_firstPending zz) r 7 ls st h c n
theorem st_Gr_firstPending_8 (zz : Nat × Nat) (r : mx_T) (ls : mx_L) (st : List Value) (h : mx_H) (c n : Nat) : mx_G r (t_Gr_firstPending zz) 8 ls st h c n = (o_push 1 (.int 0)) r (mx_G r (t_Gr_firstPending zz)) 8 ls st h c n := mx_G_eq (tm_Gr_firstPending zz) r 8 ls st h c n
theorem st_Gr_firstPending_9 (zz : Nat × Nat) (r : mx_T) (ls : mx_L) (st : List Value) (h : mx_H) (c n : Nat) : mx_G r (t_Gr_firstPending zz) 9 ls st h c n = (o_istore 1 3) r (mx_G r (t_Gr_firstPending zz)) 9 ls st h c n := mx_G_eq (tm_Gr_firstPending zz) r 9 ls st h c n
theorem st_Gr_firstPending_10 (zz : Nat × Nat) (r : mx_T) (ls : mx_L) (st : List Value) (h : mx_H) (c n : Nat) : mx_G r (t_Gr_firstPending zz) 10 ls st h c n = (o_iload 1 3) r (mx_G r (t_Gr_firstPending zz)) 10 ls st h c n := mx_G_eq (tm_Gr_firstPending zz) r 10 ls st h c n
theorem st_Gr_firstPending_11 (zz : Nat × Nat) (r : mx_T) (ls : mx_L) (st : List Value) (h : mx_H) (c n : Nat) : mx_G r (t_Gr_firstPending zz) 11 ls st h c n = (o_iload 1 2) r (mx_G r (t_Gr_firstPending zz)) 11 ls st h c n := mx_G_eq (tm_Gr_firstPending zz) r 11 ls st h c n
theorem st_Gr_firstPending_12 (zz : Nat × Nat) (r : mx_T) (ls : mx_L) (st : List Value) (h : mx_H) (c n : Nat) : mx_G r (t_Gr_firstPending zz) 12 ls st h c n = (o_icmp 37 (fun x y => y ≤ x)) r (mx_G r (t_Gr_firstPending zz)) 12 ls st h c n := mx_G_eq (tm_Gr_firstPending zz) r 12 ls st h c n
theorem st_Gr_firstPending_15 (zz : Nat × Nat) (r : mx_T) (ls : mx_L) (st : List Value) (h : mx_H) (c n : Nat) : mx_G r (t_Gr_firstPending zz) 15 ls st h c n = (o_aload 1 1) r (mx_G r (t_Gr_firstPending zz)) 15 ls st h c n := mx_G_eq (tm_Gr_firstPending zz) r 15 ls st h c n
theorem st_Gr_firstPending_16 (zz : Nat × Nat) (r : mx_T) (ls : mx_L) (st : List Value) (h : mx_H) (c n : Nat) : mx_G r (t_Gr_firstPending zz) 16 ls st h c n = (o_iload 1 3) r (mx_G r (t_Gr_firstPending zz)) 16 ls st h c n := mx_G_eq (tm_Gr_firstPending zz) r 16 ls st h c n
theorem st_Gr_firstPending_17 (zz : Nat × Nat) (r : mx_T) (ls : mx_L) (st : List Value) (h : mx_H) (c n : Nat) : mx_G r (t_Gr_firstPending zz) 17 ls st h c n = (o_aald) r (mx_G r (t_Gr_firstPending zz)) 17 ls st h c n := mx_G_eq (tm_Gr_firstPending zz) r 17 ls st h c n
theorem st_Gr_firstPending_18 (zz : Nat × Nat) (r : mx_T) (ls : mx_L) (st : List Value) (h : mx_H) (c n : Nat) : mx_G r (t_Gr_firstPending zz) 18 ls st h c n = (o_astore 2 4) r (mx_G r (t_Gr_firstPending zz)) 18 ls st h c n := mx_G_eq (tm_Gr_firstPending zz) r 18 ls st h c n
theorem st_Gr_firstPending_20 (zz : Nat × Nat) (r : mx_T) (ls : mx_L) (st : List Value) (h : mx_H) (c n : Nat) : mx_G r (t_Gr_firstPending zz) 20 ls st h c n = (o_aload 2 4) r (mx_G r (t_Gr_firstPending zz)) 20 ls st h c n := mx_G_eq (tm_Gr_firstPending zz) r 20 ls st h c n
theorem st_Gr_firstPending_22 (zz : Nat × Nat) (r : mx_T) (ls : mx_L) (st : List Value) (h : mx_H) (c n : Nat) : mx_G r (t_Gr_firstPending zz) 22 ls st h c n = (o_get 1 7) r (mx_G r (t_Gr_firstPending zz)) 22 ls st h c n := mx_G_eq (tm_Gr_firstPending zz) r 22 ls st h c n
theorem st_Gr_firstPending_25 (zz : Nat × Nat) (r : mx_T) (ls : mx_L) (st : List Value) (h : mx_H) (c n : Nat) : mx_G r (t_Gr_firstPending zz) 25 ls st h c n = (o_if 31 (fun x => x = 0)) r (mx_G r (t_Gr_firstPending zz)) 25 ls st h c n := mx_G_eq (tm_Gr_firstPending zz) r 25 ls st h c n
theorem st_Gr_firstPending_28 (zz : Nat × Nat) (r : mx_T) (ls : mx_L) (st : List Value) (h : mx_H) (c n : Nat) : mx_G r (t_Gr_firstPending zz) 28 ls st h c n = (o_aload 2 4) r (mx_G r (t_Gr_firstPending zz)) 28 ls st h c n := mx_G_eq (tm_Gr_firstPending zz) r 28 ls st h c n
theorem st_Gr_firstPending_30 (zz : Nat × Nat) (r : mx_T) (ls : mx_L) (st : List Value) (h : mx_H) (c n : Nat) : mx_G r (t_Gr_firstPending zz) 30 ls st h c n = (o_aret) r (mx_G r (t_Gr_firstPending zz)) 30 ls st h c n := mx_G_eq (tm_Gr_firstPending zz) r 30 ls st h c n
theorem st_Gr_firstPending_31 (zz : Nat × Nat) (r : mx_T) (ls : mx_L) (st : List Value) (h : mx_H) (c n : Nat) : mx_G r (t_Gr_firstPending zz) 31 ls st h c n = (o_iinc 3 1) r (mx_G r (t_Gr_firstPending zz)) 31 ls st h c n := mx_G_eq (tm_Gr_firstPending zz) r 31 ls st h c n
theorem st_Gr_firstPending_34 (zz : Nat × Nat) (r : mx_T) (ls : mx_L) (st : List Value) (h : mx_H) (c n : Nat) : mx_G r (t_Gr_firstPending zz) 34 ls st h c n = (o_goto 10) r (mx_G r (t_Gr_firstPending zz)) 34 ls st h c n := mx_G_eq (tm_Gr_firstPending zz) r 34 ls st h c n
theorem st_Gr_firstPending_37 (zz : Nat × Nat) (r : mx_T) (ls : mx_L) (st : List Value) (h : mx_H) (c n : Nat) : mx_G r (t_Gr_firstPending zz) 37 ls st h c n = (o_push 1 .null) r (mx_G r (t_Gr_firstPending zz)) 37 ls st h c n := mx_G_eq (tm_Gr_firstPending zz) r 37 ls st h c n
theorem st_Gr_firstPending_38 (zz : Nat × Nat) (r : mx_T) (ls : mx_L) (st : List Value) (h : mx_H) (c n : Nat) : mx_G r (t_Gr_firstPending zz) 38 ls st h c n = (o_aret) r (mx_G r (t_Gr_firstPending zz)) 38 ls st h c n := mx_G_eq (tm_Gr_firstPending zz) r 38 ls st h c n
theorem d_Hs_runGroup_0 : decode c_Hs_runGroup 0 = .ok (.aload_n 1, 1) := by decide +kernel
theorem d_Hs_runGroup_1 : decode c_Hs_runGroup 1 = .ok (.invokevirtual 273, 3) := by decide +kernel
theorem d_Hs_runGroup_4 : decode c_Hs_runGroup 4 = .ok (.astore_n 2, 1) := by decide +kernel
theorem d_Hs_runGroup_5 : decode c_Hs_runGroup 5 = .ok (.aload_n 2, 1) := by decide +kernel
theorem d_Hs_runGroup_6 : decode c_Hs_runGroup 6 = .ok (.ifnonnull 7, 3) := by decide +kernel
theorem d_Hs_runGroup_9 : decode c_Hs_runGroup 9 = .ok (.iconst 2, 1) := by decide +kernel
theorem d_Hs_runGroup_10 : decode c_Hs_runGroup 10 = .ok (.goto 8, 3) := by decide +kernel
theorem d_Hs_runGroup_13 : decode c_Hs_runGroup 13 = .ok (.aload_n 0, 1) := by decide +kernel
theorem d_Hs_runGroup_14 : decode c_Hs_runGroup 14 = .ok (.aload_n 2, 1) := by decide +kernel
theorem d_Hs_runGroup_15 : decode c_Hs_runGroup 15 = .ok (.invokevirtual 246, 3) := by decide +kernel
theorem d_Hs_runGroup_18 : decode c_Hs_runGroup 18 = .ok (.ireturn, 1) := by decide +kernel
def t_Hs_runGroup (zz : Nat × Nat) : List (Nat × mx_O) := [(0, o_aload 1 1),
  (1, o_call 0 0 1 0 0 (mx_rv 3) (S_Gr_firstPending zz)),
  (4, o_astore 1 2),
  (5, o_aload 1 2),
  (6, o_ifnonnull 13),
  (9, o_push 1 (.int 2)),
  (10, o_goto 18),
  (13, o_aload 1 0),
  (14, o_aload 1 2),
  (15, o_call 0 0 2 0 0 (mx_rv 0) (S_Hs_runFrame zz)),
  (18, o_iret)]
set_option maxRecDepth 100000 in
theorem tm_Hs_runGroup (zz : Nat × Nat) : mx_All (fun _ o => mx_Mono o) (t_Hs_runGroup zz) := by
  refine mx_all_cons (mo_st) ?_
  refine mx_all_cons (mo_call (sm_Gr_firstPending zz)) ?_
  refine mx_all_cons (mo_st) ?_
  refine mx_all_cons (mo_st) ?_
  refine mx_all_cons (mo_st) ?_
  refine mx_all_cons (mo_st) ?_
  refine mx_all_cons (mo_st) ?_
  refine mx_all_cons (mo_st) ?_
  refine mx_all_cons (mo_st) ?_
  refine mx_all_cons (mo_call (sm_Hs_runFrame zz)) ?_
  refine mx_all_cons (mo_ret) ?_
  exact mx_all_nil
def S_Hs_runGroup (zz : Nat × Nat) : mx_Sp := mx_S 3 0 0 (t_Hs_runGroup zz)
theorem sm_Hs_runGroup (zz : Nat × Nat) : mx_SMono (S_Hs_runGroup zz) := mx_S_mono (tm_Hs_runGroup zz)
abbrev rm_Hs_runGroup : Room := { frames := 5, cells := 0, slots := 0, locals := 110 }
set_option maxHeartbeats 4000000 in
set_option maxRecDepth 100000 in
theorem m_Hs_runGroup (l : Launch) (zz : Nat × Nat) : mx_Met l y_Hs_runGroup (wsOf y_Hs_runGroup c_Hs_runGroup 3 (some .int)) rm_Hs_runGroup wcl (mx_Z zz) 0 0 (S_Hs_runGroup zz) := by
  refine mx_met (cc := c_Hs_runGroup) (ret := (some .int)) (by decide) rfl ?_
  intro p e s m args below meth c D A Post X hz hr hlk hnm
  have hm : ∀ w ∈ mw, w.before args s = true := fun w h => X.1.2.2.2.2 w (List.mem_cons_of_mem _ h)
  refine mx_all_cons (ok_aload (fun hl kk => lv_aload_n X.1.1 X.1.2.1 d_Hs_runGroup_0 rfl hl kk) (fun hl kk => lv_aload_nN X.1.1 X.1.2.1 d_Hs_runGroup_0 rfl hl kk)) ?_
  refine mx_all_cons (ok_callV (C := "HeaderSchedule$Group") (T := T_Gr) (N := 1) X (mx_Zok_Z zz) hz ⟨(Nat.le_of_ble_eq_true rfl), (Nat.le_of_ble_eq_true rfl)⟩ (m_Gr_firstPending l zz) ⟨mx_cwB 0 hm w621 w618 w49 rfl rfl (by decide +kernel) ⟨(Nat.le_of_ble_eq_true rfl), (Nat.le_of_ble_eq_true rfl)⟩, (hm _ w619), hm _ w620⟩ rfl d_Hs_runGroup_1) ?_
  refine mx_all_cons (ok_astore (fun hl kk => lv_astore_n X.1.1 X.1.2.1 d_Hs_runGroup_4 rfl hl (by decide) rfl kk) (fun hl kk => lv_astore_nN X.1.1 X.1.2.1 d_Hs_runGroup_4 rfl hl (by decide) rfl kk)) ?_
  refine mx_all_cons (ok_aload (fun hl kk => lv_aload_n X.1.1 X.1.2.1 d_Hs_runGroup_5 rfl hl kk) (fun hl kk => lv_aload_nN X.1.1 X.1.2.1 d_Hs_runGroup_5 rfl hl kk)) ?_
  refine mx_all_cons (ok_ifnonnull X d_Hs_runGroup_6 (by decide)) ?_
  refine mx_all_cons (ok_push (fun kk => lv_iconst X.1.1 X.1.2.1 d_Hs_runGroup_9 (by decide) kk)) ?_
  refine mx_all_cons (ok_goto X d_Hs_runGroup_10 (by decide)) ?_
  refine mx_all_cons (ok_aload (fun hl kk => lv_aload_n X.1.1 X.1.2.1 d_Hs_runGroup_13 rfl hl kk) (fun hl kk => lv_aload_nN X.1.1 X.1.2.1 d_Hs_runGroup_13 rfl hl kk)) ?_
  refine mx_all_cons (ok_aload (fun hl kk => lv_aload_n X.1.1 X.1.2.1 d_Hs_runGroup_14 rfl hl kk) (fun hl kk => lv_aload_nN X.1.1 X.1.2.1 d_Hs_runGroup_14 rfl hl kk)) ?_
  refine mx_all_cons (ok_callV (C := "HeaderSchedule") (T := T_Hs) (N := 11) X (mx_Zok_Z zz) hz ⟨(Nat.le_of_ble_eq_true rfl), (Nat.le_of_ble_eq_true rfl)⟩ (m_Hs_runFrame l zz) ⟨mx_cwB 1 hm w575 w572 w33 rfl rfl (by decide +kernel) ⟨(Nat.le_of_ble_eq_true rfl), (Nat.le_of_ble_eq_true rfl)⟩, (hm _ w574), hm _ w12⟩ rfl d_Hs_runGroup_15) ?_
  refine mx_all_cons (ok_iret X hr hlk d_Hs_runGroup_18) ?_
  exact mx_all_nil
theorem st_Hs_runGroup_0 (zz : Nat × Nat) (r : mx_T) (ls : mx_L) (st : List Value) (h : mx_H) (c n : Nat) : mx_G r (t_Hs_runGroup zz) 0 ls st h c n = (o_aload 1 1) r (mx_G r (t_Hs_runGroup zz)) 0 ls st h c n := mx_G_eq (tm_Hs_runGroup zz) r 0 ls st h c n
theorem st_Hs_runGroup_1 (zz : Nat × Nat) (r : mx_T) (ls : mx_L) (st : List Value) (h : mx_H) (c n : Nat) : mx_G r (t_Hs_runGroup zz) 1 ls st h c n = (o_call 0 0 1 0 0 (mx_rv 3) (S_Gr_firstPending zz)) r (mx_G r (t_Hs_runGroup zz)) 1 ls st h c n := mx_G_eq (tm_Hs_runGroup zz) r 1 ls st h c n
theorem st_Hs_runGroup_4 (zz : Nat × Nat) (r : mx_T) (ls : mx_L) (st : List Value) (h : mx_H) (c n : Nat) : mx_G r (t_Hs_runGroup zz) 4 ls st h c n = (o_astore 1 2) r (mx_G r (t_Hs_runGroup zz)) 4 ls st h c n := mx_G_eq (tm_Hs_runGroup zz) r 4 ls st h c n
theorem st_Hs_runGroup_5 (zz : Nat × Nat) (r : mx_T) (ls : mx_L) (st : List Value) (h : mx_H) (c n : Nat) : mx_G r (t_Hs_runGroup zz) 5 ls st h c n = (o_aload 1 2) r (mx_G r (t_Hs_runGroup zz)) 5 ls st h c n := mx_G_eq (tm_Hs_runGroup zz) r 5 ls st h c n
theorem st_Hs_runGroup_6 (zz : Nat × Nat) (r : mx_T) (ls : mx_L) (st : List Value) (h : mx_H) (c n : Nat) : mx_G r (t_Hs_runGroup zz) 6 ls st h c n = (o_ifnonnull 13) r (mx_G r (t_Hs_runGroup zz)) 6 ls st h c n := mx_G_eq (tm_Hs_runGroup zz) r 6 ls st h c n
theorem st_Hs_runGroup_9 (zz : Nat × Nat) (r : mx_T) (ls : mx_L) (st : List Value) (h : mx_H) (c n : Nat) : mx_G r (t_Hs_runGroup zz) 9 ls st h c n = (o_push 1 (.int 2)) r (mx_G r (t_Hs_runGroup zz)) 9 ls st h c n := mx_G_eq (tm_Hs_runGroup zz) r 9 ls st h c n
theorem st_Hs_runGroup_10 (zz : Nat × Nat) (r : mx_T) (ls : mx_L) (st : List Value) (h : mx_H) (c n : Nat) : mx_G r (t_Hs_runGroup zz) 10 ls st h c n = (o_goto 18) r (mx_G r (t_Hs_runGroup zz)) 10 ls st h c n := mx_G_eq (tm_Hs_runGroup zz) r 10 ls st h c n
theorem st_Hs_runGroup_13 (zz : Nat × Nat) (r : mx_T) (ls : mx_L) (st : List Value) (h : mx_H) (c n : Nat) : mx_G r (t_Hs_runGroup zz) 13 ls st h c n = (o_aload 1 0) r (mx_G r (t_Hs_runGroup zz)) 13 ls st h c n := mx_G_eq (tm_Hs_runGroup zz) r 13 ls st h c n
theorem st_Hs_runGroup_14 (zz : Nat × Nat) (r : mx_T) (ls : mx_L) (st : List Value) (h : mx_H) (c n : Nat) : mx_G r (t_Hs_runGroup zz) 14 ls st h c n = (o_aload 1 2) r (mx_G r (t_Hs_runGroup zz)) 14 ls st h c n := mx_G_eq (tm_Hs_runGroup zz) r 14 ls st h c n
theorem st_Hs_runGroup_15 (zz : Nat × Nat) (r : mx_T) (ls : mx_L) (st : List Value) (h : mx_H) (c n : Nat) : mx_G r (t_Hs_runGroup zz) 15 ls st h c n = (o_call 0 0 2 0 0 (mx_rv 0) (S_Hs_runFrame zz)) r (mx_G r (t_Hs_runGroup zz)) 15 ls st h c n := mx_G_eq (tm_Hs_runGroup zz) r 15 ls st h c n
theorem st_Hs_runGroup_18 (zz : Nat × Nat) (r : mx_T) (ls : mx_L) (st : List Value) (h : mx_H) (c n : Nat) : mx_G r (t_Hs_runGroup zz) 18 ls st h c n = (o_iret) r (mx_G r (t_Hs_runGroup zz)) 18 ls st h c n := mx_G_eq (tm_Hs_runGroup zz) r 18 ls st h c n
