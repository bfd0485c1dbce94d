theorem d_Abc_init_0 : decode c_Abc_init 0 = .ok (.aload_n 0, 1) := by decide +kernel
theorem d_Abc_init_1 : decode c_Abc_init 1 = .ok (.invokespecial 1, 3) := by decide +kernel
theorem d_Abc_init_4 : decode c_Abc_init 4 = .ok (.return_, 1) := by decide +kernel
def t_Abc_init (zz : Nat × Nat) : List (Nat × mx_O) := [(0, o_aload 1 0),
  (1, o_objinit),
  (4, o_vret)]
set_option maxRecDepth 100000 in
theorem tm_Abc_init (zz : Nat × Nat) : mx_All (fun _ o => mx_Mono o) (t_Abc_init zz) := by
  refine mx_all_cons (mo_st) ?_
  refine mx_all_cons (mo_sc) ?_
  refine mx_all_cons (mo_ret) ?_
  exact mx_all_nil
def S_Abc_init (zz : Nat × Nat) : mx_Sp := mx_S 1 0 0 (t_Abc_init zz)
theorem sm_Abc_init (zz : Nat × Nat) : mx_SMono (S_Abc_init zz) := mx_S_mono (tm_Abc_init zz)
abbrev rm_Abc_init : Room := { frames := 1, cells := 0, slots := 0, locals := 20 }
set_option maxHeartbeats 4000000 in
set_option maxRecDepth 100000 in
theorem m_Abc_init (l : Launch) (zz : Nat × Nat) : mx_Met l y_Abc_init (wsOf y_Abc_init c_Abc_init 1 none) rm_Abc_init wcl (mx_Z zz) 0 0 (S_Abc_init zz) := by
  refine mx_met (cc := c_Abc_init) (ret := none) (by decide) rfl ?_
  intro p e s m args below meth c D A Post X hz hr hlk hnm
  have hm : ∀ w ∈ mw, w.before args s = true := fun w h => X.1.2.2.2.2 w (List.mem_cons_of_mem _ h)
  refine mx_all_cons (ok_aload (fun hl kk => lv_aload_n X.1.1 X.1.2.1 d_Abc_init_0 rfl hl kk) (fun hl kk => lv_aload_nN X.1.1 X.1.2.1 d_Abc_init_0 rfl hl kk)) ?_
  refine mx_all_cons (ok_objinit X ⟨(Nat.le_of_ble_eq_true rfl), (Nat.le_of_ble_eq_true rfl)⟩ (hm _ w71) (hm _ w58) (hm _ w_oic) d_Abc_init_1) ?_
  refine mx_all_cons (ok_vret X hr hlk d_Abc_init_4) ?_
  exact mx_all_nil
theorem st_Abc_init_0 (zz : Nat × Nat) (r : mx_T) (ls : mx_L) (st : List Value) (h : mx_H) (c n : Nat) : mx_G r (t_Abc_init zz) 0 ls st h c n = (o_aload 1 0) r (mx_G r (t_Abc_init zz)) 0 ls st h c n := mx_G_eq (tm_Abc_init zz) r 0 ls st h c n
theorem st_Abc_init_1 (zz : Nat × Nat) (r : mx_T) (ls : mx_L) (st : List Value) (h : mx_H) (c n : Nat) : mx_G r (t_Abc_init zz) 1 ls st h c n = (o_objinit) r (mx_G r (t_Abc_init zz)) 1 ls st h c n := mx_G_eq (tm_Abc_init zz) r 1 ls st h c n
theorem st_Abc_init_4 (zz : Nat × Nat) (r : mx_T) (ls : mx_L) (st : List Value) (h : mx_H) (c n : Nat) : mx_G r (t_Abc_init zz) 4 ls st h c n = (o_vret) r (mx_G r (t_Abc_init zz)) 4 ls st h c n := mx_G_eq (tm_Abc_init zz) r 4 ls st h c n
theorem d_Abl_init_0 : decode c_Abl_init 0 = .ok (.aload_n 0, 1) := by decide +kernel
theorem d_Abl_init_1 : decode c_Abl_init 1 = .ok (.invokespecial 1, 3) := by decide +kernel
theorem d_Abl_init_4 : decode c_Abl_init 4 = .ok (.aload_n 0, 1) := by decide +kernel
theorem d_Abl_init_5 : decode c_Abl_init 5 = .ok (.iconst 0, 1) := by decide +kernel
theorem d_Abl_init_6 : decode c_Abl_init 6 = .ok (.putfield 7, 3) := by decide +kernel
theorem d_Abl_init_9 : decode c_Abl_init 9 = .ok (.return_, 1) := by decide +kernel
def t_Abl_init (zz : Nat × Nat) : List (Nat × mx_O) := [(0, o_aload 1 0),
  (1, o_call 0 0 1 0 0 mx_rr (S_Abc_init zz)),
  (4, o_aload 1 0),
  (5, o_push 1 (.int 0)),
  (6, o_put 9 0 mx_vI),
  (9, o_vret)]
set_option maxRecDepth 100000 in
theorem tm_Abl_init (zz : Nat × Nat) : mx_All (fun _ o => mx_Mono o) (t_Abl_init zz) := by
  refine mx_all_cons (mo_st) ?_
  refine mx_all_cons (mo_call (sm_Abc_init zz)) ?_
  refine mx_all_cons (mo_st) ?_
  refine mx_all_cons (mo_st) ?_
  refine mx_all_cons (mo_sc) ?_
  refine mx_all_cons (mo_ret) ?_
  exact mx_all_nil
def S_Abl_init (zz : Nat × Nat) : mx_Sp := mx_S 1 0 0 (t_Abl_init zz)
theorem sm_Abl_init (zz : Nat × Nat) : mx_SMono (S_Abl_init zz) := mx_S_mono (tm_Abl_init zz)
abbrev rm_Abl_init : Room := { frames := 2, cells := 0, slots := 0, locals := 40 }
set_option maxHeartbeats 4000000 in
set_option maxRecDepth 100000 in
theorem m_Abl_init (l : Launch) (zz : Nat × Nat) : mx_Met l y_Abl_init (wsOf y_Abl_init c_Abl_init 1 none) rm_Abl_init wcl (mx_Z zz) 0 0 (S_Abl_init zz) := by
  refine mx_met (cc := c_Abl_init) (ret := none) (by decide) rfl ?_
  intro p e s m args below meth c D A Post X hz hr hlk hnm
  have hm : ∀ w ∈ mw, w.before args s = true := fun w h => X.1.2.2.2.2 w (List.mem_cons_of_mem _ h)
  refine mx_all_cons (ok_aload (fun hl kk => lv_aload_n X.1.1 X.1.2.1 d_Abl_init_0 rfl hl kk) (fun hl kk => lv_aload_nN X.1.1 X.1.2.1 d_Abl_init_0 rfl hl kk)) ?_
  refine mx_all_cons (ok_callI X (mx_Zok_Z zz) hz ⟨(Nat.le_of_ble_eq_true rfl), (Nat.le_of_ble_eq_true rfl)⟩ (m_Abc_init l zz) ⟨mx_cwB 0 hm w70 w68 w34 rfl rfl (by decide +kernel) ⟨(Nat.le_of_ble_eq_true rfl), (Nat.le_of_ble_eq_true rfl)⟩, rfl, (hm _ w69)⟩ d_Abl_init_1) ?_
  refine mx_all_cons (ok_aload (fun hl kk => lv_aload_n X.1.1 X.1.2.1 d_Abl_init_4 rfl hl kk) (fun hl kk => lv_aload_nN X.1.1 X.1.2.1 d_Abl_init_4 rfl hl kk)) ?_
  refine mx_all_cons (ok_push (fun kk => lv_iconst X.1.1 X.1.2.1 d_Abl_init_5 (by decide) kk)) ?_
  refine mx_all_cons (ok_put (C := "java/util/ArrayList") (T := T_Al) (N := 3) X (mw_up in_Al) ty_Al tyok_Al nm_Al rfl 0 (by decide) (hm _ w76) (fun _ h9 => h9) rfl (tyok_Al 0 (by decide)) mx_vI_ok d_Abl_init_6) ?_
  refine mx_all_cons (ok_vret X hr hlk d_Abl_init_9) ?_
  exact mx_all_nil
theorem st_Abl_init_0 (zz : Nat × Nat) (r : mx_T) (ls : mx_L) (st : List Value) (h : mx_H) (c n : Nat) : mx_G r (t_Abl_init zz) 0 ls st h c n = (o_aload 1 0) r (mx_G r (t_Abl_init zz)) 0 ls st h c n := mx_G_eq (tm_Abl_init zz) r 0 ls st h c n
theorem st_Abl_init_1 (zz : Nat × Nat) (r : mx_T) (ls : mx_L) (st : List Value) (h : mx_H) (c n : Nat) : mx_G r (t_Abl_init zz) 1 ls st h c n = (o_call 0 0 1 0 0 mx_rr (S_Abc_init zz)) r (mx_G r (t_Abl_init zz)) 1 ls st h c n := mx_G_eq (tm_Abl_init zz) r 1 ls st h c n
theorem st_Abl_init_4 (zz : Nat × Nat) (r : mx_T) (ls : mx_L) (st : List Value) (h : mx_H) (c n : Nat) : mx_G r (t_Abl_init zz) 4 ls st h c n = (o_aload 1 0) r (mx_G r (t_Abl_init zz)) 4 ls st h c n := mx_G_eq (tm_Abl_init zz) r 4 ls st h c n
theorem st_Abl_init_5 (zz : Nat × Nat) (r : mx_T) (ls : mx_L) (st : List Value) (h : mx_H) (c n : Nat) : mx_G r (t_Abl_init zz) 5 ls st h c n = (o_push 1 (.int 0)) r (mx_G r (t_Abl_init zz)) 5 ls st h c n := mx_G_eq (tm_Abl_init zz) r 5 ls st h c n
theorem st_Abl_init_6 (zz : Nat × Nat) (r : mx_T) (ls : mx_L) (st : List Value) (h : mx_H) (c n : Nat) : mx_G r (t_Abl_init zz) 6 ls st h c n = (o_put 9 0 mx_vI) r (mx_G r (t_Abl_init zz)) 6 ls st h c n := mx_G_eq (tm_Abl_init zz) r 6 ls st h c n
theorem st_Abl_init_9 (zz : Nat × Nat) (r : mx_T) (ls : mx_L) (st : List Value) (h : mx_H) (c n : Nat) : mx_G r (t_Abl_init zz) 9 ls st h c n = (o_vret) r (mx_G r (t_Abl_init zz)) 9 ls st h c n := mx_G_eq (tm_Abl_init zz) r 9 ls st h c n
theorem d_Al_init_0 : decode c_Al_init 0 = .ok (.aload_n 0, 1) := by decide +kernel
theorem d_Al_init_1 : decode c_Al_init 1 = .ok (.invokespecial 1, 3) := by decide +kernel
theorem d_Al_init_4 : decode c_Al_init 4 = .ok (.aload_n 0, 1) := by decide +kernel
theorem d_Al_init_5 : decode c_Al_init 5 = .ok (.getstatic 39, 3) := by decide +kernel
theorem d_Al_init_8 : decode c_Al_init 8 = .ok (.putfield 9, 3) := by decide +kernel
theorem d_Al_init_11 : decode c_Al_init 11 = .ok (.return_, 1) := by decide +kernel
def t_Al_init (zz : Nat × Nat) : List (Nat × mx_O) := [(0, o_aload 1 0),
  (1, o_call 0 0 1 0 0 mx_rr (S_Abl_init zz)),
  (4, o_aload 1 0),
  (5, o_push 3 (.ref zz.1)),
  (8, o_put 9 1 mx_vA),
  (11, o_vret)]
set_option maxRecDepth 100000 in
theorem tm_Al_init (zz : Nat × Nat) : mx_All (fun _ o => mx_Mono o) (t_Al_init zz) := by
  refine mx_all_cons (mo_st) ?_
  refine mx_all_cons (mo_call (sm_Abl_init zz)) ?_
  refine mx_all_cons (mo_st) ?_
  refine mx_all_cons (mo_st) ?_
  refine mx_all_cons (mo_sc) ?_
  refine mx_all_cons (mo_ret) ?_
  exact mx_all_nil
def S_Al_init (zz : Nat × Nat) : mx_Sp := mx_S 1 0 0 (t_Al_init zz)
theorem sm_Al_init (zz : Nat × Nat) : mx_SMono (S_Al_init zz) := mx_S_mono (tm_Al_init zz)
abbrev rm_Al_init : Room := { frames := 3, cells := 0, slots := 0, locals := 60 }
set_option maxHeartbeats 4000000 in
set_option maxRecDepth 100000 in
theorem m_Al_init (l : Launch) (zz : Nat × Nat) : mx_Met l y_Al_init (wsOf y_Al_init c_Al_init 1 none) rm_Al_init wcl (mx_Z zz) 0 0 (S_Al_init zz) := by
  refine mx_met (cc := c_Al_init) (ret := none) (by decide) rfl ?_
  intro p e s m args below meth c D A Post X hz hr hlk hnm
  have hm : ∀ w ∈ mw, w.before args s = true := fun w h => X.1.2.2.2.2 w (List.mem_cons_of_mem _ h)
  refine mx_all_cons (ok_aload (fun hl kk => lv_aload_n X.1.1 X.1.2.1 d_Al_init_0 rfl hl kk) (fun hl kk => lv_aload_nN X.1.1 X.1.2.1 d_Al_init_0 rfl hl kk)) ?_
  refine mx_all_cons (ok_callI X (mx_Zok_Z zz) hz ⟨(Nat.le_of_ble_eq_true rfl), (Nat.le_of_ble_eq_true rfl)⟩ (m_Abl_init l zz) ⟨mx_cwB 0 hm w67 w65 w35 rfl rfl (by decide +kernel) ⟨(Nat.le_of_ble_eq_true rfl), (Nat.le_of_ble_eq_true rfl)⟩, rfl, (hm _ w66)⟩ d_Al_init_1) ?_
  refine mx_all_cons (ok_aload (fun hl kk => lv_aload_n X.1.1 X.1.2.1 d_Al_init_4 rfl hl kk) (fun hl kk => lv_aload_nN X.1.1 X.1.2.1 d_Al_init_4 rfl hl kk)) ?_
  refine mx_all_cons (ok_gets X hz.1 (hm _ w72) (fun _ h9 => h9) d_Al_init_5) ?_
  refine mx_all_cons (ok_put (C := "java/util/ArrayList") (T := T_Al) (N := 3) X (mw_up in_Al) ty_Al tyok_Al nm_Al rfl 1 (by decide) (hm _ w74) (fun _ h9 => h9) rfl (tyok_Al 1 (by decide)) mx_vA_okR d_Al_init_8) ?_
  refine mx_all_cons (ok_vret X hr hlk d_Al_init_11) ?_
  exact mx_all_nil
theorem st_Al_init_0 (zz : Nat × Nat) (r : mx_T) (ls : mx_L) (st : List Value) (h : mx_H) (c n : Nat) : mx_G r (t_Al_init zz) 0 ls st h c n = (o_aload 1 0) r (mx_G r (t_Al_init zz)) 0 ls st h c n := mx_G_eq (tm_Al_init zz) r 0 ls st h c n
theorem st_Al_init_1 (zz : Nat × Nat) (r : mx_T) (ls : mx_L) (st : List Value) (h : mx_H) (c n : Nat) : mx_G r (t_Al_init zz) 1 ls st h c n = (o_call 0 0 1 0 0 mx_rr (S_Abl_init zz)) r (mx_G r (t_Al_init zz)) 1 ls st h c n := mx_G_eq (tm_Al_init zz) r 1 ls st h c n
theorem st_Al_init_4 (zz : Nat × Nat) (r : mx_T) (ls : mx_L) (st : List Value) (h : mx_H) (c n : Nat) : mx_G r (t_Al_init zz) 4 ls st h c n = (o_aload 1 0) r (mx_G r (t_Al_init zz)) 4 ls st h c n := mx_G_eq (tm_Al_init zz) r 4 ls st h c n
theorem st_Al_init_5 (zz : Nat × Nat) (r : mx_T) (ls : mx_L) (st : List Value) (h : mx_H) (c n : Nat) : mx_G r (t_Al_init zz) 5 ls st h c n = (o_push 3 (.ref zz.1)) r (mx_G r (t_Al_init zz)) 5 ls st h c n := mx_G_eq (tm_Al_init zz) r 5 ls st h c n
theorem st_Al_init_8 (zz : Nat × Nat) (r : mx_T) (ls : mx_L) (st : List Value) (h : mx_H) (c n : Nat) : mx_G r (t_Al_init zz) 8 ls st h c n = (o_put 9 1 mx_vA) r (mx_G r (t_Al_init zz)) 8 ls st h c n := mx_G_eq (tm_Al_init zz) r 8 ls st h c n
theorem st_Al_init_11 (zz : Nat × Nat) (r : mx_T) (ls : mx_L) (st : List Value) (h : mx_H) (c n : Nat) : mx_G r (t_Al_init zz) 11 ls st h c n = (o_vret) r (mx_G r (t_Al_init zz)) 11 ls st h c n := mx_G_eq (tm_Al_init zz) r 11 ls st h c n
theorem d_Tb_init_0 : decode c_Tb_init 0 = .ok (.aload_n 0, 1) := by decide +kernel
theorem d_Tb_init_1 : decode c_Tb_init 1 = .ok (.invokespecial 3, 3) := by decide +kernel
theorem d_Tb_init_4 : decode c_Tb_init 4 = .ok (.aload_n 0, 1) := by decide +kernel
theorem d_Tb_init_5 : decode c_Tb_init 5 = .ok (.new 9, 3) := by decide +kernel
theorem d_Tb_init_8 : decode c_Tb_init 8 = .ok (.dup, 1) := by decide +kernel
theorem d_Tb_init_9 : decode c_Tb_init 9 = .ok (.invokespecial 11, 3) := by decide +kernel
theorem d_Tb_init_12 : decode c_Tb_init 12 = .ok (.putfield 12, 3) := by decide +kernel
theorem d_Tb_init_15 : decode c_Tb_init 15 = .ok (.return_, 1) := by decide +kernel
def t_Tb_init (zz : Nat × Nat) : List (Nat × mx_O) := [(0, o_aload 1 0),
  (1, o_objinit),
  (4, o_aload 1 0),
  (5, o_new 1 3 9 3 [.int 0, .null, .int 0]),
  (8, o_dup),
  (9, o_call 1 3 1 0 0 mx_rr (S_Al_init zz)),
  (12, o_put 6 0 mx_vA),
  (15, o_vret)]
set_option maxRecDepth 100000 in
theorem tm_Tb_init (zz : Nat × Nat) : mx_All (fun _ o => mx_Mono o) (t_Tb_init zz) := by
  refine mx_all_cons (mo_st) ?_
  refine mx_all_cons (mo_sc) ?_
  refine mx_all_cons (mo_st) ?_
  refine mx_all_cons (mo_al) ?_
  refine mx_all_cons (mo_st) ?_
  refine mx_all_cons (mo_call (sm_Al_init zz)) ?_
  refine mx_all_cons (mo_sc) ?_
  refine mx_all_cons (mo_ret) ?_
  exact mx_all_nil
def S_Tb_init (zz : Nat × Nat) : mx_Sp := mx_S 1 1 3 (t_Tb_init zz)
theorem sm_Tb_init (zz : Nat × Nat) : mx_SMono (S_Tb_init zz) := mx_S_mono (tm_Tb_init zz)
abbrev rm_Tb_init : Room := { frames := 4, cells := 1, slots := 3, locals := 80 }
set_option maxHeartbeats 4000000 in
set_option maxRecDepth 100000 in
theorem m_Tb_init (l : Launch) (zz : Nat × Nat) : mx_Met l y_Tb_init (wsOf y_Tb_init c_Tb_init 1 none) rm_Tb_init wcl (mx_Z zz) 1 3 (S_Tb_init zz) := by
  refine mx_met (cc := c_Tb_init) (ret := none) (by decide) rfl ?_
  intro p e s m args below meth c D A Post X hz hr hlk hnm
  have hm : ∀ w ∈ mw, w.before args s = true := fun w h => X.1.2.2.2.2 w (List.mem_cons_of_mem _ h)
  refine mx_all_cons (ok_aload (fun hl kk => lv_aload_n X.1.1 X.1.2.1 d_Tb_init_0 rfl hl kk) (fun hl kk => lv_aload_nN X.1.1 X.1.2.1 d_Tb_init_0 rfl hl kk)) ?_
  refine mx_all_cons (ok_objinit X ⟨(Nat.le_of_ble_eq_true rfl), (Nat.le_of_ble_eq_true rfl)⟩ (hm _ w98) (hm _ w58) (hm _ w_oic) d_Tb_init_1) ?_
  refine mx_all_cons (ok_aload (fun hl kk => lv_aload_n X.1.1 X.1.2.1 d_Tb_init_4 rfl hl kk) (fun hl kk => lv_aload_nN X.1.1 X.1.2.1 d_Tb_init_4 rfl hl kk)) ?_
  refine mx_all_cons (ok_new (C := "java/util/ArrayList") (T := T_Al) X ⟨(Nat.le_of_ble_eq_true rfl), (Nat.le_of_ble_eq_true rfl)⟩ (mw_up in_Al) ty_Al tyok_Al rfl (hm _ w99) (hm _ w61) (hm _ w36) (by decide) d_Tb_init_5) ?_
  refine mx_all_cons (ok_dup X d_Tb_init_8) ?_
  refine mx_all_cons (ok_callI X (mx_Zok_Z zz) hz ⟨(Nat.le_of_ble_eq_true rfl), (Nat.le_of_ble_eq_true rfl)⟩ (m_Al_init l zz) ⟨mx_cwB 0 hm w64 w100 w36 rfl rfl (by decide +kernel) ⟨(Nat.le_of_ble_eq_true rfl), (Nat.le_of_ble_eq_true rfl)⟩, rfl, (hm _ w63)⟩ d_Tb_init_9) ?_
  refine mx_all_cons (ok_putF (C := "HeaderSchedule$Table") (T := T_Tb) (N := 1) X (mw_up in_Tb) ty_Tb tyok_Tb nm_Tb rfl 0 (by decide) (hm _ w101) (fun _ h9 => h9) rfl hnm rfl (tyok_Tb 0 (by decide)) mx_vA_ok d_Tb_init_12) ?_
  refine mx_all_cons (ok_vret X hr hlk d_Tb_init_15) ?_
  exact mx_all_nil
theorem st_Tb_init_0 (zz : Nat × Nat) (r : mx_T) (ls : mx_L) (st : List Value) (h : mx_H) (c n : Nat) : mx_G r (t_Tb_init zz) 0 ls st h c n = (o_aload 1 0) r (mx_G r (t_Tb_init zz)) 0 ls st h c n := mx_G_eq (tm_Tb_init zz) r 0 ls st h c n
theorem st_Tb_init_1 (zz : Nat × Nat) (r : mx_T) (ls : mx_L) (st : List Value) (h : mx_H) (c n : Nat) : mx_G r (t_Tb_init zz) 1 ls st h c n = (o_objinit) r (mx_G r (t_Tb_init zz)) 1 ls st h c n := mx_G_eq (tm_Tb_init zz) r 1 ls st h c n
theorem st_Tb_init_4 (zz : Nat × Nat) (r : mx_T) (ls : mx_L) (st : List Value) (h : mx_H) (c n : Nat) : mx_G r (t_Tb_init zz) 4 ls st h c n = (o_aload 1 0) r (mx_G r (t_Tb_init zz)) 4 ls st h c n := mx_G_eq (tm_Tb_init zz) r 4 ls st h c n
theorem st_Tb_init_5 (zz : Nat × Nat) (r : mx_T) (ls : mx_L) (st : List Value) (h : mx_H) (c n : Nat) : mx_G r (t_Tb_init zz) 5 ls st h c n = (o_new 1 3 9 3 [.int 0, .null, .int 0]) r (mx_G r (t_Tb_init zz)) 5 ls st h c n := mx_G_eq (tm_Tb_init zz) r 5 ls st h c n
theorem st_Tb_init_8 (zz : Nat × Nat) (r : mx_T) (ls : mx_L) (st : List Value) (h : mx_H) (c n : Nat) : mx_G r (t_Tb_init zz) 8 ls st h c n = (o_dup) r (mx_G r (t_Tb_init zz)) 8 ls st h c n := mx_G_eq (tm_Tb_init zz) r 8 ls st h c n
theorem st_Tb_init_9 (zz : Nat × Nat) (r : mx_T) (ls : mx_L) (st : List Value) (h : mx_H) (c n : Nat) : mx_G r (t_Tb_init zz) 9 ls st h c n = (o_call 1 3 1 0 0 mx_rr (S_Al_init zz)) r (mx_G r (t_Tb_init zz)) 9 ls st h c n := mx_G_eq (tm_Tb_init zz) r 9 ls st h c n
theorem st_Tb_init_12 (zz : Nat × Nat) (r : mx_T) (ls : mx_L) (st : List Value) (h : mx_H) (c n : Nat) : mx_G r (t_Tb_init zz) 12 ls st h c n = (o_put 6 0 mx_vA) r (mx_G r (t_Tb_init zz)) 12 ls st h c n := mx_G_eq (tm_Tb_init zz) r 12 ls st h c n
theorem st_Tb_init_15 (zz : Nat × Nat) (r : mx_T) (ls : mx_L) (st : List Value) (h : mx_H) (c n : Nat) : mx_G r (t_Tb_init zz) 15 ls st h c n = (o_vret) r (mx_G r (t_Tb_init zz)) 15 ls st h c n := mx_G_eq (tm_Tb_init zz) r 15 ls st h c n
theorem d_Sc_init_0 : decode c_Sc_init 0 = .ok (.aload_n 0, 1) := by decide +kernel
theorem d_Sc_init_1 : decode c_Sc_init 1 = .ok (.invokespecial 3, 3) := by decide +kernel
theorem d_Sc_init_4 : decode c_Sc_init 4 = .ok (.aload_n 0, 1) := by decide +kernel
theorem d_Sc_init_5 : decode c_Sc_init 5 = .ok (.iconst 3, 1) := by decide +kernel
theorem d_Sc_init_6 : decode c_Sc_init 6 = .ok (.anewarray 9, 3) := by decide +kernel
theorem d_Sc_init_9 : decode c_Sc_init 9 = .ok (.dup, 1) := by decide +kernel
theorem d_Sc_init_10 : decode c_Sc_init 10 = .ok (.iconst 0, 1) := by decide +kernel
theorem d_Sc_init_11 : decode c_Sc_init 11 = .ok (.new 9, 3) := by decide +kernel
theorem d_Sc_init_14 : decode c_Sc_init 14 = .ok (.dup, 1) := by decide +kernel
theorem d_Sc_init_15 : decode c_Sc_init 15 = .ok (.invokespecial 11, 3) := by decide +kernel
theorem d_Sc_init_18 : decode c_Sc_init 18 = .ok (.aastore, 1) := by decide +kernel
theorem d_Sc_init_19 : decode c_Sc_init 19 = .ok (.dup, 1) := by decide +kernel
theorem d_Sc_init_20 : decode c_Sc_init 20 = .ok (.iconst 1, 1) := by decide +kernel
theorem d_Sc_init_21 : decode c_Sc_init 21 = .ok (.new 9, 3) := by decide +kernel
theorem d_Sc_init_24 : decode c_Sc_init 24 = .ok (.dup, 1) := by decide +kernel
theorem d_Sc_init_25 : decode c_Sc_init 25 = .ok (.invokespecial 11, 3) := by decide +kernel
theorem d_Sc_init_28 : decode c_Sc_init 28 = .ok (.aastore, 1) := by decide +kernel
theorem d_Sc_init_29 : decode c_Sc_init 29 = .ok (.dup, 1) := by decide +kernel
theorem d_Sc_init_30 : decode c_Sc_init 30 = .ok (.iconst 2, 1) := by decide +kernel
theorem d_Sc_init_31 : decode c_Sc_init 31 = .ok (.new 9, 3) := by decide +kernel
theorem d_Sc_init_34 : decode c_Sc_init 34 = .ok (.dup, 1) := by decide +kernel
theorem d_Sc_init_35 : decode c_Sc_init 35 = .ok (.invokespecial 11, 3) := by decide +kernel
theorem d_Sc_init_38 : decode c_Sc_init 38 = .ok (.aastore, 1) := by decide +kernel
theorem d_Sc_init_39 : decode c_Sc_init 39 = .ok (.putfield 12, 3) := by decide +kernel
theorem d_Sc_init_42 : decode c_Sc_init 42 = .ok (.aload_n 0, 1) := by decide +kernel
theorem d_Sc_init_43 : decode c_Sc_init 43 = .ok (.iconst 0, 1) := by decide +kernel
theorem d_Sc_init_44 : decode c_Sc_init 44 = .ok (.putfield 18, 3) := by decide +kernel
theorem d_Sc_init_47 : decode c_Sc_init 47 = .ok (.aload_n 0, 1) := by decide +kernel
theorem d_Sc_init_48 : decode c_Sc_init 48 = .ok (.iconst 0, 1) := by decide +kernel
theorem d_Sc_init_49 : decode c_Sc_init 49 = .ok (.putfield 22, 3) := by decide +kernel
theorem d_Sc_init_52 : decode c_Sc_init 52 = .ok (.aload_n 0, 1) := by decide +kernel
theorem d_Sc_init_53 : decode c_Sc_init 53 = .ok (.iconst 0, 1) := by decide +kernel
theorem d_Sc_init_54 : decode c_Sc_init 54 = .ok (.putfield 25, 3) := by decide +kernel
theorem d_Sc_init_57 : decode c_Sc_init 57 = .ok (.aload_n 0, 1) := by decide +kernel
theorem d_Sc_init_58 : decode c_Sc_init 58 = .ok (.iconst 0, 1) := by decide +kernel
theorem d_Sc_init_59 : decode c_Sc_init 59 = .ok (.putfield 29, 3) := by decide +kernel
theorem d_Sc_init_62 : decode c_Sc_init 62 = .ok (.aload_n 0, 1) := by decide +kernel
theorem d_Sc_init_63 : decode c_Sc_init 63 = .ok (.iconst 0, 1) := by decide +kernel
theorem d_Sc_init_64 : decode c_Sc_init 64 = .ok (.putfield 32, 3) := by decide +kernel
theorem d_Sc_init_67 : decode c_Sc_init 67 = .ok (.aload_n 0, 1) := by decide +kernel
theorem d_Sc_init_68 : decode c_Sc_init 68 = .ok (.iconst (-1), 1) := by decide +kernel
theorem d_Sc_init_69 : decode c_Sc_init 69 = .ok (.putfield 35, 3) := by decide +kernel
theorem d_Sc_init_72 : decode c_Sc_init 72 = .ok (.aload_n 0, 1) := by decide +kernel
theorem d_Sc_init_73 : decode c_Sc_init 73 = .ok (.iconst (-1), 1) := by decide +kernel
theorem d_Sc_init_74 : decode c_Sc_init 74 = .ok (.putfield 38, 3) := by decide +kernel
theorem d_Sc_init_77 : decode c_Sc_init 77 = .ok (.return_, 1) := by decide +kernel
def t_Sc_init (zz : Nat × Nat) : List (Nat × mx_O) := [(0, o_aload 1 0),
  (1, o_objinit),
  (4, o_aload 1 0),
  (5, o_push 1 (.int 3)),
  (6, o_newq 7 15 "HeaderSchedule$Table"),
  (9, o_dup),
  (10, o_push 1 (.int 0)),
  (11, o_new 7 15 6 1 [.null]),
  (14, o_dup),
  (15, o_call 7 15 1 1 3 mx_rr (S_Tb_init zz)),
  (18, o_aast "HeaderSchedule$Table" [6]),
  (19, o_dup),
  (20, o_push 1 (.int 1)),
  (21, o_new 7 15 6 1 [.null]),
  (24, o_dup),
  (25, o_call 7 15 1 1 3 mx_rr (S_Tb_init zz)),
  (28, o_aast "HeaderSchedule$Table" [6]),
  (29, o_dup),
  (30, o_push 1 (.int 2)),
  (31, o_new 7 15 6 1 [.null]),
  (34, o_dup),
  (35, o_call 7 15 1 1 3 mx_rr (S_Tb_init zz)),
  (38, o_aast "HeaderSchedule$Table" [6]),
  (39, o_put 7 0 mx_vA),
  (42, o_aload 1 0),
  (43, o_push 1 (.int 0)),
  (44, o_put 7 1 mx_vI),
  (47, o_aload 1 0),
  (48, o_push 1 (.int 0)),
  (49, o_put 7 2 mx_vI),
  (52, o_aload 1 0),
  (53, o_push 1 (.int 0)),
  (54, o_put 7 3 mx_vZ),
  (57, o_aload 1 0),
  (58, o_push 1 (.int 0)),
  (59, o_put 7 4 mx_vI),
  (62, o_aload 1 0),
  (63, o_push 1 (.int 0)),
  (64, o_put 7 5 mx_vI),
  (67, o_aload 1 0),
  (68, o_push 1 (.int (-1))),
  (69, o_put 7 6 mx_vI),
  (72, o_aload 1 0),
  (73, o_push 1 (.int (-1))),
  (74, o_put 7 7 mx_vI),
  (77, o_vret)]
set_option maxRecDepth 100000 in
theorem tm_Sc_init (zz : Nat × Nat) : mx_All (fun _ o => mx_Mono o) (t_Sc_init zz) := by
  refine mx_all_cons (mo_st) ?_
  refine mx_all_cons (mo_sc) ?_
  refine mx_all_cons (mo_st) ?_
  refine mx_all_cons (mo_st) ?_
  refine mx_all_cons (mo_al) ?_
  refine mx_all_cons (mo_st) ?_
  refine mx_all_cons (mo_st) ?_
  refine mx_all_cons (mo_al) ?_
  refine mx_all_cons (mo_st) ?_
  refine mx_all_cons (mo_call (sm_Tb_init zz)) ?_
  refine mx_all_cons (mo_sc) ?_
  refine mx_all_cons (mo_st) ?_
  refine mx_all_cons (mo_st) ?_
  refine mx_all_cons (mo_al) ?_
  refine mx_all_cons (mo_st) ?_
  refine mx_all_cons (mo_call (sm_Tb_init zz)) ?_
  refine mx_all_cons (mo_sc) ?_
  refine mx_all_cons (mo_st) ?_
  refine mx_all_cons (mo_st) ?_
  refine mx_all_cons (mo_al) ?_
  refine mx_all_cons (mo_st) ?_
  refine mx_all_cons (mo_call (sm_Tb_init zz)) ?_
  refine mx_all_cons (mo_sc) ?_
  refine mx_all_cons (mo_sc) ?_
  refine mx_all_cons (mo_st) ?_
  refine mx_all_cons (mo_st) ?_
  refine mx_all_cons (mo_sc) ?_
  refine mx_all_cons (mo_st) ?_
  refine mx_all_cons (mo_st) ?_
  refine mx_all_cons (mo_sc) ?_
  refine mx_all_cons (mo_st) ?_
  refine mx_all_cons (mo_st) ?_
  refine mx_all_cons (mo_sc) ?_
  refine mx_all_cons (mo_st) ?_
  refine mx_all_cons (mo_st) ?_
  refine mx_all_cons (mo_sc) ?_
  refine mx_all_cons (mo_st) ?_
  refine mx_all_cons (mo_st) ?_
  refine mx_all_cons (mo_sc) ?_
  refine mx_all_cons (mo_st) ?_
  refine mx_all_cons (mo_st) ?_
  refine mx_all_cons (mo_sc) ?_
  refine mx_all_cons (mo_st) ?_
  refine mx_all_cons (mo_st) ?_
  refine mx_all_cons (mo_sc) ?_
  refine mx_all_cons (mo_ret) ?_
  exact mx_all_nil
def S_Sc_init (zz : Nat × Nat) : mx_Sp := mx_S 1 7 15 (t_Sc_init zz)
theorem sm_Sc_init (zz : Nat × Nat) : mx_SMono (S_Sc_init zz) := mx_S_mono (tm_Sc_init zz)
abbrev rm_Sc_init : Room := { frames := 5, cells := 7, slots := 15, locals := 100 }
set_option maxHeartbeats 4000000 in
set_option maxRecDepth 100000 in
theorem m_Sc_init (l : Launch) (zz : Nat × Nat) : mx_Met l y_Sc_init (wsOf y_Sc_init c_Sc_init 1 none) rm_Sc_init wcl (mx_Z zz) 7 15 (S_Sc_init zz) := by
  refine mx_met (cc := c_Sc_init) (ret := none) (by decide) rfl ?_
  intro p e s m args below meth c D A Post X hz hr hlk hnm
  have hm : ∀ w ∈ mw, w.before args s = true := fun w h => X.1.2.2.2.2 w (List.mem_cons_of_mem _ h)
  refine mx_all_cons (ok_aload (fun hl kk => lv_aload_n X.1.1 X.1.2.1 d_Sc_init_0 rfl hl kk) (fun hl kk => lv_aload_nN X.1.1 X.1.2.1 d_Sc_init_0 rfl hl kk)) ?_
  refine mx_all_cons (ok_objinit X ⟨(Nat.le_of_ble_eq_true rfl), (Nat.le_of_ble_eq_true rfl)⟩ (hm _ w91) (hm _ w58) (hm _ w_oic) d_Sc_init_1) ?_
  refine mx_all_cons (ok_aload (fun hl kk => lv_aload_n X.1.1 X.1.2.1 d_Sc_init_4 rfl hl kk) (fun hl kk => lv_aload_nN X.1.1 X.1.2.1 d_Sc_init_4 rfl hl kk)) ?_
  refine mx_all_cons (ok_push (fun kk => lv_iconst X.1.1 X.1.2.1 d_Sc_init_5 (by decide) kk)) ?_
  refine mx_all_cons (ok_newq X ⟨(Nat.le_of_ble_eq_true rfl), (Nat.le_of_ble_eq_true rfl)⟩ (hm _ w92) (hz.2.2.2.1 "HeaderSchedule$Table" (by decide +kernel)) d_Sc_init_6) ?_
  refine mx_all_cons (ok_dup X d_Sc_init_9) ?_
  refine mx_all_cons (ok_push (fun kk => lv_iconst X.1.1 X.1.2.1 d_Sc_init_10 (by decide) kk)) ?_
  refine mx_all_cons (ok_new (C := "HeaderSchedule$Table") (T := T_Tb) X ⟨(Nat.le_of_ble_eq_true rfl), (Nat.le_of_ble_eq_true rfl)⟩ (mw_up in_Tb) ty_Tb tyok_Tb rfl (hm _ w92) (hm _ w94) (hm _ w38) (by decide) d_Sc_init_11) ?_
  refine mx_all_cons (ok_dup X d_Sc_init_14) ?_
  refine mx_all_cons (ok_callIN X (mx_Zok_Z zz) hz ⟨(Nat.le_of_ble_eq_true rfl), (Nat.le_of_ble_eq_true rfl)⟩ (m_Tb_init l zz) ⟨mx_cnB 0 hm w97 (hz.2.2.1 (.methodLinkNest "HeaderSchedule$Schedule" 11 y_Tb_init "HeaderSchedule") (by decide +kernel)) w38 rfl rfl (by decide +kernel) ⟨(Nat.le_of_ble_eq_true rfl), (Nat.le_of_ble_eq_true rfl)⟩, rfl, (hm _ w96)⟩ d_Sc_init_15) ?_
  refine mx_all_cons (ok_aast X asg_Tb d_Sc_init_18) ?_
  refine mx_all_cons (ok_dup X d_Sc_init_19) ?_
  refine mx_all_cons (ok_push (fun kk => lv_iconst X.1.1 X.1.2.1 d_Sc_init_20 (by decide) kk)) ?_
  refine mx_all_cons (ok_new (C := "HeaderSchedule$Table") (T := T_Tb) X ⟨(Nat.le_of_ble_eq_true rfl), (Nat.le_of_ble_eq_true rfl)⟩ (mw_up in_Tb) ty_Tb tyok_Tb rfl (hm _ w92) (hm _ w94) (hm _ w38) (by decide) d_Sc_init_21) ?_
  refine mx_all_cons (ok_dup X d_Sc_init_24) ?_
  refine mx_all_cons (ok_callIN X (mx_Zok_Z zz) hz ⟨(Nat.le_of_ble_eq_true rfl), (Nat.le_of_ble_eq_true rfl)⟩ (m_Tb_init l zz) ⟨mx_cnB 0 hm w97 (hz.2.2.1 (.methodLinkNest "HeaderSchedule$Schedule" 11 y_Tb_init "HeaderSchedule") (by decide +kernel)) w38 rfl rfl (by decide +kernel) ⟨(Nat.le_of_ble_eq_true rfl), (Nat.le_of_ble_eq_true rfl)⟩, rfl, (hm _ w96)⟩ d_Sc_init_25) ?_
  refine mx_all_cons (ok_aast X asg_Tb d_Sc_init_28) ?_
  refine mx_all_cons (ok_dup X d_Sc_init_29) ?_
  refine mx_all_cons (ok_push (fun kk => lv_iconst X.1.1 X.1.2.1 d_Sc_init_30 (by decide) kk)) ?_
  refine mx_all_cons (ok_new (C := "HeaderSchedule$Table") (T := T_Tb) X ⟨(Nat.le_of_ble_eq_true rfl), (Nat.le_of_ble_eq_true rfl)⟩ (mw_up in_Tb) ty_Tb tyok_Tb rfl (hm _ w92) (hm _ w94) (hm _ w38) (by decide) d_Sc_init_31) ?_
  refine mx_all_cons (ok_dup X d_Sc_init_34) ?_
  refine mx_all_cons (ok_callIN X (mx_Zok_Z zz) hz ⟨(Nat.le_of_ble_eq_true rfl), (Nat.le_of_ble_eq_true rfl)⟩ (m_Tb_init l zz) ⟨mx_cnB 0 hm w97 (hz.2.2.1 (.methodLinkNest "HeaderSchedule$Schedule" 11 y_Tb_init "HeaderSchedule") (by decide +kernel)) w38 rfl rfl (by decide +kernel) ⟨(Nat.le_of_ble_eq_true rfl), (Nat.le_of_ble_eq_true rfl)⟩, rfl, (hm _ w96)⟩ d_Sc_init_35) ?_
  refine mx_all_cons (ok_aast X asg_Tb d_Sc_init_38) ?_
  refine mx_all_cons (ok_putF (C := "HeaderSchedule$Schedule") (T := T_Sc) (N := 8) X (mw_up in_Sc) ty_Sc tyok_Sc nm_Sc rfl 0 (by decide) (hm _ w108) (fun _ h9 => h9) rfl hnm rfl (tyok_Sc 0 (by decide)) mx_vA_okR d_Sc_init_39) ?_
  refine mx_all_cons (ok_aload (fun hl kk => lv_aload_n X.1.1 X.1.2.1 d_Sc_init_42 rfl hl kk) (fun hl kk => lv_aload_nN X.1.1 X.1.2.1 d_Sc_init_42 rfl hl kk)) ?_
  refine mx_all_cons (ok_push (fun kk => lv_iconst X.1.1 X.1.2.1 d_Sc_init_43 (by decide) kk)) ?_
  refine mx_all_cons (ok_put (C := "HeaderSchedule$Schedule") (T := T_Sc) (N := 8) X (mw_up in_Sc) ty_Sc tyok_Sc nm_Sc rfl 1 (by decide) (hm _ w110) (fun _ h9 => h9) rfl (tyok_Sc 1 (by decide)) mx_vI_ok d_Sc_init_44) ?_
  refine mx_all_cons (ok_aload (fun hl kk => lv_aload_n X.1.1 X.1.2.1 d_Sc_init_47 rfl hl kk) (fun hl kk => lv_aload_nN X.1.1 X.1.2.1 d_Sc_init_47 rfl hl kk)) ?_
  refine mx_all_cons (ok_push (fun kk => lv_iconst X.1.1 X.1.2.1 d_Sc_init_48 (by decide) kk)) ?_
  refine mx_all_cons (ok_put (C := "HeaderSchedule$Schedule") (T := T_Sc) (N := 8) X (mw_up in_Sc) ty_Sc tyok_Sc nm_Sc rfl 2 (by decide) (hm _ w111) (fun _ h9 => h9) rfl (tyok_Sc 2 (by decide)) mx_vI_ok d_Sc_init_49) ?_
  refine mx_all_cons (ok_aload (fun hl kk => lv_aload_n X.1.1 X.1.2.1 d_Sc_init_52 rfl hl kk) (fun hl kk => lv_aload_nN X.1.1 X.1.2.1 d_Sc_init_52 rfl hl kk)) ?_
  refine mx_all_cons (ok_push (fun kk => lv_iconst X.1.1 X.1.2.1 d_Sc_init_53 (by decide) kk)) ?_
  refine mx_all_cons (ok_put (C := "HeaderSchedule$Schedule") (T := T_Sc) (N := 8) X (mw_up in_Sc) ty_Sc tyok_Sc nm_Sc rfl 3 (by decide) (hm _ w112) (fun _ h9 => h9) rfl (tyok_Sc 3 (by decide)) mx_vZ_ok d_Sc_init_54) ?_
  refine mx_all_cons (ok_aload (fun hl kk => lv_aload_n X.1.1 X.1.2.1 d_Sc_init_57 rfl hl kk) (fun hl kk => lv_aload_nN X.1.1 X.1.2.1 d_Sc_init_57 rfl hl kk)) ?_
  refine mx_all_cons (ok_push (fun kk => lv_iconst X.1.1 X.1.2.1 d_Sc_init_58 (by decide) kk)) ?_
  refine mx_all_cons (ok_put (C := "HeaderSchedule$Schedule") (T := T_Sc) (N := 8) X (mw_up in_Sc) ty_Sc tyok_Sc nm_Sc rfl 4 (by decide) (hm _ w113) (fun _ h9 => h9) rfl (tyok_Sc 4 (by decide)) mx_vI_ok d_Sc_init_59) ?_
  refine mx_all_cons (ok_aload (fun hl kk => lv_aload_n X.1.1 X.1.2.1 d_Sc_init_62 rfl hl kk) (fun hl kk => lv_aload_nN X.1.1 X.1.2.1 d_Sc_init_62 rfl hl kk)) ?_
  refine mx_all_cons (ok_push (fun kk => lv_iconst X.1.1 X.1.2.1 d_Sc_init_63 (by decide) kk)) ?_
  refine mx_all_cons (ok_put (C := "HeaderSchedule$Schedule") (T := T_Sc) (N := 8) X (mw_up in_Sc) ty_Sc tyok_Sc nm_Sc rfl 5 (by decide) (hm _ w114) (fun _ h9 => h9) rfl (tyok_Sc 5 (by decide)) mx_vI_ok d_Sc_init_64) ?_
  refine mx_all_cons (ok_aload (fun hl kk => lv_aload_n X.1.1 X.1.2.1 d_Sc_init_67 rfl hl kk) (fun hl kk => lv_aload_nN X.1.1 X.1.2.1 d_Sc_init_67 rfl hl kk)) ?_
  refine mx_all_cons (ok_push (fun kk => lv_iconst X.1.1 X.1.2.1 d_Sc_init_68 (by decide) kk)) ?_
  refine mx_all_cons (ok_put (C := "HeaderSchedule$Schedule") (T := T_Sc) (N := 8) X (mw_up in_Sc) ty_Sc tyok_Sc nm_Sc rfl 6 (by decide) (hm _ w115) (fun _ h9 => h9) rfl (tyok_Sc 6 (by decide)) mx_vI_ok d_Sc_init_69) ?_
  refine mx_all_cons (ok_aload (fun hl kk => lv_aload_n X.1.1 X.1.2.1 d_Sc_init_72 rfl hl kk) (fun hl kk => lv_aload_nN X.1.1 X.1.2.1 d_Sc_init_72 rfl hl kk)) ?_
  refine mx_all_cons (ok_push (fun kk => lv_iconst X.1.1 X.1.2.1 d_Sc_init_73 (by decide) kk)) ?_
  refine mx_all_cons (ok_put (C := "HeaderSchedule$Schedule") (T := T_Sc) (N := 8) X (mw_up in_Sc) ty_Sc tyok_Sc nm_Sc rfl 7 (by decide) (hm _ w117) (fun _ h9 => h9) rfl (tyok_Sc 7 (by decide)) mx_vI_ok d_Sc_init_74) ?_
  refine mx_all_cons (ok_vret X hr hlk d_Sc_init_77) ?_
  exact mx_all_nil
theorem st_Sc_init_0 (zz : Nat × Nat) (r : mx_T) (ls : mx_L) (st : List Value) (h : mx_H) (c n : Nat) : mx_G r (t_Sc_init zz) 0 ls st h c n = (o_aload 1 0) r (mx_G r (t_Sc_init zz)) 0 ls st h c n := mx_G_eq (tm_Sc_init zz) r 0 ls st h c n
theorem st_Sc_init_1 (zz : Nat × Nat) (r : mx_T) (ls : mx_L) (st : List Value) (h : mx_H) (c n : Nat) : mx_G r (t_Sc_init zz) 1 ls st h c n = (o_objinit) r (mx_G r (t_Sc_init zz)) 1 ls st h c n := mx_G_eq (tm_Sc_init zz) r 1 ls st h c n
theorem st_Sc_init_4 (zz : Nat × Nat) (r : mx_T) (ls : mx_L) (st : List Value) (h : mx_H) (c n : Nat) : mx_G r (t_Sc_init zz) 4 ls st h c n = (o_aload 1 0) r (mx_G r (t_Sc_init zz)) 4 ls st h c n := mx_G_eq (tm_Sc_init zz) r 4 ls st h c n
theorem st_Sc_init_5 (zz : Nat × Nat) (r : mx_T) (ls : mx_L) (st : List Value) (h : mx_H) (c n : Nat) : mx_G r (t_Sc_init zz) 5 ls st h c n = (o_push 1 (.int 3)) r (mx_G r (t_Sc_init zz)) 5 ls st h c n := mx_G_eq (tm_Sc_init zz) r 5 ls st h c n
theorem st_Sc_init_6 (zz : Nat × Nat) (r : mx_T) (ls : mx_L) (st : List Value) (h : mx_H) (c n : Nat) : mx_G r (t_Sc_init zz) 6 ls st h c n = (o_newq 7 15 "HeaderSchedule$Table") r (mx_G r (t_Sc_init zz)) 6 ls st h c n := mx_G_eq (tm_Sc_init zz) r 6 ls st h c n
theorem st_Sc_init_9 (zz : Nat × Nat) (r : mx_T) (ls : mx_L) (st : List Value) (h : mx_H) (c n : Nat) : mx_G r (t_Sc_init zz) 9 ls st h c n = (o_dup) r (mx_G r (t_Sc_init zz)) 9 ls st h c n := mx_G_eq (tm_Sc_init zz) r 9 ls st h c n
theorem st_Sc_init_10 (zz : Nat × Nat) (r : mx_T) (ls : mx_L) (st : List Value) (h : mx_H) (c n : Nat) : mx_G r (t_Sc_init zz) 10 ls st h c n = (o_push 1 (.int 0)) r (mx_G r (t_Sc_init zz)) 10 ls st h c n := mx_G_eq (tm_Sc_init zz) r 10 ls st h c n
theorem st_Sc_init_11 (zz : Nat × Nat) (r : mx_T) (ls : mx_L) (st : List Value) (h : mx_H) (c n : Nat) : mx_G r (t_Sc_init zz) 11 ls st h c n = (o_new 7 15 6 1 [.null]) r (mx_G r (t_Sc_init zz)) 11 ls st h c n := mx_G_eq (tm_Sc_init zz) r 11 ls st h c n
theorem st_Sc_init_14 (zz : Nat × Nat) (r : mx_T) (ls : mx_L) (st : List Value) (h : mx_H) (c n : Nat) : mx_G r (t_Sc_init zz) 14 ls st h c n = (o_dup) r (mx_G r (t_Sc_init zz)) 14 ls st h c n := mx_G_eq (tm_Sc_init zz) r 14 ls st h c n
theorem st_Sc_init_15 (zz : Nat × Nat) (r : mx_T) (ls : mx_L) (st : List Value) (h : mx_H) (c n : Nat) : mx_G r (t_Sc_init zz) 15 ls st h c n = (o_call 7 15 1 1 3 mx_rr (S_Tb_init zz)) r (mx_G r (t_Sc_init zz)) 15 ls st h c n := mx_G_eq (tm_Sc_init zz) r 15 ls st h c n
theorem st_Sc_init_18 (zz : Nat × Nat) (r : mx_T) (ls : mx_L) (st : List Value) (h : mx_H) (c n : Nat) : mx_G r (t_Sc_init zz) 18 ls st h c n = (o_aast "HeaderSchedule$Table" [6]) r (mx_G r (t_Sc_init zz)) 18 ls st h c n := mx_G_eq (tm_Sc_init zz) r 18 ls st h c n
theorem st_Sc_init_19 (zz : Nat × Nat) (r : mx_T) (ls : mx_L) (st : List Value) (h : mx_H) (c n : Nat) : mx_G r (t_Sc_init zz) 19 ls st h c n = (o_dup) r (mx_G r (t_Sc_init zz)) 19 ls st h c n := mx_G_eq (tm_Sc_init zz) r 19 ls st h c n
theorem st_Sc_init_20 (zz : Nat × Nat) (r : mx_T) (ls : mx_L) (st : List Value) (h : mx_H) (c n : Nat) : mx_G r (t_Sc_init zz) 20 ls st h c n = (o_push 1 (.int 1)) r (mx_G r (t_Sc_init zz)) 20 ls st h c n := mx_G_eq (tm_Sc_init zz) r 20 ls st h c n
theorem st_Sc_init_21 (zz : Nat × Nat) (r : mx_T) (ls : mx_L) (st : List Value) (h : mx_H) (c n : Nat) : mx_G r (t_Sc_init zz) 21 ls st h c n = (o_new 7 15 6 1 [.null]) r (mx_G r (t_Sc_init zz)) 21 ls st h c n := mx_G_eq (tm_Sc_init zz) r 21 ls st h c n
theorem st_Sc_init_24 (zz : Nat × Nat) (r : mx_T) (ls : mx_L) (st : List Value) (h : mx_H) (c n : Nat) : mx_G r (t_Sc_init zz) 24 ls st h c n = (o_dup) r (mx_G r (t_Sc_init zz)) 24 ls st h c n := mx_G_eq (tm_Sc_init zz) r 24 ls st h c n
theorem st_Sc_init_25 (zz : Nat × Nat) (r : mx_T) (ls : mx_L) (st : List Value) (h : mx_H) (c n : Nat) : mx_G r (t_Sc_init zz) 25 ls st h c n = (o_call 7 15 1 1 3 mx_rr (S_Tb_init zz)) r (mx_G r (t_Sc_init zz)) 25 ls st h c n := mx_G_eq (tm_Sc_init zz) r 25 ls st h c n
theorem st_Sc_init_28 (zz : Nat × Nat) (r : mx_T) (ls : mx_L) (st : List Value) (h : mx_H) (c n : Nat) : mx_G r (t_Sc_init zz) 28 ls st h c n = (o_aast "HeaderSchedule$Table" [6]) r (mx_G r (t_Sc_init zz)) 28 ls st h c n := mx_G_eq (tm_Sc_init zz) r 28 ls st h c n
theorem st_Sc_init_29 (zz : Nat × Nat) (r : mx_T) (ls : mx_L) (st : List Value) (h : mx_H) (c n : Nat) : mx_G r (t_Sc_init zz) 29 ls st h c n = (o_dup) r (mx_G r (t_Sc_init zz)) 29 ls st h c n := mx_G_eq (tm_Sc_init zz) r 29 ls st h c n
theorem st_Sc_init_30 (zz : Nat × Nat) (r : mx_T) (ls : mx_L) (st : List Value) (h : mx_H) (c n : Nat) : mx_G r (t_Sc_init zz) 30 ls st h c n = (o_push 1 (.int 2)) r (mx_G r (t_Sc_init zz)) 30 ls st h c n := mx_G_eq (tm_Sc_init zz) r 30 ls st h c n
theorem st_Sc_init_31 (zz : Nat × Nat) (r : mx_T) (ls : mx_L) (st : List Value) (h : mx_H) (c n : Nat) : mx_G r (t_Sc_init zz) 31 ls st h c n = (o_new 7 15 6 1 [.null]) r (mx_G r (t_Sc_init zz)) 31 ls st h c n := mx_G_eq (tm_Sc_init zz) r 31 ls st h c n
theorem st_Sc_init_34 (zz : Nat × Nat) (r : mx_T) (ls : mx_L) (st : List Value) (h : mx_H) (c n : Nat) : mx_G r (t_Sc_init zz) 34 ls st h c n = (o_dup) r (mx_G r (t_Sc_init zz)) 34 ls st h c n := mx_G_eq (tm_Sc_init zz) r 34 ls st h c n
theorem st_Sc_init_35 (zz : Nat × Nat) (r : mx_T) (ls : mx_L) (st : List Value) (h : mx_H) (c n : Nat) : mx_G r (t_Sc_init zz) 35 ls st h c n = (o_call 7 15 1 1 3 mx_rr (S_Tb_init zz)) r (mx_G r (t_Sc_init zz)) 35 ls st h c n := mx_G_eq (tm_Sc_init zz) r 35 ls st h c n
theorem st_Sc_init_38 (zz : Nat × Nat) (r : mx_T) (ls : mx_L) (st : List Value) (h : mx_H) (c n : Nat) : mx_G r (t_Sc_init zz) 38 ls st h c n = (o_aast "HeaderSchedule$Table" [6]) r (mx_G r (t_Sc_init zz)) 38 ls st h c n := mx_G_eq (tm_Sc_init zz) r 38 ls st h c n
theorem st_Sc_init_39 (zz : Nat × Nat) (r : mx_T) (ls : mx_L) (st : List Value) (h : mx_H) (c n : Nat) : mx_G r (t_Sc_init zz) 39 ls st h c n = (o_put 7 0 mx_vA) r (mx_G r (t_Sc_init zz)) 39 ls st h c n := mx_G_eq (tm_Sc_init zz) r 39 ls st h c n
theorem st_Sc_init_42 (zz : Nat × Nat) (r : mx_T) (ls : mx_L) (st : List Value) (h : mx_H) (c n : Nat) : mx_G r (t_Sc_init zz) 42 ls st h c n = (o_aload 1 0) r (mx_G r (t_Sc_init zz)) 42 ls st h c n := mx_G_eq (tm_Sc_init zz) r 42 ls st h c n
theorem st_Sc_init_43 (zz : Nat × Nat) (r : mx_T) (ls : mx_L) (st : List Value) (h : mx_H) (c n : Nat) : mx_G r (t_Sc_init zz) 43 ls st h c n = (o_push 1 (.int 0)) r (mx_G r (t_Sc_init zz)) 43 ls st h c n := mx_G_eq (tm_Sc_init zz) r 43 ls st h c n
theorem st_Sc_init_44 (zz : Nat × Nat) (r : mx_T) (ls : mx_L) (st : List Value) (h : mx_H) (c n : Nat) : mx_G r (t_Sc_init zz) 44 ls st h c n = (o_put 7 1 mx_vI) r (mx_G r (t_Sc_init zz)) 44 ls st h c n := mx_G_eq (tm_Sc_init zz) r 44 ls st h c n
theorem st_Sc_init_47 (zz : Nat × Nat) (r : mx_T) (ls : mx_L) (st : List Value) (h : mx_H) (c n : Nat) : mx_G r (t_Sc_init zz) 47 ls st h c n = (o_aload 1 0) r (mx_G r (t_Sc_init zz)) 47 ls st h c n := mx_G_eq (tm_Sc_init zz) r 47 ls st h c n
theorem st_Sc_init_48 (zz : Nat × Nat) (r : mx_T) (ls : mx_L) (st : List Value) (h : mx_H) (c n : Nat) : mx_G r (t_Sc_init zz) 48 ls st h c n = (o_push 1 (.int 0)) r (mx_G r (t_Sc_init zz)) 48 ls st h c n := mx_G_eq (tm_Sc_init zz) r 48 ls st h c n
theorem st_Sc_init_49 (zz : Nat × Nat) (r : mx_T) (ls : mx_L) (st : List Value) (h : mx_H) (c n : Nat) : mx_G r (t_Sc_init zz) 49 ls st h c n = (o_put 7 2 mx_vI) r (mx_G r (t_Sc_init zz)) 49 ls st h c n := mx_G_eq (tm_Sc_init zz) r 49 ls st h c n
theorem st_Sc_init_52 (zz : Nat × Nat) (r : mx_T) (ls : mx_L) (st : List Value) (h : mx_H) (c n : Nat) : mx_G r (t_Sc_init zz) 52 ls st h c n = (o_aload 1 0) r (mx_G r (t_Sc_init zz)) 52 ls st h c n := mx_G_eq (tm_Sc_init zz) r 52 ls st h c n
theorem st_Sc_init_53 (zz : Nat × Nat) (r : mx_T) (ls : mx_L) (st : List Value) (h : mx_H) (c n : Nat) : mx_G r (t_Sc_init zz) 53 ls st h c n = (o_push 1 (.int 0)) r (mx_G r (t_Sc_init zz)) 53 ls st h c n := mx_G_eq (tm_Sc_init zz) r 53 ls st h c n
theorem st_Sc_init_54 (zz : Nat × Nat) (r : mx_T) (ls : mx_L) (st : List Value) (h : mx_H) (c n : Nat) : mx_G r (t_Sc_init zz) 54 ls st h c n = (o_put 7 3 mx_vZ) r (mx_G r (t_Sc_init zz)) 54 ls st h c n := mx_G_eq (tm_Sc_init zz) r 54 ls st h c n
theorem st_Sc_init_57 (zz : Nat × Nat) (r : mx_T) (ls : mx_L) (st : List Value) (h : mx_H) (c n : Nat) : mx_G r (t_Sc_init zz) 57 ls st h c n = (o_aload 1 0) r (mx_G r (t_Sc_init zz)) 57 ls st h c n := mx_G_eq (tm_Sc_init zz) r 57 ls st h c n
theorem st_Sc_init_58 (zz : Nat × Nat) (r : mx_T) (ls : mx_L) (st : List Value) (h : mx_H) (c n : Nat) : mx_G r (t_Sc_init zz) 58 ls st h c n = (o_push 1 (.int 0)) r (mx_G r (t_Sc_init zz)) 58 ls st h c n := mx_G_eq (tm_Sc_init zz) r 58 ls st h c n
theorem st_Sc_init_59 (zz : Nat × Nat) (r : mx_T) (ls : mx_L) (st : List Value) (h : mx_H) (c n : Nat) : mx_G r (t_Sc_init zz) 59 ls st h c n = (o_put 7 4 mx_vI) r (mx_G r (t_Sc_init zz)) 59 ls st h c n := mx_G_eq (tm_Sc_init zz) r 59 ls st h c n
theorem st_Sc_init_62 (zz : Nat × Nat) (r : mx_T) (ls : mx_L) (st : List Value) (h : mx_H) (c n : Nat) : mx_G r (t_Sc_init zz) 62 ls st h c n = (o_aload 1 0) r (mx_G r (t_Sc_init zz)) 62 ls st h c n := mx_G_eq (tm_Sc_init zz) r 62 ls st h c n
theorem st_Sc_init_63 (zz : Nat × Nat) (r : mx_T) (ls : mx_L) (st : List Value) (h : mx_H) (c n : Nat) : mx_G r (t_Sc_init zz) 63 ls st h c n = (o_push 1 (.int 0)) r (mx_G r (t_Sc_init zz)) 63 ls st h c n := mx_G_eq (tm_Sc_init zz) r 63 ls st h c n
theorem st_Sc_init_64 (zz : Nat × Nat) (r : mx_T) (ls : mx_L) (st : List Value) (h : mx_H) (c n : Nat) : mx_G r (t_Sc_init zz) 64 ls st h c n = (o_put 7 5 mx_vI) r (mx_G r (t_Sc_init zz)) 64 ls st h c n := mx_G_eq (tm_Sc_init zz) r 64 ls st h c n
theorem st_Sc_init_67 (zz : Nat × Nat) (r : mx_T) (ls : mx_L) (st : List Value) (h : mx_H) (c n : Nat) : mx_G r (t_Sc_init zz) 67 ls st h c n = (o_aload 1 0) r (mx_G r (t_Sc_init zz)) 67 ls st h c n := mx_G_eq (tm_Sc_init zz) r 67 ls st h c n
theorem st_Sc_init_68 (zz : Nat × Nat) (r : mx_T) (ls : mx_L) (st : List Value) (h : mx_H) (c n : Nat) : mx_G r (t_Sc_init zz) 68 ls st h c n = (o_push 1 (.int (-1))) r (mx_G r (t_Sc_init zz)) 68 ls st h c n := mx_G_eq (tm_Sc_init zz) r 68 ls st h c n
theorem st_Sc_init_69 (zz : Nat × Nat) (r : mx_T) (ls : mx_L) (st : List Value) (h : mx_H) (c n : Nat) : mx_G r (t_Sc_init zz) 69 ls st h c n = (o_put 7 6 mx_vI) r (mx_G r (t_Sc_init zz)) 69 ls st h c n := mx_G_eq (tm_Sc_init zz) r 69 ls st h c n
theorem st_Sc_init_72 (zz : Nat × Nat) (r : mx_T) (ls : mx_L) (st : List Value) (h : mx_H) (c n : Nat) : mx_G r (t_Sc_init zz) 72 ls st h c n = (o_aload 1 0) r (mx_G r (t_Sc_init zz)) 72 ls st h c n := mx_G_eq (tm_Sc_init zz) r 72 ls st h c n
theorem st_Sc_init_73 (zz : Nat × Nat) (r : mx_T) (ls : mx_L) (st : List Value) (h : mx_H) (c n : Nat) : mx_G r (t_Sc_init zz) 73 ls st h c n = (o_push 1 (.int (-1))) r (mx_G r (t_Sc_init zz)) 73 ls st h c n := mx_G_eq (tm_Sc_init zz) r 73 ls st h c n
theorem st_Sc_init_74 (zz : Nat × Nat) (r : mx_T) (ls : mx_L) (st : List Value) (h : mx_H) (c n : Nat) : mx_G r (t_Sc_init zz) 74 ls st h c n = (o_put 7 7 mx_vI) r (mx_G r (t_Sc_init zz)) 74 ls st h c n := mx_G_eq (tm_Sc_init zz) r 74 ls st h c n
theorem st_Sc_init_77 (zz : Nat × Nat) (r : mx_T) (ls : mx_L) (st : List Value) (h : mx_H) (c n : Nat) : mx_G r (t_Sc_init zz) 77 ls st h c n = (o_vret) r (mx_G r (t_Sc_init zz)) 77 ls st h c n := mx_G_eq (tm_Sc_init zz) r 77 ls st h c n
theorem d_Wi_init_0 : decode c_Wi_init 0 = .ok (.aload_n 0, 1) := by decide +kernel
theorem d_Wi_init_1 : decode c_Wi_init 1 = .ok (.invokespecial 3, 3) := by decide +kernel
theorem d_Wi_init_4 : decode c_Wi_init 4 = .ok (.aload_n 0, 1) := by decide +kernel
theorem d_Wi_init_5 : decode c_Wi_init 5 = .ok (.bipush 10, 2) := by decide +kernel
theorem d_Wi_init_7 : decode c_Wi_init 7 = .ok (.newarray .int, 2) := by decide +kernel
theorem d_Wi_init_9 : decode c_Wi_init 9 = .ok (.putfield 9, 3) := by decide +kernel
theorem d_Wi_init_12 : decode c_Wi_init 12 = .ok (.aload_n 0, 1) := by decide +kernel
theorem d_Wi_init_13 : decode c_Wi_init 13 = .ok (.iconst 0, 1) := by decide +kernel
theorem d_Wi_init_14 : decode c_Wi_init 14 = .ok (.putfield 15, 3) := by decide +kernel
theorem d_Wi_init_17 : decode c_Wi_init 17 = .ok (.aload_n 0, 1) := by decide +kernel
theorem d_Wi_init_18 : decode c_Wi_init 18 = .ok (.iconst (-1), 1) := by decide +kernel
theorem d_Wi_init_19 : decode c_Wi_init 19 = .ok (.putfield 19, 3) := by decide +kernel
theorem d_Wi_init_22 : decode c_Wi_init 22 = .ok (.aload_n 0, 1) := by decide +kernel
theorem d_Wi_init_23 : decode c_Wi_init 23 = .ok (.iconst 0, 1) := by decide +kernel
theorem d_Wi_init_24 : decode c_Wi_init 24 = .ok (.putfield 22, 3) := by decide +kernel
theorem d_Wi_init_27 : decode c_Wi_init 27 = .ok (.return_, 1) := by decide +kernel
def t_Wi_init (zz : Nat × Nat) : List (Nat × mx_O) := [(0, o_aload 1 0),
  (1, o_objinit),
  (4, o_aload 1 0),
  (5, o_push 2 (.int 10)),
  (7, o_newi 1 10 .int),
  (9, o_put 8 0 mx_vA),
  (12, o_aload 1 0),
  (13, o_push 1 (.int 0)),
  (14, o_put 8 1 mx_vI),
  (17, o_aload 1 0),
  (18, o_push 1 (.int (-1))),
  (19, o_put 8 2 mx_vI),
  (22, o_aload 1 0),
  (23, o_push 1 (.int 0)),
  (24, o_put 8 3 mx_vI),
  (27, o_vret)]
set_option maxRecDepth 100000 in
theorem tm_Wi_init (zz : Nat × Nat) : mx_All (fun _ o => mx_Mono o) (t_Wi_init zz) := by
  refine mx_all_cons (mo_st) ?_
  refine mx_all_cons (mo_sc) ?_
  refine mx_all_cons (mo_st) ?_
  refine mx_all_cons (mo_st) ?_
  refine mx_all_cons (mo_al) ?_
  refine mx_all_cons (mo_sc) ?_
  refine mx_all_cons (mo_st) ?_
  refine mx_all_cons (mo_st) ?_
  refine mx_all_cons (mo_sc) ?_
  refine mx_all_cons (mo_st) ?_
  refine mx_all_cons (mo_st) ?_
  refine mx_all_cons (mo_sc) ?_
  refine mx_all_cons (mo_st) ?_
  refine mx_all_cons (mo_st) ?_
  refine mx_all_cons (mo_sc) ?_
  refine mx_all_cons (mo_ret) ?_
  exact mx_all_nil
def S_Wi_init (zz : Nat × Nat) : mx_Sp := mx_S 1 1 10 (t_Wi_init zz)
theorem sm_Wi_init (zz : Nat × Nat) : mx_SMono (S_Wi_init zz) := mx_S_mono (tm_Wi_init zz)
abbrev rm_Wi_init : Room := { frames := 1, cells := 1, slots := 10, locals := 20 }
set_option maxHeartbeats 4000000 in
set_option maxRecDepth 100000 in
theorem m_Wi_init (l : Launch) (zz : Nat × Nat) : mx_Met l y_Wi_init (wsOf y_Wi_init c_Wi_init 1 none) rm_Wi_init wcl (mx_Z zz) 1 10 (S_Wi_init zz) := by
  refine mx_met (cc := c_Wi_init) (ret := none) (by decide) rfl ?_
  intro p e s m args below meth c D A Post X hz hr hlk hnm
  have hm : ∀ w ∈ mw, w.before args s = true := fun w h => X.1.2.2.2.2 w (List.mem_cons_of_mem _ h)
  refine mx_all_cons (ok_aload (fun hl kk => lv_aload_n X.1.1 X.1.2.1 d_Wi_init_0 rfl hl kk) (fun hl kk => lv_aload_nN X.1.1 X.1.2.1 d_Wi_init_0 rfl hl kk)) ?_
  refine mx_all_cons (ok_objinit X ⟨(Nat.le_of_ble_eq_true rfl), (Nat.le_of_ble_eq_true rfl)⟩ (hm _ w141) (hm _ w58) (hm _ w_oic) d_Wi_init_1) ?_
  refine mx_all_cons (ok_aload (fun hl kk => lv_aload_n X.1.1 X.1.2.1 d_Wi_init_4 rfl hl kk) (fun hl kk => lv_aload_nN X.1.1 X.1.2.1 d_Wi_init_4 rfl hl kk)) ?_
  refine mx_all_cons (ok_push (fun kk => lv_bipush X.1.1 X.1.2.1 d_Wi_init_5 (by decide) kk)) ?_
  refine mx_all_cons (ok_newi (atype := .int) X ⟨(Nat.le_of_ble_eq_true rfl), (Nat.le_of_ble_eq_true rfl)⟩ (hm _ w157) rfl rfl (by decide) d_Wi_init_7) ?_
  refine mx_all_cons (ok_putF (C := "HeaderSchedule$Wire") (T := T_Wi) (N := 4) X (mw_up in_Wi) ty_Wi tyok_Wi nm_Wi rfl 0 (by decide) (hm _ w142) (fun _ h9 => h9) rfl hnm rfl (tyok_Wi 0 (by decide)) mx_vA_okR d_Wi_init_9) ?_
  refine mx_all_cons (ok_aload (fun hl kk => lv_aload_n X.1.1 X.1.2.1 d_Wi_init_12 rfl hl kk) (fun hl kk => lv_aload_nN X.1.1 X.1.2.1 d_Wi_init_12 rfl hl kk)) ?_
  refine mx_all_cons (ok_push (fun kk => lv_iconst X.1.1 X.1.2.1 d_Wi_init_13 (by decide) kk)) ?_
  refine mx_all_cons (ok_put (C := "HeaderSchedule$Wire") (T := T_Wi) (N := 4) X (mw_up in_Wi) ty_Wi tyok_Wi nm_Wi rfl 1 (by decide) (hm _ w143) (fun _ h9 => h9) rfl (tyok_Wi 1 (by decide)) mx_vI_ok d_Wi_init_14) ?_
  refine mx_all_cons (ok_aload (fun hl kk => lv_aload_n X.1.1 X.1.2.1 d_Wi_init_17 rfl hl kk) (fun hl kk => lv_aload_nN X.1.1 X.1.2.1 d_Wi_init_17 rfl hl kk)) ?_
  refine mx_all_cons (ok_push (fun kk => lv_iconst X.1.1 X.1.2.1 d_Wi_init_18 (by decide) kk)) ?_
  refine mx_all_cons (ok_put (C := "HeaderSchedule$Wire") (T := T_Wi) (N := 4) X (mw_up in_Wi) ty_Wi tyok_Wi nm_Wi rfl 2 (by decide) (hm _ w144) (fun _ h9 => h9) rfl (tyok_Wi 2 (by decide)) mx_vI_ok d_Wi_init_19) ?_
  refine mx_all_cons (ok_aload (fun hl kk => lv_aload_n X.1.1 X.1.2.1 d_Wi_init_22 rfl hl kk) (fun hl kk => lv_aload_nN X.1.1 X.1.2.1 d_Wi_init_22 rfl hl kk)) ?_
  refine mx_all_cons (ok_push (fun kk => lv_iconst X.1.1 X.1.2.1 d_Wi_init_23 (by decide) kk)) ?_
  refine mx_all_cons (ok_put (C := "HeaderSchedule$Wire") (T := T_Wi) (N := 4) X (mw_up in_Wi) ty_Wi tyok_Wi nm_Wi rfl 3 (by decide) (hm _ w146) (fun _ h9 => h9) rfl (tyok_Wi 3 (by decide)) mx_vI_ok d_Wi_init_24) ?_
  refine mx_all_cons (ok_vret X hr hlk d_Wi_init_27) ?_
  exact mx_all_nil
theorem st_Wi_init_0 (zz : Nat × Nat) (r : mx_T) (ls : mx_L) (st : List Value) (h : mx_H) (c n : Nat) : mx_G r (t_Wi_init zz) 0 ls st h c n = (o_aload 1 0) r (mx_G r (t_Wi_init zz)) 0 ls st h c n := mx_G_eq (tm_Wi_init zz) r 0 ls st h c n
theorem st_Wi_init_1 (zz : Nat × Nat) (r : mx_T) (ls : mx_L) (st : List Value) (h : mx_H) (c n : Nat) : mx_G r (t_Wi_init zz) 1 ls st h c n = (o_objinit) r (mx_G r (t_Wi_init zz)) 1 ls st h c n := mx_G_eq (tm_Wi_init zz) r 1 ls st h c n
theorem st_Wi_init_4 (zz : Nat × Nat) (r : mx_T) (ls : mx_L) (st : List Value) (h : mx_H) (c n : Nat) : mx_G r (t_Wi_init zz) 4 ls st h c n = (o_aload 1 0) r (mx_G r (t_Wi_init zz)) 4 ls st h c n := mx_G_eq (tm_Wi_init zz) r 4 ls st h c n
theorem st_Wi_init_5 (zz : Nat × Nat) (r : mx_T) (ls : mx_L) (st : List Value) (h : mx_H) (c n : Nat) : mx_G r (t_Wi_init zz) 5 ls st h c n = (o_push 2 (.int 10)) r (mx_G r (t_Wi_init zz)) 5 ls st h c n := mx_G_eq (tm_Wi_init zz) r 5 ls st h c n
theorem st_Wi_init_7 (zz : Nat × Nat) (r : mx_T) (ls : mx_L) (st : List Value) (h : mx_H) (c n : Nat) : mx_G r (t_Wi_init zz) 7 ls st h c n = (o_newi 1 10 .int) r (mx_G r (t_Wi_init zz)) 7 ls st h c n := mx_G_eq (tm_Wi_init zz) r 7 ls st h c n
theorem st_Wi_init_9 (zz : Nat × Nat) (r : mx_T) (ls : mx_L) (st : List Value) (h : mx_H) (c n : Nat) : mx_G r (t_Wi_init zz) 9 ls st h c n = (o_put 8 0 mx_vA) r (mx_G r (t_Wi_init zz)) 9 ls st h c n := mx_G_eq (tm_Wi_init zz) r 9 ls st h c n
theorem st_Wi_init_12 (zz : Nat × Nat) (r : mx_T) (ls : mx_L) (st : List Value) (h : mx_H) (c n : Nat) : mx_G r (t_Wi_init zz) 12 ls st h c n = (o_aload 1 0) r (mx_G r (t_Wi_init zz)) 12 ls st h c n := mx_G_eq (tm_Wi_init zz) r 12 ls st h c n
theorem st_Wi_init_13 (zz : Nat × Nat) (r : mx_T) (ls : mx_L) (st : List Value) (h : mx_H) (c n : Nat) : mx_G r (t_Wi_init zz) 13 ls st h c n = (o_push 1 (.int 0)) r (mx_G r (t_Wi_init zz)) 13 ls st h c n := mx_G_eq (tm_Wi_init zz) r 13 ls st h c n
theorem st_Wi_init_14 (zz : Nat × Nat) (r : mx_T) (ls : mx_L) (st : List Value) (h : mx_H) (c n : Nat) : mx_G r (t_Wi_init zz) 14 ls st h c n = (o_put 8 1 mx_vI) r (mx_G r (t_Wi_init zz)) 14 ls st h c n := mx_G_eq (tm_Wi_init zz) r 14 ls st h c n
theorem st_Wi_init_17 (zz : Nat × Nat) (r : mx_T) (ls : mx_L) (st : List Value) (h : mx_H) (c n : Nat) : mx_G r (t_Wi_init zz) 17 ls st h c n = (o_aload 1 0) r (mx_G r (t_Wi_init zz)) 17 ls st h c n := mx_G_eq (tm_Wi_init zz) r 17 ls st h c n
theorem st_Wi_init_18 (zz : Nat × Nat) (r : mx_T) (ls : mx_L) (st : List Value) (h : mx_H) (c n : Nat) : mx_G r (t_Wi_init zz) 18 ls st h c n = (o_push 1 (.int (-1))) r (mx_G r (t_Wi_init zz)) 18 ls st h c n := mx_G_eq (tm_Wi_init zz) r 18 ls st h c n
theorem st_Wi_init_19 (zz : Nat × Nat) (r : mx_T) (ls : mx_L) (st : List Value) (h : mx_H) (c n : Nat) : mx_G r (t_Wi_init zz) 19 ls st h c n = (o_put 8 2 mx_vI) r (mx_G r (t_Wi_init zz)) 19 ls st h c n := mx_G_eq (tm_Wi_init zz) r 19 ls st h c n
theorem st_Wi_init_22 (zz : Nat × Nat) (r : mx_T) (ls : mx_L) (st : List Value) (h : mx_H) (c n : Nat) : mx_G r (t_Wi_init zz) 22 ls st h c n = (o_aload 1 0) r (mx_G r (t_Wi_init zz)) 22 ls st h c n := mx_G_eq (tm_Wi_init zz) r 22 ls st h c n
theorem st_Wi_init_23 (zz : Nat × Nat) (r : mx_T) (ls : mx_L) (st : List Value) (h : mx_H) (c n : Nat) : mx_G r (t_Wi_init zz) 23 ls st h c n = (o_push 1 (.int 0)) r (mx_G r (t_Wi_init zz)) 23 ls st h c n := mx_G_eq (tm_Wi_init zz) r 23 ls st h c n
theorem st_Wi_init_24 (zz : Nat × Nat) (r : mx_T) (ls : mx_L) (st : List Value) (h : mx_H) (c n : Nat) : mx_G r (t_Wi_init zz) 24 ls st h c n = (o_put 8 3 mx_vI) r (mx_G r (t_Wi_init zz)) 24 ls st h c n := mx_G_eq (tm_Wi_init zz) r 24 ls st h c n
theorem st_Wi_init_27 (zz : Nat × Nat) (r : mx_T) (ls : mx_L) (st : List Value) (h : mx_H) (c n : Nat) : mx_G r (t_Wi_init zz) 27 ls st h c n = (o_vret) r (mx_G r (t_Wi_init zz)) 27 ls st h c n := mx_G_eq (tm_Wi_init zz) r 27 ls st h c n
theorem d_Hs_init_0 : decode c_Hs_init 0 = .ok (.aload_n 0, 1) := by decide +kernel
theorem d_Hs_init_1 : decode c_Hs_init 1 = .ok (.invokespecial 1, 3) := by decide +kernel
theorem d_Hs_init_4 : decode c_Hs_init 4 = .ok (.aload_n 0, 1) := by decide +kernel
theorem d_Hs_init_5 : decode c_Hs_init 5 = .ok (.new 7, 3) := by decide +kernel
theorem d_Hs_init_8 : decode c_Hs_init 8 = .ok (.dup, 1) := by decide +kernel
theorem d_Hs_init_9 : decode c_Hs_init 9 = .ok (.invokespecial 9, 3) := by decide +kernel
theorem d_Hs_init_12 : decode c_Hs_init 12 = .ok (.putfield 10, 3) := by decide +kernel
theorem d_Hs_init_15 : decode c_Hs_init 15 = .ok (.aload_n 0, 1) := by decide +kernel
theorem d_Hs_init_16 : decode c_Hs_init 16 = .ok (.new 7, 3) := by decide +kernel
theorem d_Hs_init_19 : decode c_Hs_init 19 = .ok (.dup, 1) := by decide +kernel
theorem d_Hs_init_20 : decode c_Hs_init 20 = .ok (.invokespecial 9, 3) := by decide +kernel
theorem d_Hs_init_23 : decode c_Hs_init 23 = .ok (.putfield 16, 3) := by decide +kernel
theorem d_Hs_init_26 : decode c_Hs_init 26 = .ok (.aload_n 0, 1) := by decide +kernel
theorem d_Hs_init_27 : decode c_Hs_init 27 = .ok (.new 7, 3) := by decide +kernel
theorem d_Hs_init_30 : decode c_Hs_init 30 = .ok (.dup, 1) := by decide +kernel
theorem d_Hs_init_31 : decode c_Hs_init 31 = .ok (.invokespecial 9, 3) := by decide +kernel
theorem d_Hs_init_34 : decode c_Hs_init 34 = .ok (.putfield 19, 3) := by decide +kernel
theorem d_Hs_init_37 : decode c_Hs_init 37 = .ok (.aload_n 0, 1) := by decide +kernel
theorem d_Hs_init_38 : decode c_Hs_init 38 = .ok (.new 7, 3) := by decide +kernel
theorem d_Hs_init_41 : decode c_Hs_init 41 = .ok (.dup, 1) := by decide +kernel
theorem d_Hs_init_42 : decode c_Hs_init 42 = .ok (.invokespecial 9, 3) := by decide +kernel
theorem d_Hs_init_45 : decode c_Hs_init 45 = .ok (.putfield 22, 3) := by decide +kernel
theorem d_Hs_init_48 : decode c_Hs_init 48 = .ok (.aload_n 0, 1) := by decide +kernel
theorem d_Hs_init_49 : decode c_Hs_init 49 = .ok (.bipush 60, 2) := by decide +kernel
theorem d_Hs_init_51 : decode c_Hs_init 51 = .ok (.newarray .boolean, 2) := by decide +kernel
theorem d_Hs_init_53 : decode c_Hs_init 53 = .ok (.putfield 25, 3) := by decide +kernel
theorem d_Hs_init_56 : decode c_Hs_init 56 = .ok (.aload_n 0, 1) := by decide +kernel
theorem d_Hs_init_57 : decode c_Hs_init 57 = .ok (.new 29, 3) := by decide +kernel
theorem d_Hs_init_60 : decode c_Hs_init 60 = .ok (.dup, 1) := by decide +kernel
theorem d_Hs_init_61 : decode c_Hs_init 61 = .ok (.invokespecial 31, 3) := by decide +kernel
theorem d_Hs_init_64 : decode c_Hs_init 64 = .ok (.putfield 32, 3) := by decide +kernel
theorem d_Hs_init_67 : decode c_Hs_init 67 = .ok (.aload_n 0, 1) := by decide +kernel
theorem d_Hs_init_68 : decode c_Hs_init 68 = .ok (.new 36, 3) := by decide +kernel
theorem d_Hs_init_71 : decode c_Hs_init 71 = .ok (.dup, 1) := by decide +kernel
theorem d_Hs_init_72 : decode c_Hs_init 72 = .ok (.invokespecial 38, 3) := by decide +kernel
theorem d_Hs_init_75 : decode c_Hs_init 75 = .ok (.putfield 39, 3) := by decide +kernel
theorem d_Hs_init_78 : decode c_Hs_init 78 = .ok (.aload_n 0, 1) := by decide +kernel
theorem d_Hs_init_79 : decode c_Hs_init 79 = .ok (.iconst 5, 1) := by decide +kernel
theorem d_Hs_init_80 : decode c_Hs_init 80 = .ok (.newarray .int, 2) := by decide +kernel
theorem d_Hs_init_82 : decode c_Hs_init 82 = .ok (.putfield 43, 3) := by decide +kernel
theorem d_Hs_init_85 : decode c_Hs_init 85 = .ok (.aload_n 0, 1) := by decide +kernel
theorem d_Hs_init_86 : decode c_Hs_init 86 = .ok (.iconst 0, 1) := by decide +kernel
theorem d_Hs_init_87 : decode c_Hs_init 87 = .ok (.putfield 47, 3) := by decide +kernel
theorem d_Hs_init_90 : decode c_Hs_init 90 = .ok (.aload_n 0, 1) := by decide +kernel
theorem d_Hs_init_91 : decode c_Hs_init 91 = .ok (.iconst 0, 1) := by decide +kernel
theorem d_Hs_init_92 : decode c_Hs_init 92 = .ok (.putfield 51, 3) := by decide +kernel
theorem d_Hs_init_95 : decode c_Hs_init 95 = .ok (.aload_n 0, 1) := by decide +kernel
theorem d_Hs_init_96 : decode c_Hs_init 96 = .ok (.iconst 0, 1) := by decide +kernel
theorem d_Hs_init_97 : decode c_Hs_init 97 = .ok (.putfield 54, 3) := by decide +kernel
theorem d_Hs_init_100 : decode c_Hs_init 100 = .ok (.return_, 1) := by decide +kernel
def t_Hs_init (zz : Nat × Nat) : List (Nat × mx_O) := [(0, o_aload 1 0),
  (1, o_objinit),
  (4, o_aload 1 0),
  (5, o_new 16 114 9 3 [.int 0, .null, .int 0]),
  (8, o_dup),
  (9, o_call 16 114 1 0 0 mx_rr (S_Al_init zz)),
  (12, o_put 0 0 mx_vA),
  (15, o_aload 1 0),
  (16, o_new 16 114 9 3 [.int 0, .null, .int 0]),
  (19, o_dup),
  (20, o_call 16 114 1 0 0 mx_rr (S_Al_init zz)),
  (23, o_put 0 1 mx_vA),
  (26, o_aload 1 0),
  (27, o_new 16 114 9 3 [.int 0, .null, .int 0]),
  (30, o_dup),
  (31, o_call 16 114 1 0 0 mx_rr (S_Al_init zz)),
  (34, o_put 0 2 mx_vA),
  (37, o_aload 1 0),
  (38, o_new 16 114 9 3 [.int 0, .null, .int 0]),
  (41, o_dup),
  (42, o_call 16 114 1 0 0 mx_rr (S_Al_init zz)),
  (45, o_put 0 3 mx_vA),
  (48, o_aload 1 0),
  (49, o_push 2 (.int 60)),
  (51, o_newi 16 114 .boolean),
  (53, o_put 0 4 mx_vA),
  (56, o_aload 1 0),
  (57, o_new 16 114 7 8 [.null, .int 0, .int 0, .int 0, .int 0, .int 0, .int 0, .int 0]),
  (60, o_dup),
  (61, o_call 16 114 1 7 15 mx_rr (S_Sc_init zz)),
  (64, o_put 0 5 mx_vA),
  (67, o_aload 1 0),
  (68, o_new 16 114 8 4 [.null, .int 0, .int 0, .int 0]),
  (71, o_dup),
  (72, o_call 16 114 1 1 10 mx_rr (S_Wi_init zz)),
  (75, o_put 0 6 mx_vA),
  (78, o_aload 1 0),
  (79, o_push 1 (.int 5)),
  (80, o_newi 16 114 .int),
  (82, o_put 0 7 mx_vA),
  (85, o_aload 1 0),
  (86, o_push 1 (.int 0)),
  (87, o_put 0 8 mx_vZ),
  (90, o_aload 1 0),
  (91, o_push 1 (.int 0)),
  (92, o_put 0 9 mx_vZ),
  (95, o_aload 1 0),
  (96, o_push 1 (.int 0)),
  (97, o_put 0 10 mx_vI),
  (100, o_vret)]
set_option maxRecDepth 100000 in
theorem tm_Hs_init (zz : Nat × Nat) : mx_All (fun _ o => mx_Mono o) (t_Hs_init zz) := by
  refine mx_all_cons (mo_st) ?_
  refine mx_all_cons (mo_sc) ?_
  refine mx_all_cons (mo_st) ?_
  refine mx_all_cons (mo_al) ?_
  refine mx_all_cons (mo_st) ?_
  refine mx_all_cons (mo_call (sm_Al_init zz)) ?_
  refine mx_all_cons (mo_sc) ?_
  refine mx_all_cons (mo_st) ?_
  refine mx_all_cons (mo_al) ?_
  refine mx_all_cons (mo_st) ?_
  refine mx_all_cons (mo_call (sm_Al_init zz)) ?_
  refine mx_all_cons (mo_sc) ?_
  refine mx_all_cons (mo_st) ?_
  refine mx_all_cons (mo_al) ?_
  refine mx_all_cons (mo_st) ?_
  refine mx_all_cons (mo_call (sm_Al_init zz)) ?_
  refine mx_all_cons (mo_sc) ?_
  refine mx_all_cons (mo_st) ?_
  refine mx_all_cons (mo_al) ?_
  refine mx_all_cons (mo_st) ?_
  refine mx_all_cons (mo_call (sm_Al_init zz)) ?_
  refine mx_all_cons (mo_sc) ?_
  refine mx_all_cons (mo_st) ?_
  refine mx_all_cons (mo_st) ?_
  refine mx_all_cons (mo_al) ?_
  refine mx_all_cons (mo_sc) ?_
  refine mx_all_cons (mo_st) ?_
  refine mx_all_cons (mo_al) ?_
  refine mx_all_cons (mo_st) ?_
  refine mx_all_cons (mo_call (sm_Sc_init zz)) ?_
  refine mx_all_cons (mo_sc) ?_
  refine mx_all_cons (mo_st) ?_
  refine mx_all_cons (mo_al) ?_
  refine mx_all_cons (mo_st) ?_
  refine mx_all_cons (mo_call (sm_Wi_init zz)) ?_
  refine mx_all_cons (mo_sc) ?_
  refine mx_all_cons (mo_st) ?_
  refine mx_all_cons (mo_st) ?_
  refine mx_all_cons (mo_al) ?_
  refine mx_all_cons (mo_sc) ?_
  refine mx_all_cons (mo_st) ?_
  refine mx_all_cons (mo_st) ?_
  refine mx_all_cons (mo_sc) ?_
  refine mx_all_cons (mo_st) ?_
  refine mx_all_cons (mo_st) ?_
  refine mx_all_cons (mo_sc) ?_
  refine mx_all_cons (mo_st) ?_
  refine mx_all_cons (mo_st) ?_
  refine mx_all_cons (mo_sc) ?_
  refine mx_all_cons (mo_ret) ?_
  exact mx_all_nil
def S_Hs_init (zz : Nat × Nat) : mx_Sp := mx_S 1 16 114 (t_Hs_init zz)
theorem sm_Hs_init (zz : Nat × Nat) : mx_SMono (S_Hs_init zz) := mx_S_mono (tm_Hs_init zz)
abbrev rm_Hs_init : Room := { frames := 6, cells := 16, slots := 114, locals := 120 }
set_option maxHeartbeats 4000000 in
set_option maxRecDepth 100000 in
theorem m_Hs_init (l : Launch) (zz : Nat × Nat) : mx_Met l y_Hs_init (wsOf y_Hs_init c_Hs_init 1 none) rm_Hs_init wcl (mx_Z zz) 16 114 (S_Hs_init zz) := by
  refine mx_met (cc := c_Hs_init) (ret := none) (by decide) rfl ?_
  intro p e s m args below meth c D A Post X hz hr hlk hnm
  have hm : ∀ w ∈ mw, w.before args s = true := fun w h => X.1.2.2.2.2 w (List.mem_cons_of_mem _ h)
  refine mx_all_cons (ok_aload (fun hl kk => lv_aload_n X.1.1 X.1.2.1 d_Hs_init_0 rfl hl kk) (fun hl kk => lv_aload_nN X.1.1 X.1.2.1 d_Hs_init_0 rfl hl kk)) ?_
  refine mx_all_cons (ok_objinit X ⟨(Nat.le_of_ble_eq_true rfl), (Nat.le_of_ble_eq_true rfl)⟩ (hm _ w57) (hm _ w58) (hm _ w_oic) d_Hs_init_1) ?_
  refine mx_all_cons (ok_aload (fun hl kk => lv_aload_n X.1.1 X.1.2.1 d_Hs_init_4 rfl hl kk) (fun hl kk => lv_aload_nN X.1.1 X.1.2.1 d_Hs_init_4 rfl hl kk)) ?_
  refine mx_all_cons (ok_new (C := "java/util/ArrayList") (T := T_Al) X ⟨(Nat.le_of_ble_eq_true rfl), (Nat.le_of_ble_eq_true rfl)⟩ (mw_up in_Al) ty_Al tyok_Al rfl (hm _ w60) (hm _ w61) (hm _ w36) (by decide) d_Hs_init_5) ?_
  refine mx_all_cons (ok_dup X d_Hs_init_8) ?_
  refine mx_all_cons (ok_callI X (mx_Zok_Z zz) hz ⟨(Nat.le_of_ble_eq_true rfl), (Nat.le_of_ble_eq_true rfl)⟩ (m_Al_init l zz) ⟨mx_cwB 0 hm w64 w62 w36 rfl rfl (by decide +kernel) ⟨(Nat.le_of_ble_eq_true rfl), (Nat.le_of_ble_eq_true rfl)⟩, rfl, (hm _ w63)⟩ d_Hs_init_9) ?_
  refine mx_all_cons (ok_putF (C := "HeaderSchedule") (T := T_Hs) (N := 11) X (mw_up in_Hs) ty_Hs tyok_Hs nm_Hs rfl 0 (by decide) (hm _ w158) (fun _ h9 => h9) rfl hnm rfl (tyok_Hs 0 (by decide)) mx_vA_ok d_Hs_init_12) ?_
  refine mx_all_cons (ok_aload (fun hl kk => lv_aload_n X.1.1 X.1.2.1 d_Hs_init_15 rfl hl kk) (fun hl kk => lv_aload_nN X.1.1 X.1.2.1 d_Hs_init_15 rfl hl kk)) ?_
  refine mx_all_cons (ok_new (C := "java/util/ArrayList") (T := T_Al) X ⟨(Nat.le_of_ble_eq_true rfl), (Nat.le_of_ble_eq_true rfl)⟩ (mw_up in_Al) ty_Al tyok_Al rfl (hm _ w60) (hm _ w61) (hm _ w36) (by decide) d_Hs_init_16) ?_
  refine mx_all_cons (ok_dup X d_Hs_init_19) ?_
  refine mx_all_cons (ok_callI X (mx_Zok_Z zz) hz ⟨(Nat.le_of_ble_eq_true rfl), (Nat.le_of_ble_eq_true rfl)⟩ (m_Al_init l zz) ⟨mx_cwB 0 hm w64 w62 w36 rfl rfl (by decide +kernel) ⟨(Nat.le_of_ble_eq_true rfl), (Nat.le_of_ble_eq_true rfl)⟩, rfl, (hm _ w63)⟩ d_Hs_init_20) ?_
  refine mx_all_cons (ok_putF (C := "HeaderSchedule") (T := T_Hs) (N := 11) X (mw_up in_Hs) ty_Hs tyok_Hs nm_Hs rfl 1 (by decide) (hm _ w159) (fun _ h9 => h9) rfl hnm rfl (tyok_Hs 1 (by decide)) mx_vA_ok d_Hs_init_23) ?_
  refine mx_all_cons (ok_aload (fun hl kk => lv_aload_n X.1.1 X.1.2.1 d_Hs_init_26 rfl hl kk) (fun hl kk => lv_aload_nN X.1.1 X.1.2.1 d_Hs_init_26 rfl hl kk)) ?_
  refine mx_all_cons (ok_new (C := "java/util/ArrayList") (T := T_Al) X ⟨(Nat.le_of_ble_eq_true rfl), (Nat.le_of_ble_eq_true rfl)⟩ (mw_up in_Al) ty_Al tyok_Al rfl (hm _ w60) (hm _ w61) (hm _ w36) (by decide) d_Hs_init_27) ?_
  refine mx_all_cons (ok_dup X d_Hs_init_30) ?_
  refine mx_all_cons (ok_callI X (mx_Zok_Z zz) hz ⟨(Nat.le_of_ble_eq_true rfl), (Nat.le_of_ble_eq_true rfl)⟩ (m_Al_init l zz) ⟨mx_cwB 0 hm w64 w62 w36 rfl rfl (by decide +kernel) ⟨(Nat.le_of_ble_eq_true rfl), (Nat.le_of_ble_eq_true rfl)⟩, rfl, (hm _ w63)⟩ d_Hs_init_31) ?_
  refine mx_all_cons (ok_putF (C := "HeaderSchedule") (T := T_Hs) (N := 11) X (mw_up in_Hs) ty_Hs tyok_Hs nm_Hs rfl 2 (by decide) (hm _ w160) (fun _ h9 => h9) rfl hnm rfl (tyok_Hs 2 (by decide)) mx_vA_ok d_Hs_init_34) ?_
  refine mx_all_cons (ok_aload (fun hl kk => lv_aload_n X.1.1 X.1.2.1 d_Hs_init_37 rfl hl kk) (fun hl kk => lv_aload_nN X.1.1 X.1.2.1 d_Hs_init_37 rfl hl kk)) ?_
  refine mx_all_cons (ok_new (C := "java/util/ArrayList") (T := T_Al) X ⟨(Nat.le_of_ble_eq_true rfl), (Nat.le_of_ble_eq_true rfl)⟩ (mw_up in_Al) ty_Al tyok_Al rfl (hm _ w60) (hm _ w61) (hm _ w36) (by decide) d_Hs_init_38) ?_
  refine mx_all_cons (ok_dup X d_Hs_init_41) ?_
  refine mx_all_cons (ok_callI X (mx_Zok_Z zz) hz ⟨(Nat.le_of_ble_eq_true rfl), (Nat.le_of_ble_eq_true rfl)⟩ (m_Al_init l zz) ⟨mx_cwB 0 hm w64 w62 w36 rfl rfl (by decide +kernel) ⟨(Nat.le_of_ble_eq_true rfl), (Nat.le_of_ble_eq_true rfl)⟩, rfl, (hm _ w63)⟩ d_Hs_init_42) ?_
  refine mx_all_cons (ok_putF (C := "HeaderSchedule") (T := T_Hs) (N := 11) X (mw_up in_Hs) ty_Hs tyok_Hs nm_Hs rfl 3 (by decide) (hm _ w161) (fun _ h9 => h9) rfl hnm rfl (tyok_Hs 3 (by decide)) mx_vA_ok d_Hs_init_45) ?_
  refine mx_all_cons (ok_aload (fun hl kk => lv_aload_n X.1.1 X.1.2.1 d_Hs_init_48 rfl hl kk) (fun hl kk => lv_aload_nN X.1.1 X.1.2.1 d_Hs_init_48 rfl hl kk)) ?_
  refine mx_all_cons (ok_push (fun kk => lv_bipush X.1.1 X.1.2.1 d_Hs_init_49 (by decide) kk)) ?_
  refine mx_all_cons (ok_newi (atype := .boolean) X ⟨(Nat.le_of_ble_eq_true rfl), (Nat.le_of_ble_eq_true rfl)⟩ (hm _ w107) rfl rfl (by decide) d_Hs_init_51) ?_
  refine mx_all_cons (ok_putF (C := "HeaderSchedule") (T := T_Hs) (N := 11) X (mw_up in_Hs) ty_Hs tyok_Hs nm_Hs rfl 4 (by decide) (hm _ w162) (fun _ h9 => h9) rfl hnm rfl (tyok_Hs 4 (by decide)) mx_vA_okR d_Hs_init_53) ?_
  refine mx_all_cons (ok_aload (fun hl kk => lv_aload_n X.1.1 X.1.2.1 d_Hs_init_56 rfl hl kk) (fun hl kk => lv_aload_nN X.1.1 X.1.2.1 d_Hs_init_56 rfl hl kk)) ?_
  refine mx_all_cons (ok_new (C := "HeaderSchedule$Schedule") (T := T_Sc) X ⟨(Nat.le_of_ble_eq_true rfl), (Nat.le_of_ble_eq_true rfl)⟩ (mw_up in_Sc) ty_Sc tyok_Sc rfl (hm _ w86) (hm _ w87) (hm _ w37) (by decide) d_Hs_init_57) ?_
  refine mx_all_cons (ok_dup X d_Hs_init_60) ?_
  refine mx_all_cons (ok_callIN X (mx_Zok_Z zz) hz ⟨(Nat.le_of_ble_eq_true rfl), (Nat.le_of_ble_eq_true rfl)⟩ (m_Sc_init l zz) ⟨mx_cnB 0 hm w90 (hz.2.2.1 (.methodLinkNest "HeaderSchedule" 31 y_Sc_init "HeaderSchedule") (by decide +kernel)) w37 rfl rfl (by decide +kernel) ⟨(Nat.le_of_ble_eq_true rfl), (Nat.le_of_ble_eq_true rfl)⟩, rfl, (hm _ w89)⟩ d_Hs_init_61) ?_
  refine mx_all_cons (ok_putF (C := "HeaderSchedule") (T := T_Hs) (N := 11) X (mw_up in_Hs) ty_Hs tyok_Hs nm_Hs rfl 5 (by decide) (hm _ w163) (fun _ h9 => h9) rfl hnm rfl (tyok_Hs 5 (by decide)) mx_vA_ok d_Hs_init_64) ?_
  refine mx_all_cons (ok_aload (fun hl kk => lv_aload_n X.1.1 X.1.2.1 d_Hs_init_67 rfl hl kk) (fun hl kk => lv_aload_nN X.1.1 X.1.2.1 d_Hs_init_67 rfl hl kk)) ?_
  refine mx_all_cons (ok_new (C := "HeaderSchedule$Wire") (T := T_Wi) X ⟨(Nat.le_of_ble_eq_true rfl), (Nat.le_of_ble_eq_true rfl)⟩ (mw_up in_Wi) ty_Wi tyok_Wi rfl (hm _ w136) (hm _ w137) (hm _ w39) (by decide) d_Hs_init_68) ?_
  refine mx_all_cons (ok_dup X d_Hs_init_71) ?_
  refine mx_all_cons (ok_callIN X (mx_Zok_Z zz) hz ⟨(Nat.le_of_ble_eq_true rfl), (Nat.le_of_ble_eq_true rfl)⟩ (m_Wi_init l zz) ⟨mx_cnB 0 hm w140 (hz.2.2.1 (.methodLinkNest "HeaderSchedule" 38 y_Wi_init "HeaderSchedule") (by decide +kernel)) w39 rfl rfl (by decide +kernel) ⟨(Nat.le_of_ble_eq_true rfl), (Nat.le_of_ble_eq_true rfl)⟩, rfl, (hm _ w139)⟩ d_Hs_init_72) ?_
  refine mx_all_cons (ok_putF (C := "HeaderSchedule") (T := T_Hs) (N := 11) X (mw_up in_Hs) ty_Hs tyok_Hs nm_Hs rfl 6 (by decide) (hm _ w164) (fun _ h9 => h9) rfl hnm rfl (tyok_Hs 6 (by decide)) mx_vA_ok d_Hs_init_75) ?_
  refine mx_all_cons (ok_aload (fun hl kk => lv_aload_n X.1.1 X.1.2.1 d_Hs_init_78 rfl hl kk) (fun hl kk => lv_aload_nN X.1.1 X.1.2.1 d_Hs_init_78 rfl hl kk)) ?_
  refine mx_all_cons (ok_push (fun kk => lv_iconst X.1.1 X.1.2.1 d_Hs_init_79 (by decide) kk)) ?_
  refine mx_all_cons (ok_newi (atype := .int) X ⟨(Nat.le_of_ble_eq_true rfl), (Nat.le_of_ble_eq_true rfl)⟩ (hm _ w157) rfl rfl (by decide) d_Hs_init_80) ?_
  refine mx_all_cons (ok_putF (C := "HeaderSchedule") (T := T_Hs) (N := 11) X (mw_up in_Hs) ty_Hs tyok_Hs nm_Hs rfl 7 (by decide) (hm _ w165) (fun _ h9 => h9) rfl hnm rfl (tyok_Hs 7 (by decide)) mx_vA_okR d_Hs_init_82) ?_
  refine mx_all_cons (ok_aload (fun hl kk => lv_aload_n X.1.1 X.1.2.1 d_Hs_init_85 rfl hl kk) (fun hl kk => lv_aload_nN X.1.1 X.1.2.1 d_Hs_init_85 rfl hl kk)) ?_
  refine mx_all_cons (ok_push (fun kk => lv_iconst X.1.1 X.1.2.1 d_Hs_init_86 (by decide) kk)) ?_
  refine mx_all_cons (ok_put (C := "HeaderSchedule") (T := T_Hs) (N := 11) X (mw_up in_Hs) ty_Hs tyok_Hs nm_Hs rfl 8 (by decide) (hm _ w166) (fun _ h9 => h9) rfl (tyok_Hs 8 (by decide)) mx_vZ_ok d_Hs_init_87) ?_
  refine mx_all_cons (ok_aload (fun hl kk => lv_aload_n X.1.1 X.1.2.1 d_Hs_init_90 rfl hl kk) (fun hl kk => lv_aload_nN X.1.1 X.1.2.1 d_Hs_init_90 rfl hl kk)) ?_
  refine mx_all_cons (ok_push (fun kk => lv_iconst X.1.1 X.1.2.1 d_Hs_init_91 (by decide) kk)) ?_
  refine mx_all_cons (ok_put (C := "HeaderSchedule") (T := T_Hs) (N := 11) X (mw_up in_Hs) ty_Hs tyok_Hs nm_Hs rfl 9 (by decide) (hm _ w167) (fun _ h9 => h9) rfl (tyok_Hs 9 (by decide)) mx_vZ_ok d_Hs_init_92) ?_
  refine mx_all_cons (ok_aload (fun hl kk => lv_aload_n X.1.1 X.1.2.1 d_Hs_init_95 rfl hl kk) (fun hl kk => lv_aload_nN X.1.1 X.1.2.1 d_Hs_init_95 rfl hl kk)) ?_
  refine mx_all_cons (ok_push (fun kk => lv_iconst X.1.1 X.1.2.1 d_Hs_init_96 (by decide) kk)) ?_
  refine mx_all_cons (ok_put (C := "HeaderSchedule") (T := T_Hs) (N := 11) X (mw_up in_Hs) ty_Hs tyok_Hs nm_Hs rfl 10 (by decide) (hm _ w168) (fun _ h9 => h9) rfl (tyok_Hs 10 (by decide)) mx_vI_ok d_Hs_init_97) ?_
  refine mx_all_cons (ok_vret X hr hlk d_Hs_init_100) ?_
  exact mx_all_nil
theorem st_Hs_init_0 (zz : Nat × Nat) (r : mx_T) (ls : mx_L) (st : List Value) (h : mx_H) (c n : Nat) : mx_G r (t_Hs_init zz) 0 ls st h c n = (o_aload 1 0) r (mx_G r (t_Hs_init zz)) 0 ls st h c n := mx_G_eq (tm_Hs_init zz) r 0 ls st h c n
theorem st_Hs_init_1 (zz : Nat × Nat) (r : mx_T) (ls : mx_L) (st : List Value) (h : mx_H) (c n : Nat) : mx_G r (t_Hs_init zz) 1 ls st h c n = (o_objinit) r (mx_G r (t_Hs_init zz)) 1 ls st h c n := mx_G_eq (tm_Hs_init zz) r 1 ls st h c n
theorem st_Hs_init_4 (zz : Nat × Nat) (r : mx_T) (ls : mx_L) (st : List Value) (h : mx_H) (c n : Nat) : mx_G r (t_Hs_init zz) 4 ls st h c n = (o_aload 1 0) r (mx_G r (t_Hs_init zz)) 4 ls st h c n := mx_G_eq (tm_Hs_init zz) r 4 ls st h c n
theorem st_Hs_init_5 (zz : Nat × Nat) (r : mx_T) (ls : mx_L) (st : List Value) (h : mx_H) (c n : Nat) : mx_G r (t_Hs_init zz) 5 ls st h c n = (o_new 16 114 9 3 [.int 0, .null, .int 0]) r (mx_G r (t_Hs_init zz)) 5 ls st h c n := mx_G_eq (tm_Hs_init zz) r 5 ls st h c n
theorem st_Hs_init_8 (zz : Nat × Nat) (r : mx_T) (ls : mx_L) (st : List Value) (h : mx_H) (c n : Nat) : mx_G r (t_Hs_init zz) 8 ls st h c n = (o_dup) r (mx_G r (t_Hs_init zz)) 8 ls st h c n := mx_G_eq (tm_Hs_init zz) r 8 ls st h c n
theorem st_Hs_init_9 (zz : Nat × Nat) (r : mx_T) (ls : mx_L) (st : List Value) (h : mx_H) (c n : Nat) : mx_G r (t_Hs_init zz) 9 ls st h c n = (o_call 16 114 1 0 0 mx_rr (S_Al_init zz)) r (mx_G r (t_Hs_init zz)) 9 ls st h c n := mx_G_eq (tm_Hs_init zz) r 9 ls st h c n
theorem st_Hs_init_12 (zz : Nat × Nat) (r : mx_T) (ls : mx_L) (st : List Value) (h : mx_H) (c n : Nat) : mx_G r (t_Hs_init zz) 12 ls st h c n = (o_put 0 0 mx_vA) r (mx_G r (t_Hs_init zz)) 12 ls st h c n := mx_G_eq (tm_Hs_init zz) r 12 ls st h c n
theorem st_Hs_init_15 (zz : Nat × Nat) (r : mx_T) (ls : mx_L) (st : List Value) (h : mx_H) (c n : Nat) : mx_G r (t_Hs_init zz) 15 ls st h c n = (o_aload 1 0) r (mx_G r (t_Hs_init zz)) 15 ls st h c n := mx_G_eq (tm_Hs_init zz) r 15 ls st h c n
theorem st_Hs_init_16 (zz : Nat × Nat) (r : mx_T) (ls : mx_L) (st : List Value) (h : mx_H) (c n : Nat) : mx_G r (t_Hs_init zz) 16 ls st h c n = (o_new 16 114 9 3 [.int 0, .null, .int 0]) r (mx_G r (t_Hs_init zz)) 16 ls st h c n := mx_G_eq (tm_Hs_init zz) r 16 ls st h c n
theorem st_Hs_init_19 (zz : Nat × Nat) (r : mx_T) (ls : mx_L) (st : List Value) (h : mx_H) (c n : Nat) : mx_G r (t_Hs_init zz) 19 ls st h c n = (o_dup) r (mx_G r (t_Hs_init zz)) 19 ls st h c n := mx_G_eq (tm_Hs_init zz) r 19 ls st h c n
theorem st_Hs_init_20 (zz : Nat × Nat) (r : mx_T) (ls : mx_L) (st : List Value) (h : mx_H) (c n : Nat) : mx_G r (t_Hs_init zz) 20 ls st h c n = (o_call 16 114 1 0 0 mx_rr (S_Al_init zz)) r (mx_G r (t_Hs_init zz)) 20 ls st h c n := mx_G_eq (tm_Hs_init zz) r 20 ls st h c n
theorem st_Hs_init_23 (zz : Nat × Nat) (r : mx_T) (ls : mx_L) (st : List Value) (h : mx_H) (c n : Nat) : mx_G r (t_Hs_init zz) 23 ls st h c n = (o_put 0 1 mx_vA) r (mx_G r (t_Hs_init zz)) 23 ls st h c n := mx_G_eq (tm_Hs_init zz) r 23 ls st h c n
theorem st_Hs_init_26 (zz : Nat × Nat) (r : mx_T) (ls : mx_L) (st : List Value) (h : mx_H) (c n : Nat) : mx_G r (t_Hs_init zz) 26 ls st h c n = (o_aload 1 0) r (mx_G r (t_Hs_init zz)) 26 ls st h c n := mx_G_eq (tm_Hs_init zz) r 26 ls st h c n
theorem st_Hs_init_27 (zz : Nat × Nat) (r : mx_T) (ls : mx_L) (st : List Value) (h : mx_H) (c n : Nat) : mx_G r (t_Hs_init zz) 27 ls st h c n = (o_new 16 114 9 3 [.int 0, .null, .int 0]) r (mx_G r (t_Hs_init zz)) 27 ls st h c n := mx_G_eq (tm_Hs_init zz) r 27 ls st h c n
theorem st_Hs_init_30 (zz : Nat × Nat) (r : mx_T) (ls : mx_L) (st : List Value) (h : mx_H) (c n : Nat) : mx_G r (t_Hs_init zz) 30 ls st h c n = (o_dup) r (mx_G r (t_Hs_init zz)) 30 ls st h c n := mx_G_eq (tm_Hs_init zz) r 30 ls st h c n
theorem st_Hs_init_31 (zz : Nat × Nat) (r : mx_T) (ls : mx_L) (st : List Value) (h : mx_H) (c n : Nat) : mx_G r (t_Hs_init zz) 31 ls st h c n = (o_call 16 114 1 0 0 mx_rr (S_Al_init zz)) r (mx_G r (t_Hs_init zz)) 31 ls st h c n := mx_G_eq (tm_Hs_init zz) r 31 ls st h c n
theorem st_Hs_init_34 (zz : Nat × Nat) (r : mx_T) (ls : mx_L) (st : List Value) (h : mx_H) (c n : Nat) : mx_G r (t_Hs_init zz) 34 ls st h c n = (o_put 0 2 mx_vA) r (mx_G r (t_Hs_init zz)) 34 ls st h c n := mx_G_eq (tm_Hs_init zz) r 34 ls st h c n
theorem st_Hs_init_37 (zz : Nat × Nat) (r : mx_T) (ls : mx_L) (st : List Value) (h : mx_H) (c n : Nat) : mx_G r (t_Hs_init zz) 37 ls st h c n = (o_aload 1 0) r (mx_G r (t_Hs_init zz)) 37 ls st h c n := mx_G_eq (tm_Hs_init zz) r 37 ls st h c n
theorem st_Hs_init_38 (zz : Nat × Nat) (r : mx_T) (ls : mx_L) (st : List Value) (h : mx_H) (c n : Nat) : mx_G r (t_Hs_init zz) 38 ls st h c n = (o_new 16 114 9 3 [.int 0, .null, .int 0]) r (mx_G r (t_Hs_init zz)) 38 ls st h c n := mx_G_eq (tm_Hs_init zz) r 38 ls st h c n
theorem st_Hs_init_41 (zz : Nat × Nat) (r : mx_T) (ls : mx_L) (st : List Value) (h : mx_H) (c n : Nat) : mx_G r (t_Hs_init zz) 41 ls st h c n = (o_dup) r (mx_G r (t_Hs_init zz)) 41 ls st h c n := mx_G_eq (tm_Hs_init zz) r 41 ls st h c n
theorem st_Hs_init_42 (zz : Nat × Nat) (r : mx_T) (ls : mx_L) (st : List Value) (h : mx_H) (c n : Nat) : mx_G r (t_Hs_init zz) 42 ls st h c n = (o_call 16 114 1 0 0 mx_rr (S_Al_init zz)) r (mx_G r (t_Hs_init zz)) 42 ls st h c n := mx_G_eq (tm_Hs_init zz) r 42 ls st h c n
theorem st_Hs_init_45 (zz : Nat × Nat) (r : mx_T) (ls : mx_L) (st : List Value) (h : mx_H) (c n : Nat) : mx_G r (t_Hs_init zz) 45 ls st h c n = (o_put 0 3 mx_vA) r (mx_G r (t_Hs_init zz)) 45 ls st h c n := mx_G_eq (tm_Hs_init zz) r 45 ls st h c n
theorem st_Hs_init_48 (zz : Nat × Nat) (r : mx_T) (ls : mx_L) (st : List Value) (h : mx_H) (c n : Nat) : mx_G r (t_Hs_init zz) 48 ls st h c n = (o_aload 1 0) r (mx_G r (t_Hs_init zz)) 48 ls st h c n := mx_G_eq (tm_Hs_init zz) r 48 ls st h c n
theorem st_Hs_init_49 (zz : Nat × Nat) (r : mx_T) (ls : mx_L) (st : List Value) (h : mx_H) (c n : Nat) : mx_G r (t_Hs_init zz) 49 ls st h c n = (o_push 2 (.int 60)) r (mx_G r (t_Hs_init zz)) 49 ls st h c n := mx_G_eq (tm_Hs_init zz) r 49 ls st h c n
theorem st_Hs_init_51 (zz : Nat × Nat) (r : mx_T) (ls : mx_L) (st : List Value) (h : mx_H) (c n : Nat) : mx_G r (t_Hs_init zz) 51 ls st h c n = (o_newi 16 114 .boolean) r (mx_G r (t_Hs_init zz)) 51 ls st h c n := mx_G_eq (tm_Hs_init zz) r 51 ls st h c n
theorem st_Hs_init_53 (zz : Nat × Nat) (r : mx_T) (ls : mx_L) (st : List Value) (h : mx_H) (c n : Nat) : mx_G r (t_Hs_init zz) 53 ls st h c n = (o_put 0 4 mx_vA) r (mx_G r (t_Hs_init zz)) 53 ls st h c n := mx_G_eq (tm_Hs_init zz) r 53 ls st h c n
theorem st_Hs_init_56 (zz : Nat × Nat) (r : mx_T) (ls : mx_L) (st : List Value) (h : mx_H) (c n : Nat) : mx_G r (t_Hs_init zz) 56 ls st h c n = (o_aload 1 0) r (mx_G r (t_Hs_init zz)) 56 ls st h c n := mx_G_eq (tm_Hs_init zz) r 56 ls st h c n
theorem st_Hs_init_57 (zz : Nat × Nat) (r : mx_T) (ls : mx_L) (st : List Value) (h : mx_H) (c n : Nat) : mx_G r (t_Hs_init zz) 57 ls st h c n = (o_new 16 114 7 8 [.null, .int 0, .int 0, .int 0, .int 0, .int 0, .int 0, .int 0]) r (mx_G r (t_Hs_init zz)) 57 ls st h c n := mx_G_eq (tm_Hs_init zz) r 57 ls st h c n
theorem st_Hs_init_60 (zz : Nat × Nat) (r : mx_T) (ls : mx_L) (st : List Value) (h : mx_H) (c n : Nat) : mx_G r (t_Hs_init zz) 60 ls st h c n = (o_dup) r (mx_G r (t_Hs_init zz)) 60 ls st h c n := mx_G_eq (tm_Hs_init zz) r 60 ls st h c n
theorem st_Hs_init_61 (zz : Nat × Nat) (r : mx_T) (ls : mx_L) (st : List Value) (h : mx_H) (c n : Nat) : mx_G r (t_Hs_init zz) 61 ls st h c n = (o_call 16 114 1 7 15 mx_rr (S_Sc_init zz)) r (mx_G r (t_Hs_init zz)) 61 ls st h c n := mx_G_eq (tm_Hs_init zz) r 61 ls st h c n
theorem st_Hs_init_64 (zz : Nat × Nat) (r : mx_T) (ls : mx_L) (st : List Value) (h : mx_H) (c n : Nat) : mx_G r (t_Hs_init zz) 64 ls st h c n = (o_put 0 5 mx_vA) r (mx_G r (t_Hs_init zz)) 64 ls st h c n := mx_G_eq (tm_Hs_init zz) r 64 ls st h c n
theorem st_Hs_init_67 (zz : Nat × Nat) (r : mx_T) (ls : mx_L) (st : List Value) (h : mx_H) (c n : Nat) : mx_G r (t_Hs_init zz) 67 ls st h c n = (o_aload 1 0) r (mx_G r (t_Hs_init zz)) 67 ls st h c n := mx_G_eq (tm_Hs_init zz) r 67 ls st h c n
theorem st_Hs_init_68 (zz : Nat × Nat) (r : mx_T) (ls : mx_L) (st : List Value) (h : mx_H) (c n : Nat) : mx_G r (t_Hs_init zz) 68 ls st h c n = (o_new 16 114 8 4 [.null, .int 0, .int 0, .int 0]) r (mx_G r (t_Hs_init zz)) 68 ls st h c n := mx_G_eq (tm_Hs_init zz) r 68 ls st h c n
theorem st_Hs_init_71 (zz : Nat × Nat) (r : mx_T) (ls : mx_L) (st : List Value) (h : mx_H) (c n : Nat) : mx_G r (t_Hs_init zz) 71 ls st h c n = (o_dup) r (mx_G r (t_Hs_init zz)) 71 ls st h c n := mx_G_eq (tm_Hs_init zz) r 71 ls st h c n
theorem st_Hs_init_72 (zz : Nat × Nat) (r : mx_T) (ls : mx_L) (st : List Value) (h : mx_H) (c n : Nat) : mx_G r (t_Hs_init zz) 72 ls st h c n = (o_call 16 114 1 1 10 mx_rr (S_Wi_init zz)) r (mx_G r (t_Hs_init zz)) 72 ls st h c n := mx_G_eq (tm_Hs_init zz) r 72 ls st h c n
theorem st_Hs_init_75 (zz : Nat × Nat) (r : mx_T) (ls : mx_L) (st : List Value) (h : mx_H) (c n : Nat) : mx_G r (t_Hs_init zz) 75 ls st h c n = (o_put 0 6 mx_vA) r (mx_G r (t_Hs_init zz)) 75 ls st h c n := mx_G_eq (tm_Hs_init zz) r 75 ls st h c n
theorem st_Hs_init_78 (zz : Nat × Nat) (r : mx_T) (ls : mx_L) (st : List Value) (h : mx_H) (c n : Nat) : mx_G r (t_Hs_init zz) 78 ls st h c n = (o_aload 1 0) r (mx_G r (t_Hs_init zz)) 78 ls st h c n := mx_G_eq (tm_Hs_init zz) r 78 ls st h c n
theorem st_Hs_init_79 (zz : Nat × Nat) (r : mx_T) (ls : mx_L) (st : List Value) (h : mx_H) (c n : Nat) : mx_G r (t_Hs_init zz) 79 ls st h c n = (o_push 1 (.int 5)) r (mx_G r (t_Hs_init zz)) 79 ls st h c n := mx_G_eq (tm_Hs_init zz) r 79 ls st h c n
theorem st_Hs_init_80 (zz : Nat × Nat) (r : mx_T) (ls : mx_L) (st : List Value) (h : mx_H) (c n : Nat) : mx_G r (t_Hs_init zz) 80 ls st h c n = (o_newi 16 114 .int) r (mx_G r (t_Hs_init zz)) 80 ls st h c n := mx_G_eq (tm_Hs_init zz) r 80 ls st h c n
theorem st_Hs_init_82 (zz : Nat × Nat) (r : mx_T) (ls : mx_L) (st : List Value) (h : mx_H) (c n : Nat) : mx_G r (t_Hs_init zz) 82 ls st h c n = (o_put 0 7 mx_vA) r (mx_G r (t_Hs_init zz)) 82 ls st h c n := mx_G_eq (tm_Hs_init zz) r 82 ls st h c n
theorem st_Hs_init_85 (zz : Nat × Nat) (r : mx_T) (ls : mx_L) (st : List Value) (h : mx_H) (c n : Nat) : mx_G r (t_Hs_init zz) 85 ls st h c n = (o_aload 1 0) r (mx_G r (t_Hs_init zz)) 85 ls st h c n := mx_G_eq (tm_Hs_init zz) r 85 ls st h c n
theorem st_Hs_init_86 (zz : Nat × Nat) (r : mx_T) (ls : mx_L) (st : List Value) (h : mx_H) (c n : Nat) : mx_G r (t_Hs_init zz) 86 ls st h c n = (o_push 1 (.int 0)) r (mx_G r (t_Hs_init zz)) 86 ls st h c n := mx_G_eq (tm_Hs_init zz) r 86 ls st h c n
theorem st_Hs_init_87 (zz : Nat × Nat) (r : mx_T) (ls : mx_L) (st : List Value) (h : mx_H) (c n : Nat) : mx_G r (t_Hs_init zz) 87 ls st h c n = (o_put 0 8 mx_vZ) r (mx_G r (t_Hs_init zz)) 87 ls st h c n := mx_G_eq (tm_Hs_init zz) r 87 ls st h c n
theorem st_Hs_init_90 (zz : Nat × Nat) (r : mx_T) (ls : mx_L) (st : List Value) (h : mx_H) (c n : Nat) : mx_G r (t_Hs_init zz) 90 ls st h c n = (o_aload 1 0) r (mx_G r (t_Hs_init zz)) 90 ls st h c n := mx_G_eq (tm_Hs_init zz) r 90 ls st h c n
theorem st_Hs_init_91 (zz : Nat × Nat) (r : mx_T) (ls : mx_L) (st : List Value) (h : mx_H) (c n : Nat) : mx_G r (t_Hs_init zz) 91 ls st h c n = (o_push 1 (.int 0)) r (mx_G r (t_Hs_init zz)) 91 ls st h c n := mx_G_eq (tm_Hs_init zz) r 91 ls st h c n
theorem st_Hs_init_92 (zz : Nat × Nat) (r : mx_T) (ls : mx_L) (st : List Value) (h : mx_H) (c n : Nat) : mx_G r (t_Hs_init zz) 92 ls st h c n = (o_put 0 9 mx_vZ) r (mx_G r (t_Hs_init zz)) 92 ls st h c n := mx_G_eq (tm_Hs_init zz) r 92 ls st h c n
theorem st_Hs_init_95 (zz : Nat × Nat) (r : mx_T) (ls : mx_L) (st : List Value) (h : mx_H) (c n : Nat) : mx_G r (t_Hs_init zz) 95 ls st h c n = (o_aload 1 0) r (mx_G r (t_Hs_init zz)) 95 ls st h c n := mx_G_eq (tm_Hs_init zz) r 95 ls st h c n
theorem st_Hs_init_96 (zz : Nat × Nat) (r : mx_T) (ls : mx_L) (st : List Value) (h : mx_H) (c n : Nat) : mx_G r (t_Hs_init zz) 96 ls st h c n = (o_push 1 (.int 0)) r (mx_G r (t_Hs_init zz)) 96 ls st h c n := mx_G_eq (tm_Hs_init zz) r 96 ls st h c n
theorem st_Hs_init_97 (zz : Nat × Nat) (r : mx_T) (ls : mx_L) (st : List Value) (h : mx_H) (c n : Nat) : mx_G r (t_Hs_init zz) 97 ls st h c n = (o_put 0 10 mx_vI) r (mx_G r (t_Hs_init zz)) 97 ls st h c n := mx_G_eq (tm_Hs_init zz) r 97 ls st h c n
theorem st_Hs_init_100 (zz : Nat × Nat) (r : mx_T) (ls : mx_L) (st : List Value) (h : mx_H) (c n : Nat) : mx_G r (t_Hs_init zz) 100 ls st h c n = (o_vret) r (mx_G r (t_Hs_init zz)) 100 ls st h c n := mx_G_eq (tm_Hs_init zz) r 100 ls st h c n
theorem d_Al_size_0 : decode c_Al_size 0 = .ok (.aload_n 0, 1) := by decide +kernel
theorem d_Al_size_1 : decode c_Al_size 1 = .ok (.getfield 48, 3) := by decide +kernel
theorem d_Al_size_4 : decode c_Al_size 4 = .ok (.ireturn, 1) := by decide +kernel
def t_Al_size (zz : Nat × Nat) : List (Nat × mx_O) := [(0, o_aload 1 0),
  (1, o_get 9 2),
  (4, o_iret)]
set_option maxRecDepth 100000 in
theorem tm_Al_size (zz : Nat × Nat) : mx_All (fun _ o => mx_Mono o) (t_Al_size zz) := by
  refine mx_all_cons (mo_st) ?_
  refine mx_all_cons (mo_st) ?_
  refine mx_all_cons (mo_ret) ?_
  exact mx_all_nil
def S_Al_size (zz : Nat × Nat) : mx_Sp := mx_S 1 0 0 (t_Al_size zz)
theorem sm_Al_size (zz : Nat × Nat) : mx_SMono (S_Al_size zz) := mx_S_mono (tm_Al_size zz)
abbrev rm_Al_size : Room := { frames := 0, cells := 0, slots := 0, locals := 0 }
set_option maxHeartbeats 4000000 in
set_option maxRecDepth 100000 in
theorem m_Al_size (l : Launch) (zz : Nat × Nat) : mx_Met l y_Al_size (wsOf y_Al_size c_Al_size 1 (some .int)) rm_Al_size wcl (mx_Z zz) 0 0 (S_Al_size zz) := by
  refine mx_met (cc := c_Al_size) (ret := (some .int)) (by decide) rfl ?_
  intro p e s m args below meth c D A Post X hz hr hlk hnm
  have hm : ∀ w ∈ mw, w.before args s = true := fun w h => X.1.2.2.2.2 w (List.mem_cons_of_mem _ h)
  refine mx_all_cons (ok_aload (fun hl kk => lv_aload_n X.1.1 X.1.2.1 d_Al_size_0 rfl hl kk) (fun hl kk => lv_aload_nN X.1.1 X.1.2.1 d_Al_size_0 rfl hl kk)) ?_
  refine mx_all_cons (ok_get (C := "java/util/ArrayList") (T := T_Al) (N := 3) X (mw_up in_Al) rfl 2 (by decide) (hm _ w75) (fun _ h9 => h9) d_Al_size_1) ?_
  refine mx_all_cons (ok_iret X hr hlk d_Al_size_4) ?_
  exact mx_all_nil
theorem st_Al_size_0 (zz : Nat × Nat) (r : mx_T) (ls : mx_L) (st : List Value) (h : mx_H) (c n : Nat) : mx_G r (t_Al_size zz) 0 ls st h c n = (o_aload 1 0) r (mx_G r (t_Al_size zz)) 0 ls st h c n := mx_G_eq (tm_Al_size zz) r 0 ls st h c n
theorem st_Al_size_1 (zz : Nat × Nat) (r : mx_T) (ls : mx_L) (st : List Value) (h : mx_H) (c n : Nat) : mx_G r (t_Al_size zz) 1 ls st h c n = (o_get 9 2) r (mx_G r (t_Al_size zz)) 1 ls st h c n := mx_G_eq (tm_Al_size zz) r 1 ls st h c n
theorem st_Al_size_4 (zz : Nat × Nat) (r : mx_T) (ls : mx_L) (st : List Value) (h : mx_H) (c n : Nat) : mx_G r (t_Al_size zz) 4 ls st h c n = (o_iret) r (mx_G r (t_Al_size zz)) 4 ls st h c n := mx_G_eq (tm_Al_size zz) r 4 ls st h c n
theorem d_Hs_isWithin_0 : decode c_Hs_isWithin 0 = .ok (.iload_n 0, 1) := by decide +kernel
theorem d_Hs_isWithin_1 : decode c_Hs_isWithin 1 = .ok (.iload_n 1, 1) := by decide +kernel
theorem d_Hs_isWithin_2 : decode c_Hs_isWithin 2 = .ok (.if_icmp .lt 12, 3) := by decide +kernel
theorem d_Hs_isWithin_5 : decode c_Hs_isWithin 5 = .ok (.iload_n 0, 1) := by decide +kernel
theorem d_Hs_isWithin_6 : decode c_Hs_isWithin 6 = .ok (.iload_n 2, 1) := by decide +kernel
theorem d_Hs_isWithin_7 : decode c_Hs_isWithin 7 = .ok (.if_icmp .gt 7, 3) := by decide +kernel
theorem d_Hs_isWithin_10 : decode c_Hs_isWithin 10 = .ok (.iconst 1, 1) := by decide +kernel
theorem d_Hs_isWithin_11 : decode c_Hs_isWithin 11 = .ok (.goto 4, 3) := by decide +kernel
theorem d_Hs_isWithin_14 : decode c_Hs_isWithin 14 = .ok (.iconst 0, 1) := by decide +kernel
theorem d_Hs_isWithin_15 : decode c_Hs_isWithin 15 = .ok (.ireturn, 1) := by decide +kernel
def t_Hs_isWithin (zz : Nat × Nat) : List (Nat × mx_O) := [(0, o_iload 1 0),
  (1, o_iload 1 1),
  (2, o_icmp 14 (fun x y => x < y)),
  (5, o_iload 1 0),
  (6, o_iload 1 2),
  (7, o_icmp 14 (fun x y => y < x)),
  (10, o_push 1 (.int 1)),
  (11, o_goto 15),
  (14, o_push 1 (.int 0)),
  (15, o_zret)]
set_option maxRecDepth 100000 in
theorem tm_Hs_isWithin (zz : Nat × Nat) : mx_All (fun _ o => mx_Mono o) (t_Hs_isWithin zz) := by
  refine mx_all_cons (mo_st) ?_
  refine mx_all_cons (mo_st) ?_
  refine mx_all_cons (mo_br) ?_
  refine mx_all_cons (mo_st) ?_
  refine mx_all_cons (mo_st) ?_
  refine mx_all_cons (mo_br) ?_
  refine mx_all_cons (mo_st) ?_
  refine mx_all_cons (mo_st) ?_
  refine mx_all_cons (mo_st) ?_
  refine mx_all_cons (mo_zret) ?_
  exact mx_all_nil
def S_Hs_isWithin (zz : Nat × Nat) : mx_Sp := mx_S 3 0 0 (t_Hs_isWithin zz)
theorem sm_Hs_isWithin (zz : Nat × Nat) : mx_SMono (S_Hs_isWithin zz) := mx_S_mono (tm_Hs_isWithin zz)
abbrev rm_Hs_isWithin : Room := { frames := 0, cells := 0, slots := 0, locals := 0 }
set_option maxHeartbeats 4000000 in
set_option maxRecDepth 100000 in
theorem m_Hs_isWithin (l : Launch) (zz : Nat × Nat) : mx_Met l y_Hs_isWithin (wsOf y_Hs_isWithin c_Hs_isWithin 3 (some .boolean)) rm_Hs_isWithin wcl (mx_Z zz) 0 0 (S_Hs_isWithin zz) := by
  refine mx_met (cc := c_Hs_isWithin) (ret := (some .boolean)) (by decide) rfl ?_
  intro p e s m args below meth c D A Post X hz hr hlk hnm
  have hm : ∀ w ∈ mw, w.before args s = true := fun w h => X.1.2.2.2.2 w (List.mem_cons_of_mem _ h)
  refine mx_all_cons (ok_iload (fun hl kk => lv_iload_n X.1.1 X.1.2.1 d_Hs_isWithin_0 rfl hl kk)) ?_
  refine mx_all_cons (ok_iload (fun hl kk => lv_iload_n X.1.1 X.1.2.1 d_Hs_isWithin_1 rfl hl kk)) ?_
  refine mx_all_cons (ok_icmp (fun kt kf => lv_icmp_lt X.1.1 X.1.2.1 d_Hs_isWithin_2 (by decide) kt kf)) ?_
  refine mx_all_cons (ok_iload (fun hl kk => lv_iload_n X.1.1 X.1.2.1 d_Hs_isWithin_5 rfl hl kk)) ?_
  refine mx_all_cons (ok_iload (fun hl kk => lv_iload_n X.1.1 X.1.2.1 d_Hs_isWithin_6 rfl hl kk)) ?_
  refine mx_all_cons (ok_icmp (fun kt kf => lv_icmp_gt X.1.1 X.1.2.1 d_Hs_isWithin_7 (by decide) kt kf)) ?_
  refine mx_all_cons (ok_push (fun kk => lv_iconst X.1.1 X.1.2.1 d_Hs_isWithin_10 (by decide) kk)) ?_
  refine mx_all_cons (ok_goto X d_Hs_isWithin_11 (by decide)) ?_
  refine mx_all_cons (ok_push (fun kk => lv_iconst X.1.1 X.1.2.1 d_Hs_isWithin_14 (by decide) kk)) ?_
  refine mx_all_cons (ok_zret X hr hlk d_Hs_isWithin_15) ?_
  exact mx_all_nil
theorem st_Hs_isWithin_0 (zz : Nat × Nat) (r : mx_T) (ls : mx_L) (st : List Value) (h : mx_H) (c n : Nat) : mx_G r (t_Hs_isWithin zz) 0 ls st h c n = (o_iload 1 0) r (mx_G r (t_Hs_isWithin zz)) 0 ls st h c n := mx_G_eq (tm_Hs_isWithin zz) r 0 ls st h c n
theorem st_Hs_isWithin_1 (zz : Nat × Nat) (r : mx_T) (ls : mx_L) (st : List Value) (h : mx_H) (c n : Nat) : mx_G r (t_Hs_isWithin zz) 1 ls st h c n = (o_iload 1 1) r (mx_G r (t_Hs_isWithin zz)) 1 ls st h c n := mx_G_eq (tm_Hs_isWithin zz) r 1 ls st h c n
theorem st_Hs_isWithin_2 (zz : Nat × Nat) (r : mx_T) (ls : mx_L) (st : List Value) (h : mx_H) (c n : Nat) : mx_G r (t_Hs_isWithin zz) 2 ls st h c n = (o_icmp 14 (fun x y => x < y)) r (mx_G r (t_Hs_isWithin zz)) 2 ls st h c n := mx_G_eq (tm_Hs_isWithin zz) r 2 ls st h c n
theorem st_Hs_isWithin_5 (zz : Nat × Nat) (r : mx_T) (ls : mx_L) (st : List Value) (h : mx_H) (c n : Nat) : mx_G r (t_Hs_isWithin zz) 5 ls st h c n = (o_iload 1 0) r (mx_G r (t_Hs_isWithin zz)) 5 ls st h c n := mx_G_eq (tm_Hs_isWithin zz) r 5 ls st h c n
theorem st_Hs_isWithin_6 (zz : Nat × Nat) (r : mx_T) (ls : mx_L) (st : List Value) (h : mx_H) (c n : Nat) : mx_G r (t_Hs_isWithin zz) 6 ls st h c n = (o_iload 1 2) r (mx_G r (t_Hs_isWithin zz)) 6 ls st h c n := mx_G_eq (tm_Hs_isWithin zz) r 6 ls st h c n
theorem st_Hs_isWithin_7 (zz : Nat × Nat) (r : mx_T) (ls : mx_L) (st : List Value) (h : mx_H) (c n : Nat) : mx_G r (t_Hs_isWithin zz) 7 ls st h c n = (o_icmp 14 (fun x y => y < x)) r (mx_G r (t_Hs_isWithin zz)) 7 ls st h c n := mx_G_eq (tm_Hs_isWithin zz) r 7 ls st h c n
theorem st_Hs_isWithin_10 (zz : Nat × Nat) (r : mx_T) (ls : mx_L) (st : List Value) (h : mx_H) (c n : Nat) : mx_G r (t_Hs_isWithin zz) 10 ls st h c n = (o_push 1 (.int 1)) r (mx_G r (t_Hs_isWithin zz)) 10 ls st h c n := mx_G_eq (tm_Hs_isWithin zz) r 10 ls st h c n
theorem st_Hs_isWithin_11 (zz : Nat × Nat) (r : mx_T) (ls : mx_L) (st : List Value) (h : mx_H) (c n : Nat) : mx_G r (t_Hs_isWithin zz) 11 ls st h c n = (o_goto 15) r (mx_G r (t_Hs_isWithin zz)) 11 ls st h c n := mx_G_eq (tm_Hs_isWithin zz) r 11 ls st h c n
theorem st_Hs_isWithin_14 (zz : Nat × Nat) (r : mx_T) (ls : mx_L) (st : List Value) (h : mx_H) (c n : Nat) : mx_G r (t_Hs_isWithin zz) 14 ls st h c n = (o_push 1 (.int 0)) r (mx_G r (t_Hs_isWithin zz)) 14 ls st h c n := mx_G_eq (tm_Hs_isWithin zz) r 14 ls st h c n
theorem st_Hs_isWithin_15 (zz : Nat × Nat) (r : mx_T) (ls : mx_L) (st : List Value) (h : mx_H) (c n : Nat) : mx_G r (t_Hs_isWithin zz) 15 ls st h c n = (o_zret) r (mx_G r (t_Hs_isWithin zz)) 15 ls st h c n := mx_G_eq (tm_Hs_isWithin zz) r 15 ls st h c n
theorem d_Hs_isFree_0 : decode c_Hs_isFree 0 = .ok (.iload_n 1, 1) := by decide +kernel
theorem d_Hs_isFree_1 : decode c_Hs_isFree 1 = .ok (.iconst 0, 1) := by decide +kernel
theorem d_Hs_isFree_2 : decode c_Hs_isFree 2 = .ok (.bipush 59, 2) := by decide +kernel
theorem d_Hs_isFree_4 : decode c_Hs_isFree 4 = .ok (.invokestatic 66, 3) := by decide +kernel
theorem d_Hs_isFree_7 : decode c_Hs_isFree 7 = .ok (.ifCond .eq 16, 3) := by decide +kernel
theorem d_Hs_isFree_10 : decode c_Hs_isFree 10 = .ok (.aload_n 0, 1) := by decide +kernel
theorem d_Hs_isFree_11 : decode c_Hs_isFree 11 = .ok (.getfield 25, 3) := by decide +kernel
theorem d_Hs_isFree_14 : decode c_Hs_isFree 14 = .ok (.iload_n 1, 1) := by decide +kernel
theorem d_Hs_isFree_15 : decode c_Hs_isFree 15 = .ok (.baload, 1) := by decide +kernel
theorem d_Hs_isFree_16 : decode c_Hs_isFree 16 = .ok (.ifCond .ne 7, 3) := by decide +kernel
theorem d_Hs_isFree_19 : decode c_Hs_isFree 19 = .ok (.iconst 1, 1) := by decide +kernel
theorem d_Hs_isFree_20 : decode c_Hs_isFree 20 = .ok (.goto 4, 3) := by decide +kernel
theorem d_Hs_isFree_23 : decode c_Hs_isFree 23 = .ok (.iconst 0, 1) := by decide +kernel
theorem d_Hs_isFree_24 : decode c_Hs_isFree 24 = .ok (.ireturn, 1) := by decide +kernel
def t_Hs_isFree (zz : Nat × Nat) : List (Nat × mx_O) := [(0, o_iload 1 1),
  (1, o_push 1 (.int 0)),
  (2, o_push 2 (.int 59)),
  (4, o_call 0 0 3 0 0 (fun _ _ => True) (S_Hs_isWithin zz)),
  (7, o_if 23 (fun x => x = 0)),
  (10, o_aload 1 0),
  (11, o_get 0 4),
  (14, o_iload 1 1),
  (15, o_iald .boolean),
  (16, o_if 23 (fun x => ¬ x = 0)),
  (19, o_push 1 (.int 1)),
  (20, o_goto 24),
  (23, o_push 1 (.int 0)),
  (24, o_zret)]
set_option maxRecDepth 100000 in
theorem tm_Hs_isFree (zz : Nat × Nat) : mx_All (fun _ o => mx_Mono o) (t_Hs_isFree zz) := by
  refine mx_all_cons (mo_st) ?_
  refine mx_all_cons (mo_st) ?_
  refine mx_all_cons (mo_st) ?_
  refine mx_all_cons (mo_call (sm_Hs_isWithin zz)) ?_
  refine mx_all_cons (mo_br) ?_
  refine mx_all_cons (mo_st) ?_
  refine mx_all_cons (mo_st) ?_
  refine mx_all_cons (mo_st) ?_
  refine mx_all_cons (mo_sc) ?_
  refine mx_all_cons (mo_br) ?_
  refine mx_all_cons (mo_st) ?_
  refine mx_all_cons (mo_st) ?_
  refine mx_all_cons (mo_st) ?_
  refine mx_all_cons (mo_zret) ?_
  exact mx_all_nil
def S_Hs_isFree (zz : Nat × Nat) : mx_Sp := mx_S 2 0 0 (t_Hs_isFree zz)
theorem sm_Hs_isFree (zz : Nat × Nat) : mx_SMono (S_Hs_isFree zz) := mx_S_mono (tm_Hs_isFree zz)
abbrev rm_Hs_isFree : Room := { frames := 1, cells := 0, slots := 0, locals := 22 }
set_option maxHeartbeats 4000000 in
set_option maxRecDepth 100000 in
theorem m_Hs_isFree (l : Launch) (zz : Nat × Nat) : mx_Met l y_Hs_isFree (wsOf y_Hs_isFree c_Hs_isFree 2 (some .boolean)) rm_Hs_isFree wcl (mx_Z zz) 0 0 (S_Hs_isFree zz) := by
  refine mx_met (cc := c_Hs_isFree) (ret := (some .boolean)) (by decide) rfl ?_
  intro p e s m args below meth c D A Post X hz hr hlk hnm
  have hm : ∀ w ∈ mw, w.before args s = true := fun w h => X.1.2.2.2.2 w (List.mem_cons_of_mem _ h)
  refine mx_all_cons (ok_iload (fun hl kk => lv_iload_n X.1.1 X.1.2.1 d_Hs_isFree_0 rfl hl kk)) ?_
  refine mx_all_cons (ok_push (fun kk => lv_iconst X.1.1 X.1.2.1 d_Hs_isFree_1 (by decide) kk)) ?_
  refine mx_all_cons (ok_push (fun kk => lv_bipush X.1.1 X.1.2.1 d_Hs_isFree_2 (by decide) kk)) ?_
  refine mx_all_cons (ok_callS X (mx_Zok_Z zz) hz ⟨(Nat.le_of_ble_eq_true rfl), (Nat.le_of_ble_eq_true rfl)⟩ (m_Hs_isWithin l zz) ⟨mx_cwB 3 hm w206 w204 w33 rfl rfl (by decide +kernel) ⟨(Nat.le_of_ble_eq_true rfl), (Nat.le_of_ble_eq_true rfl)⟩, (hm _ w205)⟩ d_Hs_isFree_4) ?_
  refine mx_all_cons (ok_if (fun kt kf => lv_if_eq X.1.1 X.1.2.1 d_Hs_isFree_7 (by decide) kt kf)) ?_
  refine mx_all_cons (ok_aload (fun hl kk => lv_aload_n X.1.1 X.1.2.1 d_Hs_isFree_10 rfl hl kk) (fun hl kk => lv_aload_nN X.1.1 X.1.2.1 d_Hs_isFree_10 rfl hl kk)) ?_
  refine mx_all_cons (ok_get (C := "HeaderSchedule") (T := T_Hs) (N := 11) X (mw_up in_Hs) rfl 4 (by decide) (hm _ w162) (fun _ h9 => h9) d_Hs_isFree_11) ?_
  refine mx_all_cons (ok_iload (fun hl kk => lv_iload_n X.1.1 X.1.2.1 d_Hs_isFree_14 rfl hl kk)) ?_
  refine mx_all_cons (ok_zald X d_Hs_isFree_15) ?_
  refine mx_all_cons (ok_if (fun kt kf => lv_if_ne X.1.1 X.1.2.1 d_Hs_isFree_16 (by decide) kt (fun z => kf (fun g => g z)))) ?_
  refine mx_all_cons (ok_push (fun kk => lv_iconst X.1.1 X.1.2.1 d_Hs_isFree_19 (by decide) kk)) ?_
  refine mx_all_cons (ok_goto X d_Hs_isFree_20 (by decide)) ?_
  refine mx_all_cons (ok_push (fun kk => lv_iconst X.1.1 X.1.2.1 d_Hs_isFree_23 (by decide) kk)) ?_
  refine mx_all_cons (ok_zret X hr hlk d_Hs_isFree_24) ?_
  exact mx_all_nil
theorem st_Hs_isFree_0 (zz : Nat × Nat) (r : mx_T) (ls : mx_L) (st : List Value) (h : mx_H) (c n : Nat) : mx_G r (t_Hs_isFree zz) 0 ls st h c n = (o_iload 1 1) r (mx_G r (t_Hs_isFree zz)) 0 ls st h c n := mx_G_eq (tm_Hs_isFree zz) r 0 ls st h c n
theorem st_Hs_isFree_1 (zz : Nat × Nat) (r : mx_T) (ls : mx_L) (st : List Value) (h : mx_H) (c n : Nat) : mx_G r (t_Hs_isFree zz) 1 ls st h c n = (o_push 1 (.int 0)) r (mx_G r (t_Hs_isFree zz)) 1 ls st h c n := mx_G_eq (tm_Hs_isFree zz) r 1 ls st h c n
theorem st_Hs_isFree_2 (zz : Nat × Nat) (r : mx_T) (ls : mx_L) (st : List Value) (h : mx_H) (c n : Nat) : mx_G r (t_Hs_isFree zz) 2 ls st h c n = (o_push 2 (.int 59)) r (mx_G r (t_Hs_isFree zz)) 2 ls st h c n := mx_G_eq (tm_Hs_isFree zz) r 2 ls st h c n
theorem st_Hs_isFree_4 (zz : Nat × Nat) (r : mx_T) (ls : mx_L) (st : List Value) (h : mx_H) (c n : Nat) : mx_G r (t_Hs_isFree zz) 4 ls st h c n = (o_call 0 0 3 0 0 (fun _ _ => True) (S_Hs_isWithin zz)) r (mx_G r (t_Hs_isFree zz)) 4 ls st h c n := mx_G_eq (tm_Hs_isFree zz) r 4 ls st h c n
theorem st_Hs_isFree_7 (zz : Nat × Nat) (r : mx_T) (ls : mx_L) (st : List Value) (h : mx_H) (c n : Nat) : mx_G r (t_Hs_isFree zz) 7 ls st h c n = (o_if 23 (fun x => x = 0)) r (mx_G r (t_Hs_isFree zz)) 7 ls st h c n := mx_G_eq (tm_Hs_isFree zz) r 7 ls st h c n
theorem st_Hs_isFree_10 (zz : Nat × Nat) (r : mx_T) (ls : mx_L) (st : List Value) (h : mx_H) (c n : Nat) : mx_G r (t_Hs_isFree zz) 10 ls st h c n = (o_aload 1 0) r (mx_G r (t_Hs_isFree zz)) 10 ls st h c n := mx_G_eq (tm_Hs_isFree zz) r 10 ls st h c n
theorem st_Hs_isFree_11 (zz : Nat × Nat) (r : mx_T) (ls : mx_L) (st : List Value) (h : mx_H) (c n : Nat) : mx_G r (t_Hs_isFree zz) 11 ls st h c n = (o_get 0 4) r (mx_G r (t_Hs_isFree zz)) 11 ls st h c n := mx_G_eq (tm_Hs_isFree zz) r 11 ls st h c n
theorem st_Hs_isFree_14 (zz : Nat × Nat) (r : mx_T) (ls : mx_L) (st : List Value) (h : mx_H) (c n : Nat) : mx_G r (t_Hs_isFree zz) 14 ls st h c n = (o_iload 1 1) r (mx_G r (t_Hs_isFree zz)) 14 ls st h c n := mx_G_eq (tm_Hs_isFree zz) r 14 ls st h c n
theorem st_Hs_isFree_15 (zz : Nat × Nat) (r : mx_T) (ls : mx_L) (st : List Value) (h : mx_H) (c n : Nat) : mx_G r (t_Hs_isFree zz) 15 ls st h c n = (o_iald .boolean) r (mx_G r (t_Hs_isFree zz)) 15 ls st h c n := mx_G_eq (tm_Hs_isFree zz) r 15 ls st h c n
theorem st_Hs_isFree_16 (zz : Nat × Nat) (r : mx_T) (ls : mx_L) (st : List Value) (h : mx_H) (c n : Nat) : mx_G r (t_Hs_isFree zz) 16 ls st h c n = (o_if 23 (fun x => ¬ x = 0)) r (mx_G r (t_Hs_isFree zz)) 16 ls st h c n := mx_G_eq (tm_Hs_isFree zz) r 16 ls st h c n
theorem st_Hs_isFree_19 (zz : Nat × Nat) (r : mx_T) (ls : mx_L) (st : List Value) (h : mx_H) (c n : Nat) : mx_G r (t_Hs_isFree zz) 19 ls st h c n = (o_push 1 (.int 1)) r (mx_G r (t_Hs_isFree zz)) 19 ls st h c n := mx_G_eq (tm_Hs_isFree zz) r 19 ls st h c n
theorem st_Hs_isFree_20 (zz : Nat × Nat) (r : mx_T) (ls : mx_L) (st : List Value) (h : mx_H) (c n : Nat) : mx_G r (t_Hs_isFree zz) 20 ls st h c n = (o_goto 24) r (mx_G r (t_Hs_isFree zz)) 20 ls st h c n := mx_G_eq (tm_Hs_isFree zz) r 20 ls st h c n
theorem st_Hs_isFree_23 (zz : Nat × Nat) (r : mx_T) (ls : mx_L) (st : List Value) (h : mx_H) (c n : Nat) : mx_G r (t_Hs_isFree zz) 23 ls st h c n = (o_push 1 (.int 0)) r (mx_G r (t_Hs_isFree zz)) 23 ls st h c n := mx_G_eq (tm_Hs_isFree zz) r 23 ls st h c n
theorem st_Hs_isFree_24 (zz : Nat × Nat) (r : mx_T) (ls : mx_L) (st : List Value) (h : mx_H) (c n : Nat) : mx_G r (t_Hs_isFree zz) 24 ls st h c n = (o_zret) r (mx_G r (t_Hs_isFree zz)) 24 ls st h c n := mx_G_eq (tm_Hs_isFree zz) r 24 ls st h c n
theorem d_Hs_bit_0 : decode c_Hs_bit 0 = .ok (.iload_n 0, 1) := by decide +kernel
theorem d_Hs_bit_1 : decode c_Hs_bit 1 = .ok (.iload_n 1, 1) := by decide +kernel
theorem d_Hs_bit_2 : decode c_Hs_bit 2 = .ok (.ishr, 1) := by decide +kernel
theorem d_Hs_bit_3 : decode c_Hs_bit 3 = .ok (.iconst 1, 1) := by decide +kernel
theorem d_Hs_bit_4 : decode c_Hs_bit 4 = .ok (.iand, 1) := by decide +kernel
theorem d_Hs_bit_5 : decode c_Hs_bit 5 = .ok (.ireturn, 1) := by decide +kernel
def t_Hs_bit (zz : Nat × Nat) : List (Nat × mx_O) := [(0, o_iload 1 0),
  (1, o_iload 1 1),
  (2, o_ii (fun x y => x >>> (y &&& 31))),
  (3, o_push 1 (.int 1)),
  (4, o_ii (fun x y => x &&& y)),
  (5, o_iret)]
set_option maxRecDepth 100000 in
theorem tm_Hs_bit (zz : Nat × Nat) : mx_All (fun _ o => mx_Mono o) (t_Hs_bit zz) := by
  refine mx_all_cons (mo_st) ?_
  refine mx_all_cons (mo_st) ?_
  refine mx_all_cons (mo_st) ?_
  refine mx_all_cons (mo_st) ?_
  refine mx_all_cons (mo_st) ?_
  refine mx_all_cons (mo_ret) ?_
  exact mx_all_nil
def S_Hs_bit (zz : Nat × Nat) : mx_Sp := mx_S 2 0 0 (t_Hs_bit zz)
theorem sm_Hs_bit (zz : Nat × Nat) : mx_SMono (S_Hs_bit zz) := mx_S_mono (tm_Hs_bit zz)
abbrev rm_Hs_bit : Room := { frames := 0, cells := 0, slots := 0, locals := 0 }
set_option maxHeartbeats 4000000 in
set_option maxRecDepth 100000 in
theorem m_Hs_bit (l : Launch) (zz : Nat × Nat) : mx_Met l y_Hs_bit (wsOf y_Hs_bit c_Hs_bit 2 (some .int)) rm_Hs_bit wcl (mx_Z zz) 0 0 (S_Hs_bit zz) := by
  refine mx_met (cc := c_Hs_bit) (ret := (some .int)) (by decide) rfl ?_
  intro p e s m args below meth c D A Post X hz hr hlk hnm
  have hm : ∀ w ∈ mw, w.before args s = true := fun w h => X.1.2.2.2.2 w (List.mem_cons_of_mem _ h)
  refine mx_all_cons (ok_iload (fun hl kk => lv_iload_n X.1.1 X.1.2.1 d_Hs_bit_0 rfl hl kk)) ?_
  refine mx_all_cons (ok_iload (fun hl kk => lv_iload_n X.1.1 X.1.2.1 d_Hs_bit_1 rfl hl kk)) ?_
  refine mx_all_cons (ok_ii (fun kk => lv_ishr X.1.1 X.1.2.1 d_Hs_bit_2 kk)) ?_
  refine mx_all_cons (ok_push (fun kk => lv_iconst X.1.1 X.1.2.1 d_Hs_bit_3 (by decide) kk)) ?_
  refine mx_all_cons (ok_ii (fun kk => lv_iand X.1.1 X.1.2.1 d_Hs_bit_4 kk)) ?_
  refine mx_all_cons (ok_iret X hr hlk d_Hs_bit_5) ?_
  exact mx_all_nil
theorem st_Hs_bit_0 (zz : Nat × Nat) (r : mx_T) (ls : mx_L) (st : List Value) (h : mx_H) (c n : Nat) : mx_G r (t_Hs_bit zz) 0 ls st h c n = (o_iload 1 0) r (mx_G r (t_Hs_bit zz)) 0 ls st h c n := mx_G_eq (tm_Hs_bit zz) r 0 ls st h c n
theorem st_Hs_bit_1 (zz : Nat × Nat) (r : mx_T) (ls : mx_L) (st : List Value) (h : mx_H) (c n : Nat) : mx_G r (t_Hs_bit zz) 1 ls st h c n = (o_iload 1 1) r (mx_G r (t_Hs_bit zz)) 1 ls st h c n := mx_G_eq (tm_Hs_bit zz) r 1 ls st h c n
theorem st_Hs_bit_2 (zz : Nat × Nat) (r : mx_T) (ls : mx_L) (st : List Value) (h : mx_H) (c n : Nat) : mx_G r (t_Hs_bit zz) 2 ls st h c n = (o_ii (fun x y => x >>> (y &&& 31))) r (mx_G r (t_Hs_bit zz)) 2 ls st h c n := mx_G_eq (tm_Hs_bit zz) r 2 ls st h c n
theorem st_Hs_bit_3 (zz : Nat × Nat) (r : mx_T) (ls : mx_L) (st : List Value) (h : mx_H) (c n : Nat) : mx_G r (t_Hs_bit zz) 3 ls st h c n = (o_push 1 (.int 1)) r (mx_G r (t_Hs_bit zz)) 3 ls st h c n := mx_G_eq (tm_Hs_bit zz) r 3 ls st h c n
theorem st_Hs_bit_4 (zz : Nat × Nat) (r : mx_T) (ls : mx_L) (st : List Value) (h : mx_H) (c n : Nat) : mx_G r (t_Hs_bit zz) 4 ls st h c n = (o_ii (fun x y => x &&& y)) r (mx_G r (t_Hs_bit zz)) 4 ls st h c n := mx_G_eq (tm_Hs_bit zz) r 4 ls st h c n
theorem st_Hs_bit_5 (zz : Nat × Nat) (r : mx_T) (ls : mx_L) (st : List Value) (h : mx_H) (c n : Nat) : mx_G r (t_Hs_bit zz) 5 ls st h c n = (o_iret) r (mx_G r (t_Hs_bit zz)) 5 ls st h c n := mx_G_eq (tm_Hs_bit zz) r 5 ls st h c n
theorem d_Hs_protect_0 : decode c_Hs_protect 0 = .ok (.iload_n 0, 1) := by decide +kernel
theorem d_Hs_protect_1 : decode c_Hs_protect 1 = .ok (.iconst 0, 1) := by decide +kernel
theorem d_Hs_protect_2 : decode c_Hs_protect 2 = .ok (.invokestatic 233, 3) := by decide +kernel
theorem d_Hs_protect_5 : decode c_Hs_protect 5 = .ok (.iload_n 0, 1) := by decide +kernel
theorem d_Hs_protect_6 : decode c_Hs_protect 6 = .ok (.iconst 1, 1) := by decide +kernel
theorem d_Hs_protect_7 : decode c_Hs_protect 7 = .ok (.invokestatic 233, 3) := by decide +kernel
theorem d_Hs_protect_10 : decode c_Hs_protect 10 = .ok (.ixor, 1) := by decide +kernel
theorem d_Hs_protect_11 : decode c_Hs_protect 11 = .ok (.iload_n 0, 1) := by decide +kernel
theorem d_Hs_protect_12 : decode c_Hs_protect 12 = .ok (.iconst 2, 1) := by decide +kernel
theorem d_Hs_protect_13 : decode c_Hs_protect 13 = .ok (.invokestatic 233, 3) := by decide +kernel
theorem d_Hs_protect_16 : decode c_Hs_protect 16 = .ok (.ixor, 1) := by decide +kernel
theorem d_Hs_protect_17 : decode c_Hs_protect 17 = .ok (.iload_n 0, 1) := by decide +kernel
theorem d_Hs_protect_18 : decode c_Hs_protect 18 = .ok (.iconst 4, 1) := by decide +kernel
theorem d_Hs_protect_19 : decode c_Hs_protect 19 = .ok (.invokestatic 233, 3) := by decide +kernel
theorem d_Hs_protect_22 : decode c_Hs_protect 22 = .ok (.ixor, 1) := by decide +kernel
theorem d_Hs_protect_23 : decode c_Hs_protect 23 = .ok (.istore_n 1, 1) := by decide +kernel
theorem d_Hs_protect_24 : decode c_Hs_protect 24 = .ok (.iconst 1, 1) := by decide +kernel
theorem d_Hs_protect_25 : decode c_Hs_protect 25 = .ok (.iload_n 0, 1) := by decide +kernel
theorem d_Hs_protect_26 : decode c_Hs_protect 26 = .ok (.iconst 1, 1) := by decide +kernel
theorem d_Hs_protect_27 : decode c_Hs_protect 27 = .ok (.invokestatic 233, 3) := by decide +kernel
theorem d_Hs_protect_30 : decode c_Hs_protect 30 = .ok (.iload_n 0, 1) := by decide +kernel
theorem d_Hs_protect_31 : decode c_Hs_protect 31 = .ok (.iconst 3, 1) := by decide +kernel
theorem d_Hs_protect_32 : decode c_Hs_protect 32 = .ok (.invokestatic 233, 3) := by decide +kernel
theorem d_Hs_protect_35 : decode c_Hs_protect 35 = .ok (.ixor, 1) := by decide +kernel
theorem d_Hs_protect_36 : decode c_Hs_protect 36 = .ok (.iload_n 0, 1) := by decide +kernel
theorem d_Hs_protect_37 : decode c_Hs_protect 37 = .ok (.iconst 4, 1) := by decide +kernel
theorem d_Hs_protect_38 : decode c_Hs_protect 38 = .ok (.invokestatic 233, 3) := by decide +kernel
theorem d_Hs_protect_41 : decode c_Hs_protect 41 = .ok (.ixor, 1) := by decide +kernel
theorem d_Hs_protect_42 : decode c_Hs_protect 42 = .ok (.iload_n 0, 1) := by decide +kernel
theorem d_Hs_protect_43 : decode c_Hs_protect 43 = .ok (.iconst 5, 1) := by decide +kernel
theorem d_Hs_protect_44 : decode c_Hs_protect 44 = .ok (.invokestatic 233, 3) := by decide +kernel
theorem d_Hs_protect_47 : decode c_Hs_protect 47 = .ok (.ixor, 1) := by decide +kernel
theorem d_Hs_protect_48 : decode c_Hs_protect 48 = .ok (.isub, 1) := by decide +kernel
theorem d_Hs_protect_49 : decode c_Hs_protect 49 = .ok (.istore_n 2, 1) := by decide +kernel
theorem d_Hs_protect_50 : decode c_Hs_protect 50 = .ok (.iload_n 0, 1) := by decide +kernel
theorem d_Hs_protect_51 : decode c_Hs_protect 51 = .ok (.bipush 64, 2) := by decide +kernel
theorem d_Hs_protect_53 : decode c_Hs_protect 53 = .ok (.iload_n 1, 1) := by decide +kernel
theorem d_Hs_protect_54 : decode c_Hs_protect 54 = .ok (.imul, 1) := by decide +kernel
theorem d_Hs_protect_55 : decode c_Hs_protect 55 = .ok (.iadd, 1) := by decide +kernel
theorem d_Hs_protect_56 : decode c_Hs_protect 56 = .ok (.sipush 128, 3) := by decide +kernel
theorem d_Hs_protect_59 : decode c_Hs_protect 59 = .ok (.iload_n 2, 1) := by decide +kernel
theorem d_Hs_protect_60 : decode c_Hs_protect 60 = .ok (.imul, 1) := by decide +kernel
theorem d_Hs_protect_61 : decode c_Hs_protect 61 = .ok (.iadd, 1) := by decide +kernel
theorem d_Hs_protect_62 : decode c_Hs_protect 62 = .ok (.ireturn, 1) := by decide +kernel
def t_Hs_protect (zz : Nat × Nat) : List (Nat × mx_O) := [(0, o_iload 1 0),
  (1, o_push 1 (.int 0)),
  (2, o_call 0 0 2 0 0 (fun _ _ => True) (S_Hs_bit zz)),
  (5, o_iload 1 0),
  (6, o_push 1 (.int 1)),
  (7, o_call 0 0 2 0 0 (fun _ _ => True) (S_Hs_bit zz)),
  (10, o_ii (fun x y => x ^^^ y)),
  (11, o_iload 1 0),
  (12, o_push 1 (.int 2)),
  (13, o_call 0 0 2 0 0 (fun _ _ => True) (S_Hs_bit zz)),
  (16, o_ii (fun x y => x ^^^ y)),
  (17, o_iload 1 0),
  (18, o_push 1 (.int 4)),
  (19, o_call 0 0 2 0 0 (fun _ _ => True) (S_Hs_bit zz)),
  (22, o_ii (fun x y => x ^^^ y)),
  (23, o_istore 1 1),
  (24, o_push 1 (.int 1)),
  (25, o_iload 1 0),
  (26, o_push 1 (.int 1)),
  (27, o_call 0 0 2 0 0 (fun _ _ => True) (S_Hs_bit zz)),
  (30, o_iload 1 0),
  (31, o_push 1 (.int 3)),
  (32, o_call 0 0 2 0 0 (fun _ _ => True) (S_Hs_bit zz)),
  (35, o_ii (fun x y => x ^^^ y)),
  (36, o_iload 1 0),
  (37, o_push 1 (.int 4)),
  (38, o_call 0 0 2 0 0 (fun _ _ => True) (S_Hs_bit zz)),
  (41, o_ii (fun x y => x ^^^ y)),
  (42, o_iload 1 0),
  (43, o_push 1 (.int 5)),
  (44, o_call 0 0 2 0 0 (fun _ _ => True) (S_Hs_bit zz)),
  (47, o_ii (fun x y => x ^^^ y)),
  (48, o_ii (fun x y => x - y)),
  (49, o_istore 1 2),
  (50, o_iload 1 0),
  (51, o_push 2 (.int 64)),
  (53, o_iload 1 1),
  (54, o_ii (fun x y => x * y)),
  (55, o_ii (fun x y => x + y)),
  (56, o_push 3 (.int 128)),
  (59, o_iload 1 2),
  (60, o_ii (fun x y => x * y)),
  (61, o_ii (fun x y => x + y)),
  (62, o_iret)]
set_option maxRecDepth 100000 in
theorem tm_Hs_protect (zz : Nat × Nat) : mx_All (fun _ o => mx_Mono o) (t_Hs_protect zz) := by
  refine mx_all_cons (mo_st) ?_
  refine mx_all_cons (mo_st) ?_
  refine mx_all_cons (mo_call (sm_Hs_bit zz)) ?_
  refine mx_all_cons (mo_st) ?_
  refine mx_all_cons (mo_st) ?_
  refine mx_all_cons (mo_call (sm_Hs_bit zz)) ?_
  refine mx_all_cons (mo_st) ?_
  refine mx_all_cons (mo_st) ?_
  refine mx_all_cons (mo_st) ?_
  refine mx_all_cons (mo_call (sm_Hs_bit zz)) ?_
  refine mx_all_cons (mo_st) ?_
  refine mx_all_cons (mo_st) ?_
  refine mx_all_cons (mo_st) ?_
  refine mx_all_cons (mo_call (sm_Hs_bit zz)) ?_
  refine mx_all_cons (mo_st) ?_
  refine mx_all_cons (mo_st) ?_
  refine mx_all_cons (mo_st) ?_
  refine mx_all_cons (mo_st) ?_
  refine mx_all_cons (mo_st) ?_
  refine mx_all_cons (mo_call (sm_Hs_bit zz)) ?_
  refine mx_all_cons (mo_st) ?_
  refine mx_all_cons (mo_st) ?_
  refine mx_all_cons (mo_call (sm_Hs_bit zz)) ?_
  refine mx_all_cons (mo_st) ?_
  refine mx_all_cons (mo_st) ?_
  refine mx_all_cons (mo_st) ?_
  refine mx_all_cons (mo_call (sm_Hs_bit zz)) ?_
  refine mx_all_cons (mo_st) ?_
  refine mx_all_cons (mo_st) ?_
  refine mx_all_cons (mo_st) ?_
  refine mx_all_cons (mo_call (sm_Hs_bit zz)) ?_
  refine mx_all_cons (mo_st) ?_
  refine mx_all_cons (mo_st) ?_
  refine mx_all_cons (mo_st) ?_
  refine mx_all_cons (mo_st) ?_
  refine mx_all_cons (mo_st) ?_
  refine mx_all_cons (mo_st) ?_
  refine mx_all_cons (mo_st) ?_
  refine mx_all_cons (mo_st) ?_
  refine mx_all_cons (mo_st) ?_
  refine mx_all_cons (mo_st) ?_
  refine mx_all_cons (mo_st) ?_
  refine mx_all_cons (mo_st) ?_
  refine mx_all_cons (mo_ret) ?_
  exact mx_all_nil
def S_Hs_protect (zz : Nat × Nat) : mx_Sp := mx_S 3 0 0 (t_Hs_protect zz)
theorem sm_Hs_protect (zz : Nat × Nat) : mx_SMono (S_Hs_protect zz) := mx_S_mono (tm_Hs_protect zz)
abbrev rm_Hs_protect : Room := { frames := 1, cells := 0, slots := 0, locals := 21 }
set_option maxHeartbeats 4000000 in
set_option maxRecDepth 100000 in
theorem m_Hs_protect (l : Launch) (zz : Nat × Nat) : mx_Met l y_Hs_protect (wsOf y_Hs_protect c_Hs_protect 3 (some .int)) rm_Hs_protect wcl (mx_Z zz) 0 0 (S_Hs_protect zz) := by
  refine mx_met (cc := c_Hs_protect) (ret := (some .int)) (by decide) rfl ?_
  intro p e s m args below meth c D A Post X hz hr hlk hnm
  have hm : ∀ w ∈ mw, w.before args s = true := fun w h => X.1.2.2.2.2 w (List.mem_cons_of_mem _ h)
  refine mx_all_cons (ok_iload (fun hl kk => lv_iload_n X.1.1 X.1.2.1 d_Hs_protect_0 rfl hl kk)) ?_
  refine mx_all_cons (ok_push (fun kk => lv_iconst X.1.1 X.1.2.1 d_Hs_protect_1 (by decide) kk)) ?_
  refine mx_all_cons (ok_callS X (mx_Zok_Z zz) hz ⟨(Nat.le_of_ble_eq_true rfl), (Nat.le_of_ble_eq_true rfl)⟩ (m_Hs_bit l zz) ⟨mx_cwB 2 hm w214 w212 w33 rfl rfl (by decide +kernel) ⟨(Nat.le_of_ble_eq_true rfl), (Nat.le_of_ble_eq_true rfl)⟩, (hm _ w213)⟩ d_Hs_protect_2) ?_
  refine mx_all_cons (ok_iload (fun hl kk => lv_iload_n X.1.1 X.1.2.1 d_Hs_protect_5 rfl hl kk)) ?_
  refine mx_all_cons (ok_push (fun kk => lv_iconst X.1.1 X.1.2.1 d_Hs_protect_6 (by decide) kk)) ?_
  refine mx_all_cons (ok_callS X (mx_Zok_Z zz) hz ⟨(Nat.le_of_ble_eq_true rfl), (Nat.le_of_ble_eq_true rfl)⟩ (m_Hs_bit l zz) ⟨mx_cwB 2 hm w214 w212 w33 rfl rfl (by decide +kernel) ⟨(Nat.le_of_ble_eq_true rfl), (Nat.le_of_ble_eq_true rfl)⟩, (hm _ w213)⟩ d_Hs_protect_7) ?_
  refine mx_all_cons (ok_ii (fun kk => lv_ixor X.1.1 X.1.2.1 d_Hs_protect_10 kk)) ?_
  refine mx_all_cons (ok_iload (fun hl kk => lv_iload_n X.1.1 X.1.2.1 d_Hs_protect_11 rfl hl kk)) ?_
  refine mx_all_cons (ok_push (fun kk => lv_iconst X.1.1 X.1.2.1 d_Hs_protect_12 (by decide) kk)) ?_
  refine mx_all_cons (ok_callS X (mx_Zok_Z zz) hz ⟨(Nat.le_of_ble_eq_true rfl), (Nat.le_of_ble_eq_true rfl)⟩ (m_Hs_bit l zz) ⟨mx_cwB 2 hm w214 w212 w33 rfl rfl (by decide +kernel) ⟨(Nat.le_of_ble_eq_true rfl), (Nat.le_of_ble_eq_true rfl)⟩, (hm _ w213)⟩ d_Hs_protect_13) ?_
  refine mx_all_cons (ok_ii (fun kk => lv_ixor X.1.1 X.1.2.1 d_Hs_protect_16 kk)) ?_
  refine mx_all_cons (ok_iload (fun hl kk => lv_iload_n X.1.1 X.1.2.1 d_Hs_protect_17 rfl hl kk)) ?_
  refine mx_all_cons (ok_push (fun kk => lv_iconst X.1.1 X.1.2.1 d_Hs_protect_18 (by decide) kk)) ?_
  refine mx_all_cons (ok_callS X (mx_Zok_Z zz) hz ⟨(Nat.le_of_ble_eq_true rfl), (Nat.le_of_ble_eq_true rfl)⟩ (m_Hs_bit l zz) ⟨mx_cwB 2 hm w214 w212 w33 rfl rfl (by decide +kernel) ⟨(Nat.le_of_ble_eq_true rfl), (Nat.le_of_ble_eq_true rfl)⟩, (hm _ w213)⟩ d_Hs_protect_19) ?_
  refine mx_all_cons (ok_ii (fun kk => lv_ixor X.1.1 X.1.2.1 d_Hs_protect_22 kk)) ?_
  refine mx_all_cons (ok_istore (fun hl kk => lv_istore_n X.1.1 X.1.2.1 d_Hs_protect_23 rfl hl (by decide) rfl kk)) ?_
  refine mx_all_cons (ok_push (fun kk => lv_iconst X.1.1 X.1.2.1 d_Hs_protect_24 (by decide) kk)) ?_
  refine mx_all_cons (ok_iload (fun hl kk => lv_iload_n X.1.1 X.1.2.1 d_Hs_protect_25 rfl hl kk)) ?_
  refine mx_all_cons (ok_push (fun kk => lv_iconst X.1.1 X.1.2.1 d_Hs_protect_26 (by decide) kk)) ?_
  refine mx_all_cons (ok_callS X (mx_Zok_Z zz) hz ⟨(Nat.le_of_ble_eq_true rfl), (Nat.le_of_ble_eq_true rfl)⟩ (m_Hs_bit l zz) ⟨mx_cwB 2 hm w214 w212 w33 rfl rfl (by decide +kernel) ⟨(Nat.le_of_ble_eq_true rfl), (Nat.le_of_ble_eq_true rfl)⟩, (hm _ w213)⟩ d_Hs_protect_27) ?_
  refine mx_all_cons (ok_iload (fun hl kk => lv_iload_n X.1.1 X.1.2.1 d_Hs_protect_30 rfl hl kk)) ?_
  refine mx_all_cons (ok_push (fun kk => lv_iconst X.1.1 X.1.2.1 d_Hs_protect_31 (by decide) kk)) ?_
  refine mx_all_cons (ok_callS X (mx_Zok_Z zz) hz ⟨(Nat.le_of_ble_eq_true rfl), (Nat.le_of_ble_eq_true rfl)⟩ (m_Hs_bit l zz) ⟨mx_cwB 2 hm w214 w212 w33 rfl rfl (by decide +kernel) ⟨(Nat.le_of_ble_eq_true rfl), (Nat.le_of_ble_eq_true rfl)⟩, (hm _ w213)⟩ d_Hs_protect_32) ?_
  refine mx_all_cons (ok_ii (fun kk => lv_ixor X.1.1 X.1.2.1 d_Hs_protect_35 kk)) ?_
  refine mx_all_cons (ok_iload (fun hl kk => lv_iload_n X.1.1 X.1.2.1 d_Hs_protect_36 rfl hl kk)) ?_
  refine mx_all_cons (ok_push (fun kk => lv_iconst X.1.1 X.1.2.1 d_Hs_protect_37 (by decide) kk)) ?_
  refine mx_all_cons (ok_callS X (mx_Zok_Z zz) hz ⟨(Nat.le_of_ble_eq_true rfl), (Nat.le_of_ble_eq_true rfl)⟩ (m_Hs_bit l zz) ⟨mx_cwB 2 hm w214 w212 w33 rfl rfl (by decide +kernel) ⟨(Nat.le_of_ble_eq_true rfl), (Nat.le_of_ble_eq_true rfl)⟩, (hm _ w213)⟩ d_Hs_protect_38) ?_
  refine mx_all_cons (ok_ii (fun kk => lv_ixor X.1.1 X.1.2.1 d_Hs_protect_41 kk)) ?_
  refine mx_all_cons (ok_iload (fun hl kk => lv_iload_n X.1.1 X.1.2.1 d_Hs_protect_42 rfl hl kk)) ?_
  refine mx_all_cons (ok_push (fun kk => lv_iconst X.1.1 X.1.2.1 d_Hs_protect_43 (by decide) kk)) ?_
  refine mx_all_cons (ok_callS X (mx_Zok_Z zz) hz ⟨(Nat.le_of_ble_eq_true rfl), (Nat.le_of_ble_eq_true rfl)⟩ (m_Hs_bit l zz) ⟨mx_cwB 2 hm w214 w212 w33 rfl rfl (by decide +kernel) ⟨(Nat.le_of_ble_eq_true rfl), (Nat.le_of_ble_eq_true rfl)⟩, (hm _ w213)⟩ d_Hs_protect_44) ?_
  refine mx_all_cons (ok_ii (fun kk => lv_ixor X.1.1 X.1.2.1 d_Hs_protect_47 kk)) ?_
  refine mx_all_cons (ok_ii (fun kk => lv_isub X.1.1 X.1.2.1 d_Hs_protect_48 kk)) ?_
  refine mx_all_cons (ok_istore (fun hl kk => lv_istore_n X.1.1 X.1.2.1 d_Hs_protect_49 rfl hl (by decide) rfl kk)) ?_
  refine mx_all_cons (ok_iload (fun hl kk => lv_iload_n X.1.1 X.1.2.1 d_Hs_protect_50 rfl hl kk)) ?_
  refine mx_all_cons (ok_push (fun kk => lv_bipush X.1.1 X.1.2.1 d_Hs_protect_51 (by decide) kk)) ?_
  refine mx_all_cons (ok_iload (fun hl kk => lv_iload_n X.1.1 X.1.2.1 d_Hs_protect_53 rfl hl kk)) ?_
  refine mx_all_cons (ok_ii (fun kk => lv_imul X.1.1 X.1.2.1 d_Hs_protect_54 kk)) ?_
  refine mx_all_cons (ok_ii (fun kk => lv_iadd X.1.1 X.1.2.1 d_Hs_protect_55 kk)) ?_
  refine mx_all_cons (ok_push (fun kk => lv_sipush X.1.1 X.1.2.1 d_Hs_protect_56 (by decide) kk)) ?_
  refine mx_all_cons (ok_iload (fun hl kk => lv_iload_n X.1.1 X.1.2.1 d_Hs_protect_59 rfl hl kk)) ?_
  refine mx_all_cons (ok_ii (fun kk => lv_imul X.1.1 X.1.2.1 d_Hs_protect_60 kk)) ?_
  refine mx_all_cons (ok_ii (fun kk => lv_iadd X.1.1 X.1.2.1 d_Hs_protect_61 kk)) ?_
  refine mx_all_cons (ok_iret X hr hlk d_Hs_protect_62) ?_
  exact mx_all_nil
theorem st_Hs_protect_0 (zz : Nat × Nat) (r : mx_T) (ls : mx_L) (st : List Value) (h : mx_H) (c n : Nat) : mx_G r (t_Hs_protect zz) 0 ls st h c n = (o_iload 1 0) r (mx_G r (t_Hs_protect zz)) 0 ls st h c n := mx_G_eq (tm_Hs_protect zz) r 0 ls st h c n
theorem st_Hs_protect_1 (zz : Nat × Nat) (r : mx_T) (ls : mx_L) (st : List Value) (h : mx_H) (c n : Nat) : mx_G r (t_Hs_protect zz) 1 ls st h c n = (o_push 1 (.int 0)) r (mx_G r (t_Hs_protect zz)) 1 ls st h c n := mx_G_eq (tm_Hs_protect zz) r 1 ls st h c n
theorem st_Hs_protect_2 (zz : Nat × Nat) (r : mx_T) (ls : mx_L) (st : List Value) (h : mx_H) (c n : Nat) : mx_G r (t_Hs_protect zz) 2 ls st h c n = (o_call 0 0 2 0 0 (fun _ _ => True) (S_Hs_bit zz)) r (mx_G r (t_Hs_protect zz)) 2 ls st h c n := mx_G_eq (tm_Hs_protect zz) r 2 ls st h c n
theorem st_Hs_protect_5 (zz : Nat × Nat) (r : mx_T) (ls : mx_L) (st : List Value) (h : mx_H) (c n : Nat) : mx_G r (t_Hs_protect zz) 5 ls st h c n = (o_iload 1 0) r (mx_G r (t_Hs_protect zz)) 5 ls st h c n := mx_G_eq (tm_Hs_protect zz) r 5 ls st h c n
theorem st_Hs_protect_6 (zz : Nat × Nat) (r : mx_T) (ls : mx_L) (st : List Value) (h : mx_H) (c n : Nat) : mx_G r (t_Hs_protect zz) 6 ls st h c n = (o_push 1 (.int 1)) r (mx_G r (t_Hs_protect zz)) 6 ls st h c n := mx_G_eq (tm_Hs_protect zz) r 6 ls st h c n
theorem st_Hs_protect_7 (zz : Nat × Nat) (r : mx_T) (ls : mx_L) (st : List Value) (h : mx_H) (c n : Nat) : mx_G r (t_Hs_protect zz) 7 ls st h c n = (o_call 0 0 2 0 0 (fun _ _ => True) (S_Hs_bit zz)) r (mx_G r (t_Hs_protect zz)) 7 ls st h c n := mx_G_eq (tm_Hs_protect zz) r 7 ls st h c n
theorem st_Hs_protect_10 (zz : Nat × Nat) (r : mx_T) (ls : mx_L) (st : List Value) (h : mx_H) (c n : Nat) : mx_G r (t_Hs_protect zz) 10 ls st h c n = (o_ii (fun x y => x ^^^ y)) r (mx_G r (t_Hs_protect zz)) 10 ls st h c n := mx_G_eq (tm_Hs_protect zz) r 10 ls st h c n
theorem st_Hs_protect_11 (zz : Nat × Nat) (r : mx_T) (ls : mx_L) (st : List Value) (h : mx_H) (c n : Nat) : mx_G r (t_Hs_protect zz) 11 ls st h c n = (o_iload 1 0) r (mx_G r (t_Hs_protect zz)) 11 ls st h c n := mx_G_eq (tm_Hs_protect zz) r 11 ls st h c n
theorem st_Hs_protect_12 (zz : Nat × Nat) (r : mx_T) (ls : mx_L) (st : List Value) (h : mx_H) (c n : Nat) : mx_G r (t_Hs_protect zz) 12 ls st h c n = (o_push 1 (.int 2)) r (mx_G r (t_Hs_protect zz)) 12 ls st h c n := mx_G_eq (tm_Hs_protect zz) r 12 ls st h c n
theorem st_Hs_protect_13 (zz : Nat × Nat) (r : mx_T) (ls : mx_L) (st : List Value) (h : mx_H) (c n : Nat) : mx_G r (t_Hs_protect zz) 13 ls st h c n = (o_call 0 0 2 0 0 (fun _ _ => True) (S_Hs_bit zz)) r (mx_G r (t_Hs_protect zz)) 13 ls st h c n := mx_G_eq (tm_Hs_protect zz) r 13 ls st h c n
theorem st_Hs_protect_16 (zz : Nat × Nat) (r : mx_T) (ls : mx_L) (st : List Value) (h : mx_H) (c n : Nat) : mx_G r (t_Hs_protect zz) 16 ls st h c n = (o_ii (fun x y => x ^^^ y)) r (mx_G r (t_Hs_protect zz)) 16 ls st h c n := mx_G_eq (tm_Hs_protect zz) r 16 ls st h c n
theorem st_Hs_protect_17 (zz : Nat × Nat) (r : mx_T) (ls : mx_L) (st : List Value) (h : mx_H) (c n : Nat) : mx_G r (t_Hs_protect zz) 17 ls st h c n = (o_iload 1 0) r (mx_G r (t_Hs_protect zz)) 17 ls st h c n := mx_G_eq (tm_Hs_protect zz) r 17 ls st h c n
theorem st_Hs_protect_18 (zz : Nat × Nat) (r : mx_T) (ls : mx_L) (st : List Value) (h : mx_H) (c n : Nat) : mx_G r (t_Hs_protect zz) 18 ls st h c n = (o_push 1 (.int 4)) r (mx_G r (t_Hs_protect zz)) 18 ls st h c n := mx_G_eq (tm_Hs_protect zz) r 18 ls st h c n
theorem st_Hs_protect_19 (zz : Nat × Nat) (r : mx_T) (ls : mx_L) (st : List Value) (h : mx_H) (c n : Nat) : mx_G r (t_Hs_protect zz) 19 ls st h c n = (o_call 0 0 2 0 0 (fun _ _ => True) (S_Hs_bit zz)) r (mx_G r (t_Hs_protect zz)) 19 ls st h c n := mx_G_eq (tm_Hs_protect zz) r 19 ls st h c n
theorem st_Hs_protect_22 (zz : Nat × Nat) (r : mx_T) (ls : mx_L) (st : List Value) (h : mx_H) (c n : Nat) : mx_G r (t_Hs_protect zz) 22 ls st h c n = (o_ii (fun x y => x ^^^ y)) r (mx_G r (t_Hs_protect zz)) 22 ls st h c n := mx_G_eq (tm_Hs_protect zz) r 22 ls st h c n
theorem st_Hs_protect_23 (zz : Nat × Nat) (r : mx_T) (ls : mx_L) (st : List Value) (h : mx_H) (c n : Nat) : mx_G r (t_Hs_protect zz) 23 ls st h c n = (o_istore 1 1) r (mx_G r (t_Hs_protect zz)) 23 ls st h c n := mx_G_eq (tm_Hs_protect zz) r 23 ls st h c n
theorem st_Hs_protect_24 (zz : Nat × Nat) (r : mx_T) (ls : mx_L) (st : List Value) (h : mx_H) (c n : Nat) : mx_G r (t_Hs_protect zz) 24 ls st h c n = (o_push 1 (.int 1)) r (mx_G r (t_Hs_protect zz)) 24 ls st h c n := mx_G_eq (tm_Hs_protect zz) r 24 ls st h c n
theorem st_Hs_protect_25 (zz : Nat × Nat) (r : mx_T) (ls : mx_L) (st : List Value) (h : mx_H) (c n : Nat) : mx_G r (t_Hs_protect zz) 25 ls st h c n = (o_iload 1 0) r (mx_G r (t_Hs_protect zz)) 25 ls st h c n := mx_G_eq (tm_Hs_protect zz) r 25 ls st h c n
theorem st_Hs_protect_26 (zz : Nat × Nat) (r : mx_T) (ls : mx_L) (st : List Value) (h : mx_H) (c n : Nat) : mx_G r (t_Hs_protect zz) 26 ls st h c n = (o_push 1 (.int 1)) r (mx_G r (t_Hs_protect zz)) 26 ls st h c n := mx_G_eq (tm_Hs_protect zz) r 26 ls st h c n
theorem st_Hs_protect_27 (zz : Nat × Nat) (r : mx_T) (ls : mx_L) (st : List Value) (h : mx_H) (c n : Nat) : mx_G r (t_Hs_protect zz) 27 ls st h c n = (o_call 0 0 2 0 0 (fun _ _ => True) (S_Hs_bit zz)) r (mx_G r (t_Hs_protect zz)) 27 ls st h c n := mx_G_eq (tm_Hs_protect zz) r 27 ls st h c n
theorem st_Hs_protect_30 (zz : Nat × Nat) (r : mx_T) (ls : mx_L) (st : List Value) (h : mx_H) (c n : Nat) : mx_G r (t_Hs_protect zz) 30 ls st h c n = (o_iload 1 0) r (mx_G r (t_Hs_protect zz)) 30 ls st h c n := mx_G_eq (tm_Hs_protect zz) r 30 ls st h c n
theorem st_Hs_protect_31 (zz : Nat × Nat) (r : mx_T) (ls : mx_L) (st : List Value) (h : mx_H) (c n : Nat) : mx_G r (t_Hs_protect zz) 31 ls st h c n = (o_push 1 (.int 3)) r (mx_G r (t_Hs_protect zz)) 31 ls st h c n := mx_G_eq (tm_Hs_protect zz) r 31 ls st h c n
theorem st_Hs_protect_32 (zz : Nat × Nat) (r : mx_T) (ls : mx_L) (st : List Value) (h : mx_H) (c n : Nat) : mx_G r (t_Hs_protect zz) 32 ls st h c n = (o_call 0 0 2 0 0 (fun _ _ => True) (S_Hs_bit zz)) r (mx_G r (t_Hs_protect zz)) 32 ls st h c n := mx_G_eq (tm_Hs_protect zz) r 32 ls st h c n
theorem st_Hs_protect_35 (zz : Nat × Nat) (r : mx_T) (ls : mx_L) (st : List Value) (h : mx_H) (c n : Nat) : mx_G r (t_Hs_protect zz) 35 ls st h c n = (o_ii (fun x y => x ^^^ y)) r (mx_G r (t_Hs_protect zz)) 35 ls st h c n := mx_G_eq (tm_Hs_protect zz) r 35 ls st h c n
theorem st_Hs_protect_36 (zz : Nat × Nat) (r : mx_T) (ls : mx_L) (st : List Value) (h : mx_H) (c n : Nat) : mx_G r (t_Hs_protect zz) 36 ls st h c n = (o_iload 1 0) r (mx_G r (t_Hs_protect zz)) 36 ls st h c n := mx_G_eq (tm_Hs_protect zz) r 36 ls st h c n
theorem st_Hs_protect_37 (zz : Nat × Nat) (r : mx_T) (ls : mx_L) (st : List Value) (h : mx_H) (c n : Nat) : mx_G r (t_Hs_protect zz) 37 ls st h c n = (o_push 1 (.int 4)) r (mx_G r (t_Hs_protect zz)) 37 ls st h c n := mx_G_eq (tm_Hs_protect zz) r 37 ls st h c n
theorem st_Hs_protect_38 (zz : Nat × Nat) (r : mx_T) (ls : mx_L) (st : List Value) (h : mx_H) (c n : Nat) : mx_G r (t_Hs_protect zz) 38 ls st h c n = (o_call 0 0 2 0 0 (fun _ _ => True) (S_Hs_bit zz)) r (mx_G r (t_Hs_protect zz)) 38 ls st h c n := mx_G_eq (tm_Hs_protect zz) r 38 ls st h c n
theorem st_Hs_protect_41 (zz : Nat × Nat) (r : mx_T) (ls : mx_L) (st : List Value) (h : mx_H) (c n : Nat) : mx_G r (t_Hs_protect zz) 41 ls st h c n = (o_ii (fun x y => x ^^^ y)) r (mx_G r (t_Hs_protect zz)) 41 ls st h c n := mx_G_eq (tm_Hs_protect zz) r 41 ls st h c n
theorem st_Hs_protect_42 (zz : Nat × Nat) (r : mx_T) (ls : mx_L) (st : List Value) (h : mx_H) (c n : Nat) : mx_G r (t_Hs_protect zz) 42 ls st h c n = (o_iload 1 0) r (mx_G r (t_Hs_protect zz)) 42 ls st h c n := mx_G_eq (tm_Hs_protect zz) r 42 ls st h c n
theorem st_Hs_protect_43 (zz : Nat × Nat) (r : mx_T) (ls : mx_L) (st : List Value) (h : mx_H) (c n : Nat) : mx_G r (t_Hs_protect zz) 43 ls st h c n = (o_push 1 (.int 5)) r (mx_G r (t_Hs_protect zz)) 43 ls st h c n := mx_G_eq (tm_Hs_protect zz) r 43 ls st h c n
theorem st_Hs_protect_44 (zz : Nat × Nat) (r : mx_T) (ls : mx_L) (st : List Value) (h : mx_H) (c n : Nat) : mx_G r (t_Hs_protect zz) 44 ls st h c n = (o_call 0 0 2 0 0 (fun _ _ => True) (S_Hs_bit zz)) r (mx_G r (t_Hs_protect zz)) 44 ls st h c n := mx_G_eq (tm_Hs_protect zz) r 44 ls st h c n
theorem st_Hs_protect_47 (zz : Nat × Nat) (r : mx_T) (ls : mx_L) (st : List Value) (h : mx_H) (c n : Nat) : mx_G r (t_Hs_protect zz) 47 ls st h c n = (o_ii (fun x y => x ^^^ y)) r (mx_G r (t_Hs_protect zz)) 47 ls st h c n := mx_G_eq (tm_Hs_protect zz) r 47 ls st h c n
theorem st_Hs_protect_48 (zz : Nat × Nat) (r : mx_T) (ls : mx_L) (st : List Value) (h : mx_H) (c n : Nat) : mx_G r (t_Hs_protect zz) 48 ls st h c n = (o_ii (fun x y => x - y)) r (mx_G r (t_Hs_protect zz)) 48 ls st h c n := mx_G_eq (tm_Hs_protect zz) r 48 ls st h c n
theorem st_Hs_protect_49 (zz : Nat × Nat) (r : mx_T) (ls : mx_L) (st : List Value) (h : mx_H) (c n : Nat) : mx_G r (t_Hs_protect zz) 49 ls st h c n = (o_istore 1 2) r (mx_G r (t_Hs_protect zz)) 49 ls st h c n := mx_G_eq (tm_Hs_protect zz) r 49 ls st h c n
theorem st_Hs_protect_50 (zz : Nat × Nat) (r : mx_T) (ls : mx_L) (st : List Value) (h : mx_H) (c n : Nat) : mx_G r (t_Hs_protect zz) 50 ls st h c n = (o_iload 1 0) r (mx_G r (t_Hs_protect zz)) 50 ls st h c n := mx_G_eq (tm_Hs_protect zz) r 50 ls st h c n
theorem st_Hs_protect_51 (zz : Nat × Nat) (r : mx_T) (ls : mx_L) (st : List Value) (h : mx_H) (c n : Nat) : mx_G r (t_Hs_protect zz) 51 ls st h c n = (o_push 2 (.int 64)) r (mx_G r (t_Hs_protect zz)) 51 ls st h c n := mx_G_eq (tm_Hs_protect zz) r 51 ls st h c n
theorem st_Hs_protect_53 (zz : Nat × Nat) (r : mx_T) (ls : mx_L) (st : List Value) (h : mx_H) (c n : Nat) : mx_G r (t_Hs_protect zz) 53 ls st h c n = (o_iload 1 1) r (mx_G r (t_Hs_protect zz)) 53 ls st h c n := mx_G_eq (tm_Hs_protect zz) r 53 ls st h c n
theorem st_Hs_protect_54 (zz : Nat × Nat) (r : mx_T) (ls : mx_L) (st : List Value) (h : mx_H) (c n : Nat) : mx_G r (t_Hs_protect zz) 54 ls st h c n = (o_ii (fun x y => x * y)) r (mx_G r (t_Hs_protect zz)) 54 ls st h c n := mx_G_eq (tm_Hs_protect zz) r 54 ls st h c n
theorem st_Hs_protect_55 (zz : Nat × Nat) (r : mx_T) (ls : mx_L) (st : List Value) (h : mx_H) (c n : Nat) : mx_G r (t_Hs_protect zz) 55 ls st h c n = (o_ii (fun x y => x + y)) r (mx_G r (t_Hs_protect zz)) 55 ls st h c n := mx_G_eq (tm_Hs_protect zz) r 55 ls st h c n
theorem st_Hs_protect_56 (zz : Nat × Nat) (r : mx_T) (ls : mx_L) (st : List Value) (h : mx_H) (c n : Nat) : mx_G r (t_Hs_protect zz) 56 ls st h c n = (o_push 3 (.int 128)) r (mx_G r (t_Hs_protect zz)) 56 ls st h c n := mx_G_eq (tm_Hs_protect zz) r 56 ls st h c n
theorem st_Hs_protect_59 (zz : Nat × Nat) (r : mx_T) (ls : mx_L) (st : List Value) (h : mx_H) (c n : Nat) : mx_G r (t_Hs_protect zz) 59 ls st h c n = (o_iload 1 2) r (mx_G r (t_Hs_protect zz)) 59 ls st h c n := mx_G_eq (tm_Hs_protect zz) r 59 ls st h c n
theorem st_Hs_protect_60 (zz : Nat × Nat) (r : mx_T) (ls : mx_L) (st : List Value) (h : mx_H) (c n : Nat) : mx_G r (t_Hs_protect zz) 60 ls st h c n = (o_ii (fun x y => x * y)) r (mx_G r (t_Hs_protect zz)) 60 ls st h c n := mx_G_eq (tm_Hs_protect zz) r 60 ls st h c n
theorem st_Hs_protect_61 (zz : Nat × Nat) (r : mx_T) (ls : mx_L) (st : List Value) (h : mx_H) (c n : Nat) : mx_G r (t_Hs_protect zz) 61 ls st h c n = (o_ii (fun x y => x + y)) r (mx_G r (t_Hs_protect zz)) 61 ls st h c n := mx_G_eq (tm_Hs_protect zz) r 61 ls st h c n
theorem st_Hs_protect_62 (zz : Nat × Nat) (r : mx_T) (ls : mx_L) (st : List Value) (h : mx_H) (c n : Nat) : mx_G r (t_Hs_protect zz) 62 ls st h c n = (o_iret) r (mx_G r (t_Hs_protect zz)) 62 ls st h c n := mx_G_eq (tm_Hs_protect zz) r 62 ls st h c n
theorem d_Fr_init_0 : decode c_Fr_init 0 = .ok (.aload_n 0, 1) := by decide +kernel
theorem d_Fr_init_1 : decode c_Fr_init 1 = .ok (.invokespecial 3, 3) := by decide +kernel
theorem d_Fr_init_4 : decode c_Fr_init 4 = .ok (.aload_n 0, 1) := by decide +kernel
theorem d_Fr_init_5 : decode c_Fr_init 5 = .ok (.ldc2_w 9, 3) := by decide +kernel
theorem d_Fr_init_8 : decode c_Fr_init 8 = .ok (.putfield 11, 3) := by decide +kernel
theorem d_Fr_init_11 : decode c_Fr_init 11 = .ok (.aload_n 0, 1) := by decide +kernel
theorem d_Fr_init_12 : decode c_Fr_init 12 = .ok (.lconst 0, 1) := by decide +kernel
theorem d_Fr_init_13 : decode c_Fr_init 13 = .ok (.putfield 17, 3) := by decide +kernel
theorem d_Fr_init_16 : decode c_Fr_init 16 = .ok (.aload_n 0, 1) := by decide +kernel
theorem d_Fr_init_17 : decode c_Fr_init 17 = .ok (.iconst 0, 1) := by decide +kernel
theorem d_Fr_init_18 : decode c_Fr_init 18 = .ok (.putfield 20, 3) := by decide +kernel
theorem d_Fr_init_21 : decode c_Fr_init 21 = .ok (.aload_n 0, 1) := by decide +kernel
theorem d_Fr_init_22 : decode c_Fr_init 22 = .ok (.iload_n 1, 1) := by decide +kernel
theorem d_Fr_init_23 : decode c_Fr_init 23 = .ok (.putfield 24, 3) := by decide +kernel
theorem d_Fr_init_26 : decode c_Fr_init 26 = .ok (.aload_n 0, 1) := by decide +kernel
theorem d_Fr_init_27 : decode c_Fr_init 27 = .ok (.iload_n 2, 1) := by decide +kernel
theorem d_Fr_init_28 : decode c_Fr_init 28 = .ok (.putfield 28, 3) := by decide +kernel
theorem d_Fr_init_31 : decode c_Fr_init 31 = .ok (.aload_n 0, 1) := by decide +kernel
theorem d_Fr_init_32 : decode c_Fr_init 32 = .ok (.iload_n 3, 1) := by decide +kernel
theorem d_Fr_init_33 : decode c_Fr_init 33 = .ok (.putfield 31, 3) := by decide +kernel
theorem d_Fr_init_36 : decode c_Fr_init 36 = .ok (.aload_n 0, 1) := by decide +kernel
theorem d_Fr_init_37 : decode c_Fr_init 37 = .ok (.iload 4, 2) := by decide +kernel
theorem d_Fr_init_39 : decode c_Fr_init 39 = .ok (.putfield 34, 3) := by decide +kernel
theorem d_Fr_init_42 : decode c_Fr_init 42 = .ok (.aload_n 0, 1) := by decide +kernel
theorem d_Fr_init_43 : decode c_Fr_init 43 = .ok (.iload 5, 2) := by decide +kernel
theorem d_Fr_init_45 : decode c_Fr_init 45 = .ok (.putfield 37, 3) := by decide +kernel
theorem d_Fr_init_48 : decode c_Fr_init 48 = .ok (.return_, 1) := by decide +kernel
def t_Fr_init (zz : Nat × Nat) : List (Nat × mx_O) := [(0, o_aload 1 0),
  (1, o_objinit),
  (4, o_aload 1 0),
  (5, o_push 3 (.long (-1))),
  (8, o_put 1 5 mx_vJ),
  (11, o_aload 1 0),
  (12, o_push 1 (.long 0)),
  (13, o_put 1 6 mx_vJ),
  (16, o_aload 1 0),
  (17, o_push 1 (.int 0)),
  (18, o_put 1 7 mx_vZ),
  (21, o_aload 1 0),
  (22, o_iload 1 1),
  (23, o_put 1 0 mx_vI),
  (26, o_aload 1 0),
  (27, o_iload 1 2),
  (28, o_put 1 1 mx_vI),
  (31, o_aload 1 0),
  (32, o_iload 1 3),
  (33, o_put 1 2 mx_vI),
  (36, o_aload 1 0),
  (37, o_iload 2 4),
  (39, o_put 1 3 mx_vI),
  (42, o_aload 1 0),
  (43, o_iload 2 5),
  (45, o_put 1 4 mx_vZ),
  (48, o_vret)]
set_option maxRecDepth 100000 in
theorem tm_Fr_init (zz : Nat × Nat) : mx_All (fun _ o => mx_Mono o) (t_Fr_init zz) := by
  refine mx_all_cons (mo_st) ?_
  refine mx_all_cons (mo_sc) ?_
  refine mx_all_cons (mo_st) ?_
  refine mx_all_cons (mo_st) ?_
  refine mx_all_cons (mo_sc) ?_
  refine mx_all_cons (mo_st) ?_
  refine mx_all_cons (mo_st) ?_
  refine mx_all_cons (mo_sc) ?_
  refine mx_all_cons (mo_st) ?_
  refine mx_all_cons (mo_st) ?_
  refine mx_all_cons (mo_sc) ?_
  refine mx_all_cons (mo_st) ?_
  refine mx_all_cons (mo_st) ?_
  refine mx_all_cons (mo_sc) ?_
  refine mx_all_cons (mo_st) ?_
  refine mx_all_cons (mo_st) ?_
  refine mx_all_cons (mo_sc) ?_
  refine mx_all_cons (mo_st) ?_
  refine mx_all_cons (mo_st) ?_
  refine mx_all_cons (mo_sc) ?_
  refine mx_all_cons (mo_st) ?_
  refine mx_all_cons (mo_st) ?_
  refine mx_all_cons (mo_sc) ?_
  refine mx_all_cons (mo_st) ?_
  refine mx_all_cons (mo_st) ?_
  refine mx_all_cons (mo_sc) ?_
  refine mx_all_cons (mo_ret) ?_
  exact mx_all_nil
def S_Fr_init (zz : Nat × Nat) : mx_Sp := mx_S 6 0 0 (t_Fr_init zz)
theorem sm_Fr_init (zz : Nat × Nat) : mx_SMono (S_Fr_init zz) := mx_S_mono (tm_Fr_init zz)
abbrev rm_Fr_init : Room := { frames := 1, cells := 0, slots := 0, locals := 20 }
set_option maxHeartbeats 4000000 in
set_option maxRecDepth 100000 in
theorem m_Fr_init (l : Launch) (zz : Nat × Nat) : mx_Met l y_Fr_init (wsOf y_Fr_init c_Fr_init 6 none) rm_Fr_init wcl (mx_Z zz) 0 0 (S_Fr_init zz) := by
  refine mx_met (cc := c_Fr_init) (ret := none) (by decide) rfl ?_
  intro p e s m args below meth c D A Post X hz hr hlk hnm
  have hm : ∀ w ∈ mw, w.before args s = true := fun w h => X.1.2.2.2.2 w (List.mem_cons_of_mem _ h)
  refine mx_all_cons (ok_aload (fun hl kk => lv_aload_n X.1.1 X.1.2.1 d_Fr_init_0 rfl hl kk) (fun hl kk => lv_aload_nN X.1.1 X.1.2.1 d_Fr_init_0 rfl hl kk)) ?_
  refine mx_all_cons (ok_objinit X ⟨(Nat.le_of_ble_eq_true rfl), (Nat.le_of_ble_eq_true rfl)⟩ (hm _ w218) (hm _ w58) (hm _ w_oic) d_Fr_init_1) ?_
  refine mx_all_cons (ok_aload (fun hl kk => lv_aload_n X.1.1 X.1.2.1 d_Fr_init_4 rfl hl kk) (fun hl kk => lv_aload_nN X.1.1 X.1.2.1 d_Fr_init_4 rfl hl kk)) ?_
  refine mx_all_cons (ok_push (fun kk => lv_ldc2 X.1.1 X.1.2.1 X.1.2.2.2.1 (hm _ w219) d_Fr_init_5 kk)) ?_
  refine mx_all_cons (ok_put (C := "HeaderSchedule$Frame") (T := T_Fr) (N := 8) X (mw_up in_Fr) ty_Fr tyok_Fr nm_Fr rfl 5 (by decide) (hm _ w231) (fun _ h9 => h9) rfl (tyok_Fr 5 (by decide)) mx_vJ_ok d_Fr_init_8) ?_
  refine mx_all_cons (ok_aload (fun hl kk => lv_aload_n X.1.1 X.1.2.1 d_Fr_init_11 rfl hl kk) (fun hl kk => lv_aload_nN X.1.1 X.1.2.1 d_Fr_init_11 rfl hl kk)) ?_
  refine mx_all_cons (ok_push (fun kk => lv_lconst X.1.1 X.1.2.1 d_Fr_init_12 (by decide) kk)) ?_
  refine mx_all_cons (ok_put (C := "HeaderSchedule$Frame") (T := T_Fr) (N := 8) X (mw_up in_Fr) ty_Fr tyok_Fr nm_Fr rfl 6 (by decide) (hm _ w234) (fun _ h9 => h9) rfl (tyok_Fr 6 (by decide)) mx_vJ_ok d_Fr_init_13) ?_
  refine mx_all_cons (ok_aload (fun hl kk => lv_aload_n X.1.1 X.1.2.1 d_Fr_init_16 rfl hl kk) (fun hl kk => lv_aload_nN X.1.1 X.1.2.1 d_Fr_init_16 rfl hl kk)) ?_
  refine mx_all_cons (ok_push (fun kk => lv_iconst X.1.1 X.1.2.1 d_Fr_init_17 (by decide) kk)) ?_
  refine mx_all_cons (ok_put (C := "HeaderSchedule$Frame") (T := T_Fr) (N := 8) X (mw_up in_Fr) ty_Fr tyok_Fr nm_Fr rfl 7 (by decide) (hm _ w236) (fun _ h9 => h9) rfl (tyok_Fr 7 (by decide)) mx_vZ_ok d_Fr_init_18) ?_
  refine mx_all_cons (ok_aload (fun hl kk => lv_aload_n X.1.1 X.1.2.1 d_Fr_init_21 rfl hl kk) (fun hl kk => lv_aload_nN X.1.1 X.1.2.1 d_Fr_init_21 rfl hl kk)) ?_
  refine mx_all_cons (ok_iload (fun hl kk => lv_iload_n X.1.1 X.1.2.1 d_Fr_init_22 rfl hl kk)) ?_
  refine mx_all_cons (ok_putF (C := "HeaderSchedule$Frame") (T := T_Fr) (N := 8) X (mw_up in_Fr) ty_Fr tyok_Fr nm_Fr rfl 0 (by decide) (hm _ w220) (fun _ h9 => h9) rfl hnm rfl (tyok_Fr 0 (by decide)) mx_vI_ok d_Fr_init_23) ?_
  refine mx_all_cons (ok_aload (fun hl kk => lv_aload_n X.1.1 X.1.2.1 d_Fr_init_26 rfl hl kk) (fun hl kk => lv_aload_nN X.1.1 X.1.2.1 d_Fr_init_26 rfl hl kk)) ?_
  refine mx_all_cons (ok_iload (fun hl kk => lv_iload_n X.1.1 X.1.2.1 d_Fr_init_27 rfl hl kk)) ?_
  refine mx_all_cons (ok_putF (C := "HeaderSchedule$Frame") (T := T_Fr) (N := 8) X (mw_up in_Fr) ty_Fr tyok_Fr nm_Fr rfl 1 (by decide) (hm _ w222) (fun _ h9 => h9) rfl hnm rfl (tyok_Fr 1 (by decide)) mx_vI_ok d_Fr_init_28) ?_
  refine mx_all_cons (ok_aload (fun hl kk => lv_aload_n X.1.1 X.1.2.1 d_Fr_init_31 rfl hl kk) (fun hl kk => lv_aload_nN X.1.1 X.1.2.1 d_Fr_init_31 rfl hl kk)) ?_
  refine mx_all_cons (ok_iload (fun hl kk => lv_iload_n X.1.1 X.1.2.1 d_Fr_init_32 rfl hl kk)) ?_
  refine mx_all_cons (ok_putF (C := "HeaderSchedule$Frame") (T := T_Fr) (N := 8) X (mw_up in_Fr) ty_Fr tyok_Fr nm_Fr rfl 2 (by decide) (hm _ w225) (fun _ h9 => h9) rfl hnm rfl (tyok_Fr 2 (by decide)) mx_vI_ok d_Fr_init_33) ?_
  refine mx_all_cons (ok_aload (fun hl kk => lv_aload_n X.1.1 X.1.2.1 d_Fr_init_36 rfl hl kk) (fun hl kk => lv_aload_nN X.1.1 X.1.2.1 d_Fr_init_36 rfl hl kk)) ?_
  refine mx_all_cons (ok_iload (fun hl kk => lv_iload X.1.1 X.1.2.1 d_Fr_init_37 hl kk)) ?_
  refine mx_all_cons (ok_putF (C := "HeaderSchedule$Frame") (T := T_Fr) (N := 8) X (mw_up in_Fr) ty_Fr tyok_Fr nm_Fr rfl 3 (by decide) (hm _ w227) (fun _ h9 => h9) rfl hnm rfl (tyok_Fr 3 (by decide)) mx_vI_ok d_Fr_init_39) ?_
  refine mx_all_cons (ok_aload (fun hl kk => lv_aload_n X.1.1 X.1.2.1 d_Fr_init_42 rfl hl kk) (fun hl kk => lv_aload_nN X.1.1 X.1.2.1 d_Fr_init_42 rfl hl kk)) ?_
  refine mx_all_cons (ok_iload (fun hl kk => lv_iload X.1.1 X.1.2.1 d_Fr_init_43 hl kk)) ?_
  refine mx_all_cons (ok_putF (C := "HeaderSchedule$Frame") (T := T_Fr) (N := 8) X (mw_up in_Fr) ty_Fr tyok_Fr nm_Fr rfl 4 (by decide) (hm _ w230) (fun _ h9 => h9) rfl hnm rfl (tyok_Fr 4 (by decide)) mx_vZ_ok d_Fr_init_45) ?_
  refine mx_all_cons (ok_vret X hr hlk d_Fr_init_48) ?_
  exact mx_all_nil
theorem st_Fr_init_0 (zz : Nat × Nat) (r : mx_T) (ls : mx_L) (st : List Value) (h : mx_H) (c n : Nat) : mx_G r (t_Fr_init zz) 0 ls st h c n = (o_aload 1 0) r (mx_G r (t_Fr_init zz)) 0 ls st h c n := mx_G_eq (tm_Fr_init zz) r 0 ls st h c n
theorem st_Fr_init_1 (zz : Nat × Nat) (r : mx_T) (ls : mx_L) (st : List Value) (h : mx_H) (c n : Nat) : mx_G r (t_Fr_init zz) 1 ls st h c n = (o_objinit) r (mx_G r (t_Fr_init zz)) 1 ls st h c n := mx_G_eq (tm_Fr_init zz) r 1 ls st h c n
theorem st_Fr_init_4 (zz : Nat × Nat) (r : mx_T) (ls : mx_L) (st : List Value) (h : mx_H) (c n : Nat) : mx_G r (t_Fr_init zz) 4 ls st h c n = (o_aload 1 0) r (mx_G r (t_Fr_init zz)) 4 ls st h c n := mx_G_eq (tm_Fr_init zz) r 4 ls st h c n
theorem st_Fr_init_5 (zz : Nat × Nat) (r : mx_T) (ls : mx_L) (st : List Value) (h : mx_H) (c n : Nat) : mx_G r (t_Fr_init zz) 5 ls st h c n = (o_push 3 (.long (-1))) r (mx_G r (t_Fr_init zz)) 5 ls st h c n := mx_G_eq (tm_Fr_init zz) r 5 ls st h c n
theorem st_Fr_init_8 (zz : Nat × Nat) (r : mx_T) (ls : mx_L) (st : List Value) (h : mx_H) (c n : Nat) : mx_G r (t_Fr_init zz) 8 ls st h c n = (o_put 1 5 mx_vJ) r (mx_G r (t_Fr_init zz)) 8 ls st h c n := mx_G_eq (tm_Fr_init zz) r 8 ls st h c n
theorem st_Fr_init_11 (zz : Nat × Nat) (r : mx_T) (ls : mx_L) (st : List Value) (h : mx_H) (c n : Nat) : mx_G r (t_Fr_init zz) 11 ls st h c n = (o_aload 1 0) r (mx_G r (t_Fr_init zz)) 11 ls st h c n := mx_G_eq (tm_Fr_init zz) r 11 ls st h c n
theorem st_Fr_init_12 (zz : Nat × Nat) (r : mx_T) (ls : mx_L) (st : List Value) (h : mx_H) (c n : Nat) : mx_G r (t_Fr_init zz) 12 ls st h c n = (o_push 1 (.long 0)) r (mx_G r (t_Fr_init zz)) 12 ls st h c n := mx_G_eq (tm_Fr_init zz) r 12 ls st h c n
theorem st_Fr_init_13 (zz : Nat × Nat) (r : mx_T) (ls : mx_L) (st : List Value) (h : mx_H) (c n : Nat) : mx_G r (t_Fr_init zz) 13 ls st h c n = (o_put 1 6 mx_vJ) r (mx_G r (t_Fr_init zz)) 13 ls st h c n := mx_G_eq (tm_Fr_init zz) r 13 ls st h c n
theorem st_Fr_init_16 (zz : Nat × Nat) (r : mx_T) (ls : mx_L) (st : List Value) (h : mx_H) (c n : Nat) : mx_G r (t_Fr_init zz) 16 ls st h c n = (o_aload 1 0) r (mx_G r (t_Fr_init zz)) 16 ls st h c n := mx_G_eq (tm_Fr_init zz) r 16 ls st h c n
theorem st_Fr_init_17 (zz : Nat × Nat) (r : mx_T) (ls : mx_L) (st : List Value) (h : mx_H) (c n : Nat) : mx_G r (t_Fr_init zz) 17 ls st h c n = (o_push 1 (.int 0)) r (mx_G r (t_Fr_init zz)) 17 ls st h c n := mx_G_eq (tm_Fr_init zz) r 17 ls st h c n
theorem st_Fr_init_18 (zz : Nat × Nat) (r : mx_T) (ls : mx_L) (st : List Value) (h : mx_H) (c n : Nat) : mx_G r (t_Fr_init zz) 18 ls st h c n = (o_put 1 7 mx_vZ) r (mx_G r (t_Fr_init zz)) 18 ls st h c n := mx_G_eq (tm_Fr_init zz) r 18 ls st h c n
theorem st_Fr_init_21 (zz : Nat × Nat) (r : mx_T) (ls : mx_L) (st : List Value) (h : mx_H) (c n : Nat) : mx_G r (t_Fr_init zz) 21 ls st h c n = (o_aload 1 0) r (mx_G r (t_Fr_init zz)) 21 ls st h c n := mx_G_eq (tm_Fr_init zz) r 21 ls st h c n
theorem st_Fr_init_22 (zz : Nat × Nat) (r : mx_T) (ls : mx_L) (st : List Value) (h : mx_H) (c n : Nat) : mx_G r (t_Fr_init zz) 22 ls st h c n = (o_iload 1 1) r (mx_G r (t_Fr_init zz)) 22 ls st h c n := mx_G_eq (tm_Fr_init zz) r 22 ls st h c n
theorem st_Fr_init_23 (zz : Nat × Nat) (r : mx_T) (ls : mx_L) (st : List Value) (h : mx_H) (c n : Nat) : mx_G r (t_Fr_init zz) 23 ls st h c n = (o_put 1 0 mx_vI) r (mx_G r (t_Fr_init zz)) 23 ls st h c n := mx_G_eq (tm_Fr_init zz) r 23 ls st h c n
theorem st_Fr_init_26 (zz : Nat × Nat) (r : mx_T) (ls : mx_L) (st : List Value) (h : mx_H) (c n : Nat) : mx_G r (t_Fr_init zz) 26 ls st h c n = (o_aload 1 0) r (mx_G r (t_Fr_init zz)) 26 ls st h c n := mx_G_eq (tm_Fr_init zz) r 26 ls st h c n
theorem st_Fr_init_27 (zz : Nat × Nat) (r : mx_T) (ls : mx_L) (st : List Value) (h : mx_H) (c n : Nat) : mx_G r (t_Fr_init zz) 27 ls st h c n = (o_iload 1 2) r (mx_G r (t_Fr_init zz)) 27 ls st h c n := mx_G_eq (tm_Fr_init zz) r 27 ls st h c n
theorem st_Fr_init_28 (zz : Nat × Nat) (r : mx_T) (ls : mx_L) (st : List Value) (h : mx_H) (c n : Nat) : mx_G r (t_Fr_init zz) 28 ls st h c n = (o_put 1 1 mx_vI) r (mx_G r (t_Fr_init zz)) 28 ls st h c n := mx_G_eq (tm_Fr_init zz) r 28 ls st h c n
theorem st_Fr_init_31 (zz : Nat × Nat) (r : mx_T) (ls : mx_L) (st : List Value) (h : mx_H) (c n : Nat) : mx_G r (t_Fr_init zz) 31 ls st h c n = (o_aload 1 0) r (mx_G r (t_Fr_init zz)) 31 ls st h c n := mx_G_eq (tm_Fr_init zz) r 31 ls st h c n
theorem st_Fr_init_32 (zz : Nat × Nat) (r : mx_T) (ls : mx_L) (st : List Value) (h : mx_H) (c n : Nat) : mx_G r (t_Fr_init zz) 32 ls st h c n = (o_iload 1 3) r (mx_G r (t_Fr_init zz)) 32 ls st h c n := mx_G_eq (tm_Fr_init zz) r 32 ls st h c n
theorem st_Fr_init_33 (zz : Nat × Nat) (r : mx_T) (ls : mx_L) (st : List Value) (h : mx_H) (c n : Nat) : mx_G r (t_Fr_init zz) 33 ls st h c n = (o_put 1 2 mx_vI) r (mx_G r (t_Fr_init zz)) 33 ls st h c n := mx_G_eq (tm_Fr_init zz) r 33 ls st h c n
theorem st_Fr_init_36 (zz : Nat × Nat) (r : mx_T) (ls : mx_L) (st : List Value) (h : mx_H) (c n : Nat) : mx_G r (t_Fr_init zz) 36 ls st h c n = (o_aload 1 0) r (mx_G r (t_Fr_init zz)) 36 ls st h c n := mx_G_eq (tm_Fr_init zz) r 36 ls st h c n
theorem st_Fr_init_37 (zz : Nat × Nat) (r : mx_T) (ls : mx_L) (st : List Value) (h : mx_H) (c n : Nat) : mx_G r (t_Fr_init zz) 37 ls st h c n = (o_iload 2 4) r (mx_G r (t_Fr_init zz)) 37 ls st h c n := mx_G_eq (tm_Fr_init zz) r 37 ls st h c n
theorem st_Fr_init_39 (zz : Nat × Nat) (r : mx_T) (ls : mx_L) (st : List Value) (h : mx_H) (c n : Nat) : mx_G r (t_Fr_init zz) 39 ls st h c n = (o_put 1 3 mx_vI) r (mx_G r (t_Fr_init zz)) 39 ls st h c n := mx_G_eq (tm_Fr_init zz) r 39 ls st h c n
theorem st_Fr_init_42 (zz : Nat × Nat) (r : mx_T) (ls : mx_L) (st : List Value) (h : mx_H) (c n : Nat) : mx_G r (t_Fr_init zz) 42 ls st h c n = (o_aload 1 0) r (mx_G r (t_Fr_init zz)) 42 ls st h c n := mx_G_eq (tm_Fr_init zz) r 42 ls st h c n
theorem st_Fr_init_43 (zz : Nat × Nat) (r : mx_T) (ls : mx_L) (st : List Value) (h : mx_H) (c n : Nat) : mx_G r (t_Fr_init zz) 43 ls st h c n = (o_iload 2 5) r (mx_G r (t_Fr_init zz)) 43 ls st h c n := mx_G_eq (tm_Fr_init zz) r 43 ls st h c n
theorem st_Fr_init_45 (zz : Nat × Nat) (r : mx_T) (ls : mx_L) (st : List Value) (h : mx_H) (c n : Nat) : mx_G r (t_Fr_init zz) 45 ls st h c n = (o_put 1 4 mx_vZ) r (mx_G r (t_Fr_init zz)) 45 ls st h c n := mx_G_eq (tm_Fr_init zz) r 45 ls st h c n
theorem st_Fr_init_48 (zz : Nat × Nat) (r : mx_T) (ls : mx_L) (st : List Value) (h : mx_H) (c n : Nat) : mx_G r (t_Fr_init zz) 48 ls st h c n = (o_vret) r (mx_G r (t_Fr_init zz)) 48 ls st h c n := mx_G_eq (tm_Fr_init zz) r 48 ls st h c n
theorem d_As_hugeLength_0 : decode c_As_hugeLength 0 = .ok (.iload_n 0, 1) := by decide +kernel
theorem d_As_hugeLength_1 : decode c_As_hugeLength 1 = .ok (.iload_n 1, 1) := by decide +kernel
theorem d_As_hugeLength_2 : decode c_As_hugeLength 2 = .ok (.iadd, 1) := by decide +kernel
theorem d_As_hugeLength_3 : decode c_As_hugeLength 3 = .ok (.istore_n 2, 1) := by decide +kernel
theorem d_As_hugeLength_4 : decode c_As_hugeLength 4 = .ok (.iload_n 2, 1) := by decide +kernel
theorem d_As_hugeLength_5 : decode c_As_hugeLength 5 = .ok (.ifCond .ge 44, 3) := by decide +kernel
theorem d_As_hugeLength_11 : decode c_As_hugeLength 11 = .ok (.dup, 1) := by decide +kernel
theorem d_As_hugeLength_15 : decode c_As_hugeLength 15 = .ok (.dup, 1) := by decide +kernel
theorem d_As_hugeLength_24 : decode c_As_hugeLength 24 = .ok (.iload_n 0, 1) := by decide +kernel
theorem d_As_hugeLength_33 : decode c_As_hugeLength 33 = .ok (.iload_n 1, 1) := by decide +kernel
theorem d_As_hugeLength_49 : decode c_As_hugeLength 49 = .ok (.iload_n 2, 1) := by decide +kernel
theorem d_As_hugeLength_50 : decode c_As_hugeLength 50 = .ok (.ldc 200, 2) := by decide +kernel
theorem d_As_hugeLength_52 : decode c_As_hugeLength 52 = .ok (.if_icmp .gt 6, 3) := by decide +kernel
theorem d_As_hugeLength_55 : decode c_As_hugeLength 55 = .ok (.ldc 200, 2) := by decide +kernel
theorem d_As_hugeLength_57 : decode c_As_hugeLength 57 = .ok (.ireturn, 1) := by decide +kernel
theorem d_As_hugeLength_58 : decode c_As_hugeLength 58 = .ok (.iload_n 2, 1) := by decide +kernel
theorem d_As_hugeLength_59 : decode c_As_hugeLength 59 = .ok (.ireturn, 1) := by decide +kernel
def t_As_hugeLength (zz : Nat × Nat) : List (Nat × mx_O) := [(0, o_iload 1 0),
  (1, o_iload 1 1),
  (2, o_ii (fun x y => x + y)),
  (3, o_istore 1 2),
  (4, o_iload 1 2),
  (5, o_if 49 (fun x => 0 ≤ x)),
  (11, o_dup),
  (15, o_dup),
  (24, o_iload 1 0),
  (33, o_iload 1 1),
  (49, o_iload 1 2),
  (50, o_push 2 (.int 2147483639)),
  (52, o_icmp 58 (fun x y => y < x)),
  (55, o_push 2 (.int 2147483639)),
  (57, o_iret),
  (58, o_iload 1 2),
  (59, o_iret)]
set_option maxRecDepth 100000 in
theorem tm_As_hugeLength (zz : Nat × Nat) : mx_All (fun _ o => mx_Mono o) (t_As_hugeLength zz) := by
  refine mx_all_cons (mo_st) ?_
  refine mx_all_cons (mo_st) ?_
  refine mx_all_cons (mo_st) ?_
  refine mx_all_cons (mo_st) ?_
  refine mx_all_cons (mo_st) ?_
  refine mx_all_cons (mo_br) ?_
  refine mx_all_cons (mo_st) ?_
  refine mx_all_cons (mo_st) ?_
  refine mx_all_cons (mo_st) ?_
  refine mx_all_cons (mo_st) ?_
  refine mx_all_cons (mo_st) ?_
  refine mx_all_cons (mo_st) ?_
  refine mx_all_cons (mo_br) ?_
  refine mx_all_cons (mo_st) ?_
  refine mx_all_cons (mo_ret) ?_
  refine mx_all_cons (mo_st) ?_
  refine mx_all_cons (mo_ret) ?_
  exact mx_all_nil
def S_As_hugeLength (zz : Nat × Nat) : mx_Sp := mx_S 3 0 0 (t_As_hugeLength zz)
theorem sm_As_hugeLength (zz : Nat × Nat) : mx_SMono (S_As_hugeLength zz) := mx_S_mono (tm_As_hugeLength zz)
abbrev rm_As_hugeLength : Room := { frames := 0, cells := 0, slots := 0, locals := 0 }
set_option maxHeartbeats 4000000 in
set_option maxRecDepth 100000 in
theorem m_As_hugeLength (l : Launch) (zz : Nat × Nat) : mx_Met l y_As_hugeLength (wsOf y_As_hugeLength c_As_hugeLength 3 (some .int)) rm_As_hugeLength wcl (mx_Z zz) 0 0 (S_As_hugeLength zz) := by
  refine mx_met (cc := c_As_hugeLength) (ret := (some .int)) (by decide) rfl ?_
  intro p e s m args below meth c D A Post X hz hr hlk hnm
  have hm : ∀ w ∈ mw, w.before args s = true := fun w h => X.1.2.2.2.2 w (List.mem_cons_of_mem _ h)
  refine mx_all_cons (ok_iload (fun hl kk => lv_iload_n X.1.1 X.1.2.1 d_As_hugeLength_0 rfl hl kk)) ?_
  refine mx_all_cons (ok_iload (fun hl kk => lv_iload_n X.1.1 X.1.2.1 d_As_hugeLength_1 rfl hl kk)) ?_
  refine mx_all_cons (ok_ii (fun kk => lv_iadd X.1.1 X.1.2.1 d_As_hugeLength_2 kk)) ?_
  refine mx_all_cons (ok_istore (fun hl kk => lv_istore_n X.1.1 X.1.2.1 d_As_hugeLength_3 rfl hl (by decide) rfl kk)) ?_
  refine mx_all_cons (ok_iload (fun hl kk => lv_iload_n X.1.1 X.1.2.1 d_As_hugeLength_4 rfl hl kk)) ?_
  refine mx_all_cons (ok_if (fun kt kf => lv_if_ge X.1.1 X.1.2.1 d_As_hugeLength_5 (by decide) kt kf)) ?_
  refine mx_all_cons (ok_dup X d_As_hugeLength_11) ?_
  refine mx_all_cons (ok_dup X d_As_hugeLength_15) ?_
  refine mx_all_cons (ok_iload (fun hl kk => lv_iload_n X.1.1 X.1.2.1 d_As_hugeLength_24 rfl hl kk)) ?_
  refine mx_all_cons (ok_iload (fun hl kk => lv_iload_n X.1.1 X.1.2.1 d_As_hugeLength_33 rfl hl kk)) ?_
  refine mx_all_cons (ok_iload (fun hl kk => lv_iload_n X.1.1 X.1.2.1 d_As_hugeLength_49 rfl hl kk)) ?_
  refine mx_all_cons (ok_push (fun kk => lv_ldc X.1.1 X.1.2.1 X.1.2.2.2.1 (hm _ w279) d_As_hugeLength_50 kk)) ?_
  refine mx_all_cons (ok_icmp (fun kt kf => lv_icmp_gt X.1.1 X.1.2.1 d_As_hugeLength_52 (by decide) kt kf)) ?_
  refine mx_all_cons (ok_push (fun kk => lv_ldc X.1.1 X.1.2.1 X.1.2.2.2.1 (hm _ w279) d_As_hugeLength_55 kk)) ?_
  refine mx_all_cons (ok_iret X hr hlk d_As_hugeLength_57) ?_
  refine mx_all_cons (ok_iload (fun hl kk => lv_iload_n X.1.1 X.1.2.1 d_As_hugeLength_58 rfl hl kk)) ?_
  refine mx_all_cons (ok_iret X hr hlk d_As_hugeLength_59) ?_
  exact mx_all_nil
theorem st_As_hugeLength_0 (zz : Nat × Nat) (r : mx_T) (ls : mx_L) (st : List Value) (h : mx_H) (c n : Nat) : mx_G r (t_As_hugeLength zz) 0 ls st h c n = (o_iload 1 0) r (mx_G r (t_As_hugeLength zz)) 0 ls st h c n := mx_G_eq (tm_As_hugeLength zz) r 0 ls st h c n
theorem st_As_hugeLength_1 (zz : Nat × Nat) (r : mx_T) (ls : mx_L) (st : List Value) (h : mx_H) (c n : Nat) : mx_G r (t_As_hugeLength zz) 1 ls st h c n = (o_iload 1 1) r (mx_G r (t_As_hugeLength zz)) 1 ls st h c n := mx_G_eq (tm_As_hugeLength zz) r 1 ls st h c n
theorem st_As_hugeLength_2 (zz : Nat × Nat) (r : mx_T) (ls : mx_L) (st : List Value) (h : mx_H) (c n : Nat) : mx_G r (t_As_hugeLength zz) 2 ls st h c n = (o_ii (fun x y => x + y)) r (mx_G r (t_As_hugeLength zz)) 2 ls st h c n := mx_G_eq (tm_As_hugeLength zz) r 2 ls st h c n
theorem st_As_hugeLength_3 (zz : Nat × Nat) (r : mx_T) (ls : mx_L) (st : List Value) (h : mx_H) (c n : Nat) : mx_G r (t_As_hugeLength zz) 3 ls st h c n = (o_istore 1 2) r (mx_G r (t_As_hugeLength zz)) 3 ls st h c n := mx_G_eq (tm_As_hugeLength zz) r 3 ls st h c n
theorem st_As_hugeLength_4 (zz : Nat × Nat) (r : mx_T) (ls : mx_L) (st : List Value) (h : mx_H) (c n : Nat) : mx_G r (t_As_hugeLength zz) 4 ls st h c n = (o_iload 1 2) r (mx_G r (t_As_hugeLength zz)) 4 ls st h c n := mx_G_eq (tm_As_hugeLength zz) r 4 ls st h c n
theorem st_As_hugeLength_5 (zz : Nat × Nat) (r : mx_T) (ls : mx_L) (st : List Value) (h : mx_H) (c n : Nat) : mx_G r (t_As_hugeLength zz) 5 ls st h c n = (o_if 49 (fun x => 0 ≤ x)) r (mx_G r (t_As_hugeLength zz)) 5 ls st h c n := mx_G_eq (tm_As_hugeLength zz) r 5 ls st h c n
theorem st_As_hugeLength_11 (zz : Nat × Nat) (r : mx_T) (ls : mx_L) (st : List Value) (h : mx_H) (c n : Nat) : mx_G r (t_As_hugeLength zz) 11 ls st h c n = (o_dup) r (mx_G r (t_As_hugeLength zz)) 11 ls st h c n := mx_G_eq (tm_As_hugeLength zz) r 11 ls st h c n
theorem st_As_hugeLength_15 (zz : Nat × Nat) (r : mx_T) (ls : mx_L) (st : List Value) (h : mx_H) (c n : Nat) : mx_G r (t_As_hugeLength zz) 15 ls st h c n = (o_dup) r (mx_G r (t_As_hugeLength zz)) 15 ls st h c n := mx_G_eq (tm_As_hugeLength zz) r 15 ls st h c n
theorem st_As_hugeLength_24 (zz : Nat × Nat) (r : mx_T) (ls : mx_L) (st : List Value) (h : mx_H) (c n : Nat) : mx_G r (t_As_hugeLength zz) 24 ls st h c n = (o_iload 1 0) r (mx_G r (t_As_hugeLength zz)) 24 ls st h c n := mx_G_eq (tm_As_hugeLength zz) r 24 ls st h c n
theorem st_As_hugeLength_33 (zz : Nat × Nat) (r : mx_T) (ls : mx_L) (st : List Value) (h : mx_H) (c n : Nat) : mx_G r (t_As_hugeLength zz) 33 ls st h c n = (o_iload 1 1) r (mx_G r (t_As_hugeLength zz)) 33 ls st h c n := mx_G_eq (tm_As_hugeLength zz) r 33 ls st h c n
theorem st_As_hugeLength_49 (zz : Nat × Nat) (r : mx_T) (ls : mx_L) (st : List Value) (h : mx_H) (c n : Nat) : mx_G r (t_As_hugeLength zz) 49 ls st h c n = (o_iload 1 2) r (mx_G r (t_As_hugeLength zz)) 49 ls st h c n := mx_G_eq (tm_As_hugeLength zz) r 49 ls st h c n
theorem st_As_hugeLength_50 (zz : Nat × Nat) (r : mx_T) (ls : mx_L) (st : List Value) (h : mx_H) (c n : Nat) : mx_G r (t_As_hugeLength zz) 50 ls st h c n = (o_push 2 (.int 2147483639)) r (mx_G r (t_As_hugeLength zz)) 50 ls st h c n := mx_G_eq (tm_As_hugeLength zz) r 50 ls st h c n
theorem st_As_hugeLength_52 (zz : Nat × Nat) (r : mx_T) (ls : mx_L) (st : List Value) (h : mx_H) (c n : Nat) : mx_G r (t_As_hugeLength zz) 52 ls st h c n = (o_icmp 58 (fun x y => y < x)) r (mx_G r (t_As_hugeLength zz)) 52 ls st h c n := mx_G_eq (tm_As_hugeLength zz) r 52 ls st h c n
theorem st_As_hugeLength_55 (zz : Nat × Nat) (r : mx_T) (ls : mx_L) (st : List Value) (h : mx_H) (c n : Nat) : mx_G r (t_As_hugeLength zz) 55 ls st h c n = (o_push 2 (.int 2147483639)) r (mx_G r (t_As_hugeLength zz)) 55 ls st h c n := mx_G_eq (tm_As_hugeLength zz) r 55 ls st h c n
theorem st_As_hugeLength_57 (zz : Nat × Nat) (r : mx_T) (ls : mx_L) (st : List Value) (h : mx_H) (c n : Nat) : mx_G r (t_As_hugeLength zz) 57 ls st h c n = (o_iret) r (mx_G r (t_As_hugeLength zz)) 57 ls st h c n := mx_G_eq (tm_As_hugeLength zz) r 57 ls st h c n
theorem st_As_hugeLength_58 (zz : Nat × Nat) (r : mx_T) (ls : mx_L) (st : List Value) (h : mx_H) (c n : Nat) : mx_G r (t_As_hugeLength zz) 58 ls st h c n = (o_iload 1 2) r (mx_G r (t_As_hugeLength zz)) 58 ls st h c n := mx_G_eq (tm_As_hugeLength zz) r 58 ls st h c n
theorem st_As_hugeLength_59 (zz : Nat × Nat) (r : mx_T) (ls : mx_L) (st : List Value) (h : mx_H) (c n : Nat) : mx_G r (t_As_hugeLength zz) 59 ls st h c n = (o_iret) r (mx_G r (t_As_hugeLength zz)) 59 ls st h c n := mx_G_eq (tm_As_hugeLength zz) r 59 ls st h c n
theorem d_As_newLength_0 : decode c_As_newLength 0 = .ok (.iload_n 0, 1) := by decide +kernel
theorem d_As_newLength_1 : decode c_As_newLength 1 = .ok (.iload_n 1, 1) := by decide +kernel
theorem d_As_newLength_2 : decode c_As_newLength 2 = .ok (.iload_n 2, 1) := by decide +kernel
theorem d_As_newLength_3 : decode c_As_newLength 3 = .ok (.invokestatic 194, 3) := by decide +kernel
theorem d_As_newLength_6 : decode c_As_newLength 6 = .ok (.iadd, 1) := by decide +kernel
theorem d_As_newLength_7 : decode c_As_newLength 7 = .ok (.istore_n 3, 1) := by decide +kernel
theorem d_As_newLength_8 : decode c_As_newLength 8 = .ok (.iconst 0, 1) := by decide +kernel
theorem d_As_newLength_9 : decode c_As_newLength 9 = .ok (.iload_n 3, 1) := by decide +kernel
theorem d_As_newLength_10 : decode c_As_newLength 10 = .ok (.if_icmp .ge 11, 3) := by decide +kernel
theorem d_As_newLength_13 : decode c_As_newLength 13 = .ok (.iload_n 3, 1) := by decide +kernel
theorem d_As_newLength_14 : decode c_As_newLength 14 = .ok (.ldc 200, 2) := by decide +kernel
theorem d_As_newLength_16 : decode c_As_newLength 16 = .ok (.if_icmp .gt 5, 3) := by decide +kernel
theorem d_As_newLength_19 : decode c_As_newLength 19 = .ok (.iload_n 3, 1) := by decide +kernel
theorem d_As_newLength_20 : decode c_As_newLength 20 = .ok (.ireturn, 1) := by decide +kernel
theorem d_As_newLength_21 : decode c_As_newLength 21 = .ok (.iload_n 0, 1) := by decide +kernel
theorem d_As_newLength_22 : decode c_As_newLength 22 = .ok (.iload_n 1, 1) := by decide +kernel
theorem d_As_newLength_23 : decode c_As_newLength 23 = .ok (.invokestatic 201, 3) := by decide +kernel
theorem d_As_newLength_26 : decode c_As_newLength 26 = .ok (.ireturn, 1) := by decide +kernel
def t_As_newLength (zz : Nat × Nat) : List (Nat × mx_O) := [(0, o_iload 1 0),
  (1, o_iload 1 1),
  (2, o_iload 1 2),
  (3, o_mm 0 0 (fun x y => if x < y then y else x)),
  (6, o_ii (fun x y => x + y)),
  (7, o_istore 1 3),
  (8, o_push 1 (.int 0)),
  (9, o_iload 1 3),
  (10, o_icmp 21 (fun x y => y ≤ x)),
  (13, o_iload 1 3),
  (14, o_push 2 (.int 2147483639)),
  (16, o_icmp 21 (fun x y => y < x)),
  (19, o_iload 1 3),
  (20, o_iret),
  (21, o_iload 1 0),
  (22, o_iload 1 1),
  (23, o_call 0 0 2 0 0 (fun _ _ => True) (S_As_hugeLength zz)),
  (26, o_iret)]
set_option maxRecDepth 100000 in
theorem tm_As_newLength (zz : Nat × Nat) : mx_All (fun _ o => mx_Mono o) (t_As_newLength zz) := by
  refine mx_all_cons (mo_st) ?_
  refine mx_all_cons (mo_st) ?_
  refine mx_all_cons (mo_st) ?_
  refine mx_all_cons (mo_mm) ?_
  refine mx_all_cons (mo_st) ?_
  refine mx_all_cons (mo_st) ?_
  refine mx_all_cons (mo_st) ?_
  refine mx_all_cons (mo_st) ?_
  refine mx_all_cons (mo_br) ?_
  refine mx_all_cons (mo_st) ?_
  refine mx_all_cons (mo_st) ?_
  refine mx_all_cons (mo_br) ?_
  refine mx_all_cons (mo_st) ?_
  refine mx_all_cons (mo_ret) ?_
  refine mx_all_cons (mo_st) ?_
  refine mx_all_cons (mo_st) ?_
  refine mx_all_cons (mo_call (sm_As_hugeLength zz)) ?_
  refine mx_all_cons (mo_ret) ?_
  exact mx_all_nil
def S_As_newLength (zz : Nat × Nat) : mx_Sp := mx_S 4 0 0 (t_As_newLength zz)
theorem sm_As_newLength (zz : Nat × Nat) : mx_SMono (S_As_newLength zz) := mx_S_mono (tm_As_newLength zz)
abbrev rm_As_newLength : Room := { frames := 1, cells := 0, slots := 0, locals := 22 }
set_option maxHeartbeats 4000000 in
set_option maxRecDepth 100000 in
theorem m_As_newLength (l : Launch) (zz : Nat × Nat) : mx_Met l y_As_newLength (wsOf y_As_newLength c_As_newLength 4 (some .int)) rm_As_newLength wcl (mx_Z zz) 0 0 (S_As_newLength zz) := by
  refine mx_met (cc := c_As_newLength) (ret := (some .int)) (by decide) rfl ?_
  intro p e s m args below meth c D A Post X hz hr hlk hnm
  have hm : ∀ w ∈ mw, w.before args s = true := fun w h => X.1.2.2.2.2 w (List.mem_cons_of_mem _ h)
  refine mx_all_cons (ok_iload (fun hl kk => lv_iload_n X.1.1 X.1.2.1 d_As_newLength_0 rfl hl kk)) ?_
  refine mx_all_cons (ok_iload (fun hl kk => lv_iload_n X.1.1 X.1.2.1 d_As_newLength_1 rfl hl kk)) ?_
  refine mx_all_cons (ok_iload (fun hl kk => lv_iload_n X.1.1 X.1.2.1 d_As_newLength_2 rfl hl kk)) ?_
  refine mx_all_cons (ok_mmax X ⟨⟨(Nat.le_of_ble_eq_true rfl), (Nat.le_of_ble_eq_true rfl)⟩, (Nat.le_of_ble_eq_true rfl), (Nat.le_of_ble_eq_true rfl)⟩ (hm _ w276) (hm _ w277) (hm _ w43) (hm _ w278) d_As_newLength_3) ?_
  refine mx_all_cons (ok_ii (fun kk => lv_iadd X.1.1 X.1.2.1 d_As_newLength_6 kk)) ?_
  refine mx_all_cons (ok_istore (fun hl kk => lv_istore_n X.1.1 X.1.2.1 d_As_newLength_7 rfl hl (by decide) rfl kk)) ?_
  refine mx_all_cons (ok_push (fun kk => lv_iconst X.1.1 X.1.2.1 d_As_newLength_8 (by decide) kk)) ?_
  refine mx_all_cons (ok_iload (fun hl kk => lv_iload_n X.1.1 X.1.2.1 d_As_newLength_9 rfl hl kk)) ?_
  refine mx_all_cons (ok_icmp (fun kt kf => lv_icmp_ge X.1.1 X.1.2.1 d_As_newLength_10 (by decide) kt kf)) ?_
  refine mx_all_cons (ok_iload (fun hl kk => lv_iload_n X.1.1 X.1.2.1 d_As_newLength_13 rfl hl kk)) ?_
  refine mx_all_cons (ok_push (fun kk => lv_ldc X.1.1 X.1.2.1 X.1.2.2.2.1 (hm _ w279) d_As_newLength_14 kk)) ?_
  refine mx_all_cons (ok_icmp (fun kt kf => lv_icmp_gt X.1.1 X.1.2.1 d_As_newLength_16 (by decide) kt kf)) ?_
  refine mx_all_cons (ok_iload (fun hl kk => lv_iload_n X.1.1 X.1.2.1 d_As_newLength_19 rfl hl kk)) ?_
  refine mx_all_cons (ok_iret X hr hlk d_As_newLength_20) ?_
  refine mx_all_cons (ok_iload (fun hl kk => lv_iload_n X.1.1 X.1.2.1 d_As_newLength_21 rfl hl kk)) ?_
  refine mx_all_cons (ok_iload (fun hl kk => lv_iload_n X.1.1 X.1.2.1 d_As_newLength_22 rfl hl kk)) ?_
  refine mx_all_cons (ok_callS X (mx_Zok_Z zz) hz ⟨(Nat.le_of_ble_eq_true rfl), (Nat.le_of_ble_eq_true rfl)⟩ (m_As_hugeLength l zz) ⟨mx_cwB 2 hm w282 w280 w42 rfl rfl (by decide +kernel) ⟨(Nat.le_of_ble_eq_true rfl), (Nat.le_of_ble_eq_true rfl)⟩, (hm _ w281)⟩ d_As_newLength_23) ?_
  refine mx_all_cons (ok_iret X hr hlk d_As_newLength_26) ?_
  exact mx_all_nil
theorem st_As_newLength_0 (zz : Nat × Nat) (r : mx_T) (ls : mx_L) (st : List Value) (h : mx_H) (c n : Nat) : mx_G r (t_As_newLength zz) 0 ls st h c n = (o_iload 1 0) r (mx_G r (t_As_newLength zz)) 0 ls st h c n := mx_G_eq (tm_As_newLength zz) r 0 ls st h c n
theorem st_As_newLength_1 (zz : Nat × Nat) (r : mx_T) (ls : mx_L) (st : List Value) (h : mx_H) (c n : Nat) : mx_G r (t_As_newLength zz) 1 ls st h c n = (o_iload 1 1) r (mx_G r (t_As_newLength zz)) 1 ls st h c n := mx_G_eq (tm_As_newLength zz) r 1 ls st h c n
theorem st_As_newLength_2 (zz : Nat × Nat) (r : mx_T) (ls : mx_L) (st : List Value) (h : mx_H) (c n : Nat) : mx_G r (t_As_newLength zz) 2 ls st h c n = (o_iload 1 2) r (mx_G r (t_As_newLength zz)) 2 ls st h c n := mx_G_eq (tm_As_newLength zz) r 2 ls st h c n
theorem st_As_newLength_3 (zz : Nat × Nat) (r : mx_T) (ls : mx_L) (st : List Value) (h : mx_H) (c n : Nat) : mx_G r (t_As_newLength zz) 3 ls st h c n = (o_mm 0 0 (fun x y => if x < y then y else x)) r (mx_G r (t_As_newLength zz)) 3 ls st h c n := mx_G_eq (tm_As_newLength zz) r 3 ls st h c n
theorem st_As_newLength_6 (zz : Nat × Nat) (r : mx_T) (ls : mx_L) (st : List Value) (h : mx_H) (c n : Nat) : mx_G r (t_As_newLength zz) 6 ls st h c n = (o_ii (fun x y => x + y)) r (mx_G r (t_As_newLength zz)) 6 ls st h c n := mx_G_eq (tm_As_newLength zz) r 6 ls st h c n
theorem st_As_newLength_7 (zz : Nat × Nat) (r : mx_T) (ls : mx_L) (st : List Value) (h : mx_H) (c n : Nat) : mx_G r (t_As_newLength zz) 7 ls st h c n = (o_istore 1 3) r (mx_G r (t_As_newLength zz)) 7 ls st h c n := mx_G_eq (tm_As_newLength zz) r 7 ls st h c n
theorem st_As_newLength_8 (zz : Nat × Nat) (r : mx_T) (ls : mx_L) (st : List Value) (h : mx_H) (c n : Nat) : mx_G r (t_As_newLength zz) 8 ls st h c n = (o_push 1 (.int 0)) r (mx_G r (t_As_newLength zz)) 8 ls st h c n := mx_G_eq (tm_As_newLength zz) r 8 ls st h c n
theorem st_As_newLength_9 (zz : Nat × Nat) (r : mx_T) (ls : mx_L) (st : List Value) (h : mx_H) (c n : Nat) : mx_G r (t_As_newLength zz) 9 ls st h c n = (o_iload 1 3) r (mx_G r (t_As_newLength zz)) 9 ls st h c n := mx_G_eq (tm_As_newLength zz) r 9 ls st h c n
theorem st_As_newLength_10 (zz : Nat × Nat) (r : mx_T) (ls : mx_L) (st : List Value) (h : mx_H) (c n : Nat) : mx_G r (t_As_newLength zz) 10 ls st h c n = (o_icmp 21 (fun x y => y ≤ x)) r (mx_G r (t_As_newLength zz)) 10 ls st h c n := mx_G_eq (tm_As_newLength zz) r 10 ls st h c n
theorem st_As_newLength_13 (zz : Nat × Nat) (r : mx_T) (ls : mx_L) (st : List Value) (h : mx_H) (c n : Nat) : mx_G r (t_As_newLength zz) 13 ls st h c n = (o_iload 1 3) r (mx_G r (t_As_newLength zz)) 13 ls st h c n := mx_G_eq (tm_As_newLength zz) r 13 ls st h c n
theorem st_As_newLength_14 (zz : Nat × Nat) (r : mx_T) (ls : mx_L) (st : List Value) (h : mx_H) (c n : Nat) : mx_G r (t_As_newLength zz) 14 ls st h c n = (o_push 2 (.int 2147483639)) r (mx_G r (t_As_newLength zz)) 14 ls st h c n := mx_G_eq (tm_As_newLength zz) r 14 ls st h c n
theorem st_As_newLength_16 (zz : Nat × Nat) (r : mx_T) (ls : mx_L) (st : List Value) (h : mx_H) (c n : Nat) : mx_G r (t_As_newLength zz) 16 ls st h c n = (o_icmp 21 (fun x y => y < x)) r (mx_G r (t_As_newLength zz)) 16 ls st h c n := mx_G_eq (tm_As_newLength zz) r 16 ls st h c n
theorem st_As_newLength_19 (zz : Nat × Nat) (r : mx_T) (ls : mx_L) (st : List Value) (h : mx_H) (c n : Nat) : mx_G r (t_As_newLength zz) 19 ls st h c n = (o_iload 1 3) r (mx_G r (t_As_newLength zz)) 19 ls st h c n := mx_G_eq (tm_As_newLength zz) r 19 ls st h c n
theorem st_As_newLength_20 (zz : Nat × Nat) (r : mx_T) (ls : mx_L) (st : List Value) (h : mx_H) (c n : Nat) : mx_G r (t_As_newLength zz) 20 ls st h c n = (o_iret) r (mx_G r (t_As_newLength zz)) 20 ls st h c n := mx_G_eq (tm_As_newLength zz) r 20 ls st h c n
theorem st_As_newLength_21 (zz : Nat × Nat) (r : mx_T) (ls : mx_L) (st : List Value) (h : mx_H) (c n : Nat) : mx_G r (t_As_newLength zz) 21 ls st h c n = (o_iload 1 0) r (mx_G r (t_As_newLength zz)) 21 ls st h c n := mx_G_eq (tm_As_newLength zz) r 21 ls st h c n
theorem st_As_newLength_22 (zz : Nat × Nat) (r : mx_T) (ls : mx_L) (st : List Value) (h : mx_H) (c n : Nat) : mx_G r (t_As_newLength zz) 22 ls st h c n = (o_iload 1 1) r (mx_G r (t_As_newLength zz)) 22 ls st h c n := mx_G_eq (tm_As_newLength zz) r 22 ls st h c n
theorem st_As_newLength_23 (zz : Nat × Nat) (r : mx_T) (ls : mx_L) (st : List Value) (h : mx_H) (c n : Nat) : mx_G r (t_As_newLength zz) 23 ls st h c n = (o_call 0 0 2 0 0 (fun _ _ => True) (S_As_hugeLength zz)) r (mx_G r (t_As_newLength zz)) 23 ls st h c n := mx_G_eq (tm_As_newLength zz) r 23 ls st h c n
theorem st_As_newLength_26 (zz : Nat × Nat) (r : mx_T) (ls : mx_L) (st : List Value) (h : mx_H) (c n : Nat) : mx_G r (t_As_newLength zz) 26 ls st h c n = (o_iret) r (mx_G r (t_As_newLength zz)) 26 ls st h c n := mx_G_eq (tm_As_newLength zz) r 26 ls st h c n
theorem d_Ars_copyOf__0 : decode c_Ars_copyOf_ 0 = .ok (.aload_n 2, 1) := by decide +kernel
theorem d_Ars_copyOf__1 : decode c_Ars_copyOf_ 1 = .ok (.ldc 110, 2) := by decide +kernel
theorem d_Ars_copyOf__3 : decode c_Ars_copyOf_ 3 = .ok (.if_acmp .ne 10, 3) := by decide +kernel
theorem d_Ars_copyOf__6 : decode c_Ars_copyOf_ 6 = .ok (.iload_n 1, 1) := by decide +kernel
theorem d_Ars_copyOf__7 : decode c_Ars_copyOf_ 7 = .ok (.anewarray 2, 3) := by decide +kernel
theorem d_Ars_copyOf__10 : decode c_Ars_copyOf_ 10 = .ok (.goto 14, 3) := by decide +kernel
theorem d_Ars_copyOf__13 : decode c_Ars_copyOf_ 13 = .ok (.aload_n 2, 1) := by decide +kernel
theorem d_Ars_copyOf__17 : decode c_Ars_copyOf_ 17 = .ok (.iload_n 1, 1) := by decide +kernel
theorem d_Ars_copyOf__24 : decode c_Ars_copyOf_ 24 = .ok (.astore_n 3, 1) := by decide +kernel
theorem d_Ars_copyOf__25 : decode c_Ars_copyOf_ 25 = .ok (.aload_n 0, 1) := by decide +kernel
theorem d_Ars_copyOf__26 : decode c_Ars_copyOf_ 26 = .ok (.iconst 0, 1) := by decide +kernel
theorem d_Ars_copyOf__27 : decode c_Ars_copyOf_ 27 = .ok (.aload_n 3, 1) := by decide +kernel
theorem d_Ars_copyOf__28 : decode c_Ars_copyOf_ 28 = .ok (.iconst 0, 1) := by decide +kernel
theorem d_Ars_copyOf__29 : decode c_Ars_copyOf_ 29 = .ok (.aload_n 0, 1) := by decide +kernel
theorem d_Ars_copyOf__30 : decode c_Ars_copyOf_ 30 = .ok (.arraylength, 1) := by decide +kernel
theorem d_Ars_copyOf__31 : decode c_Ars_copyOf_ 31 = .ok (.iload_n 1, 1) := by decide +kernel
theorem d_Ars_copyOf__32 : decode c_Ars_copyOf_ 32 = .ok (.invokestatic 304, 3) := by decide +kernel
theorem d_Ars_copyOf__35 : decode c_Ars_copyOf_ 35 = .ok (.invokestatic 150, 3) := by decide +kernel
theorem d_Ars_copyOf__38 : decode c_Ars_copyOf_ 38 = .ok (.aload_n 3, 1) := by decide +kernel
theorem d_Ars_copyOf__39 : decode c_Ars_copyOf_ 39 = .ok (.areturn, 1) := by decide +kernel
def t_Ars_copyOf_ (zz : Nat × Nat) : List (Nat × mx_O) := [(0, o_aload 1 2),
  (1, o_push 2 (.ref zz.2)),
  (3, o_acmp 13 (fun x y => ¬ x = y)),
  (6, o_iload 1 1),
  (7, o_newqZ 1 64 zz.1 "java/lang/Object"),
  (10, o_goto 24),
  (13, o_aload 1 2),
  (17, o_iload 1 1),
  (24, o_astore 1 3),
  (25, o_aload 1 0),
  (26, o_push 1 (.int 0)),
  (27, o_aload 1 3),
  (28, o_push 1 (.int 0)),
  (29, o_aload 1 0),
  (30, o_alenZ zz.1),
  (31, o_iload 1 1),
  (32, o_mm 1 64 (fun x y => if y < x then y else x)),
  (35, o_copyq "java/lang/Object" [1, 2, 3, 4, 5]),
  (38, o_aload 1 3),
  (39, o_aret)]
set_option maxRecDepth 100000 in
theorem tm_Ars_copyOf_ (zz : Nat × Nat) : mx_All (fun _ o => mx_Mono o) (t_Ars_copyOf_ zz) := by
  refine mx_all_cons (mo_st) ?_
  refine mx_all_cons (mo_st) ?_
  refine mx_all_cons (mo_br) ?_
  refine mx_all_cons (mo_st) ?_
  refine mx_all_cons (mo_alZ) ?_
  refine mx_all_cons (mo_st) ?_
  refine mx_all_cons (mo_st) ?_
  refine mx_all_cons (mo_st) ?_
  refine mx_all_cons (mo_st) ?_
  refine mx_all_cons (mo_st) ?_
  refine mx_all_cons (mo_st) ?_
  refine mx_all_cons (mo_st) ?_
  refine mx_all_cons (mo_st) ?_
  refine mx_all_cons (mo_st) ?_
  refine mx_all_cons (mo_st) ?_
  refine mx_all_cons (mo_st) ?_
  refine mx_all_cons (mo_mm) ?_
  refine mx_all_cons (mo_sc) ?_
  refine mx_all_cons (mo_st) ?_
  refine mx_all_cons (mo_ret) ?_
  exact mx_all_nil
def S_Ars_copyOf_ (zz : Nat × Nat) : mx_Sp := mx_S 4 1 64 (t_Ars_copyOf_ zz)
theorem sm_Ars_copyOf_ (zz : Nat × Nat) : mx_SMono (S_Ars_copyOf_ zz) := mx_S_mono (tm_Ars_copyOf_ zz)
abbrev rm_Ars_copyOf_ : Room := { frames := 1, cells := 1, slots := 64, locals := 60 }
set_option maxHeartbeats 4000000 in
set_option maxRecDepth 100000 in
theorem m_Ars_copyOf_ (l : Launch) (zz : Nat × Nat) : mx_Met l y_Ars_copyOf_ (wsOf y_Ars_copyOf_ c_Ars_copyOf_ 4 (some (.array (.object "java/lang/Object")))) rm_Ars_copyOf_ wcl (mx_Z zz) 1 64 (S_Ars_copyOf_ zz) := by
  refine mx_met (cc := c_Ars_copyOf_) (ret := (some (.array (.object "java/lang/Object")))) (by decide) rfl ?_
  intro p e s m args below meth c D A Post X hz hr hlk hnm
  have hm : ∀ w ∈ mw, w.before args s = true := fun w h => X.1.2.2.2.2 w (List.mem_cons_of_mem _ h)
  refine mx_all_cons (ok_aload (fun hl kk => lv_aload_n X.1.1 X.1.2.1 d_Ars_copyOf__0 rfl hl kk) (fun hl kk => lv_aload_nN X.1.1 X.1.2.1 d_Ars_copyOf__0 rfl hl kk)) ?_
  refine mx_all_cons (ok_push (fun kk => va_ldcM X.1.1 X.1.2.1 X.1.2.2.2.1 (hm _ w304) hz.2.2.2.2.1 d_Ars_copyOf__1 kk)) ?_
  refine mx_all_cons (ok_acmpne X d_Ars_copyOf__3 (by decide)) ?_
  refine mx_all_cons (ok_iload (fun hl kk => lv_iload_n X.1.1 X.1.2.1 d_Ars_copyOf__6 rfl hl kk)) ?_
  refine mx_all_cons (ok_newqZ X hz.2.1 ⟨(Nat.le_of_ble_eq_true rfl), (Nat.le_of_ble_eq_true rfl)⟩ (hm _ w306) (hz.2.2.2.1 "java/lang/Object" (by decide +kernel)) d_Ars_copyOf__7) ?_
  refine mx_all_cons (ok_goto X d_Ars_copyOf__10 (by decide)) ?_
  refine mx_all_cons (ok_aload (fun hl kk => lv_aload_n X.1.1 X.1.2.1 d_Ars_copyOf__13 rfl hl kk) (fun hl kk => lv_aload_nN X.1.1 X.1.2.1 d_Ars_copyOf__13 rfl hl kk)) ?_
  refine mx_all_cons (ok_iload (fun hl kk => lv_iload_n X.1.1 X.1.2.1 d_Ars_copyOf__17 rfl hl kk)) ?_
  refine mx_all_cons (ok_astore (fun hl kk => lv_astore_n X.1.1 X.1.2.1 d_Ars_copyOf__24 rfl hl (by decide) rfl kk) (fun hl kk => lv_astore_nN X.1.1 X.1.2.1 d_Ars_copyOf__24 rfl hl (by decide) rfl kk)) ?_
  refine mx_all_cons (ok_aload (fun hl kk => lv_aload_n X.1.1 X.1.2.1 d_Ars_copyOf__25 rfl hl kk) (fun hl kk => lv_aload_nN X.1.1 X.1.2.1 d_Ars_copyOf__25 rfl hl kk)) ?_
  refine mx_all_cons (ok_push (fun kk => lv_iconst X.1.1 X.1.2.1 d_Ars_copyOf__26 (by decide) kk)) ?_
  refine mx_all_cons (ok_aload (fun hl kk => lv_aload_n X.1.1 X.1.2.1 d_Ars_copyOf__27 rfl hl kk) (fun hl kk => lv_aload_nN X.1.1 X.1.2.1 d_Ars_copyOf__27 rfl hl kk)) ?_
  refine mx_all_cons (ok_push (fun kk => lv_iconst X.1.1 X.1.2.1 d_Ars_copyOf__28 (by decide) kk)) ?_
  refine mx_all_cons (ok_aload (fun hl kk => lv_aload_n X.1.1 X.1.2.1 d_Ars_copyOf__29 rfl hl kk) (fun hl kk => lv_aload_nN X.1.1 X.1.2.1 d_Ars_copyOf__29 rfl hl kk)) ?_
  refine mx_all_cons (ok_alenZ X hz.2.1 d_Ars_copyOf__30) ?_
  refine mx_all_cons (ok_iload (fun hl kk => lv_iload_n X.1.1 X.1.2.1 d_Ars_copyOf__31 rfl hl kk)) ?_
  refine mx_all_cons (ok_mmin X ⟨⟨(Nat.le_of_ble_eq_true rfl), (Nat.le_of_ble_eq_true rfl)⟩, (Nat.le_of_ble_eq_true rfl), (Nat.le_of_ble_eq_true rfl)⟩ (hm _ w307) (hm _ w308) (hm _ w43) (hm _ w309) d_Ars_copyOf__32) ?_
  refine mx_all_cons (ok_copyq X (asg_Oj hz.2.2.2.2.2.2) (hm _ w310) (hm _ w312) (hm _ w311) (hm _ w45) ⟨(Nat.le_of_ble_eq_true rfl), by decide⟩ d_Ars_copyOf__35) ?_
  refine mx_all_cons (ok_aload (fun hl kk => lv_aload_n X.1.1 X.1.2.1 d_Ars_copyOf__38 rfl hl kk) (fun hl kk => lv_aload_nN X.1.1 X.1.2.1 d_Ars_copyOf__38 rfl hl kk)) ?_
  refine mx_all_cons (ok_aret X hr (by first | exact Or.inl ⟨_, rfl⟩ | exact Or.inr ⟨_, rfl⟩) hlk d_Ars_copyOf__39) ?_
  exact mx_all_nil
theorem st_Ars_copyOf__0 (zz : Nat × Nat) (r : mx_T) (ls : mx_L) (st : List Value) (h : mx_H) (c n : Nat) : mx_G r (t_Ars_copyOf_ zz) 0 ls st h c n = (o_aload 1 2) r (mx_G r (t_Ars_copyOf_ zz)) 0 ls st h c n := mx_G_eq (tm_Ars_copyOf_ zz) r 0 ls st h c n
theorem st_Ars_copyOf__1 (zz : Nat × Nat) (r : mx_T) (ls : mx_L) (st : List Value) (h : mx_H) (c n : Nat) : mx_G r (t_Ars_copyOf_ zz) 1 ls st h c n = (o_push 2 (.ref zz.2)) r (mx_G r (t_Ars_copyOf_ zz)) 1 ls st h c n := mx_G_eq (tm_Ars_copyOf_ zz) r 1 ls st h c n
theorem st_Ars_copyOf__3 (zz : Nat × Nat) (r : mx_T) (ls : mx_L) (st : List Value) (h : mx_H) (c n : Nat) : mx_G r (t_Ars_copyOf_ zz) 3 ls st h c n = (o_acmp 13 (fun x y => ¬ x = y)) r (mx_G r (t_Ars_copyOf_ zz)) 3 ls st h c n := mx_G_eq (tm_Ars_copyOf_ zz) r 3 ls st h c n
theorem st_Ars_copyOf__6 (zz : Nat × Nat) (r : mx_T) (ls : mx_L) (st : List Value) (h : mx_H) (c n : Nat) : mx_G r (t_Ars_copyOf_ zz) 6 ls st h c n = (o_iload 1 1) r (mx_G r (t_Ars_copyOf_ zz)) 6 ls st h c n := mx_G_eq (tm_Ars_copyOf_ zz) r 6 ls st h c n
theorem st_Ars_copyOf__7 (zz : Nat × Nat) (r : mx_T) (ls : mx_L) (st : List Value) (h : mx_H) (c n : Nat) : mx_G r (t_Ars_copyOf_ zz) 7 ls st h c n = (o_newqZ 1 64 zz.1 "java/lang/Object") r (mx_G r (t_Ars_copyOf_ zz)) 7 ls st h c n := mx_G_eq (tm_Ars_copyOf_ zz) r 7 ls st h c n
theorem st_Ars_copyOf__10 (zz : Nat × Nat) (r : mx_T) (ls : mx_L) (st : List Value) (h : mx_H) (c n : Nat) : mx_G r (t_Ars_copyOf_ zz) 10 ls st h c n = (o_goto 24) r (mx_G r (t_Ars_copyOf_ zz)) 10 ls st h c n := mx_G_eq (tm_Ars_copyOf_ zz) r 10 ls st h c n
theorem st_Ars_copyOf__13 (zz : Nat × Nat) (r : mx_T) (ls : mx_L) (st : List Value) (h : mx_H) (c n : Nat) : mx_G r (t_Ars_copyOf_ zz) 13 ls st h c n = (o_aload 1 2) r (mx_G r (t_Ars_copyOf_ zz)) 13 ls st h c n := mx_G_eq (tm_Ars_copyOf_ zz) r 13 ls st h c n
theorem st_Ars_copyOf__17 (zz : Nat × Nat) (r : mx_T) (ls : mx_L) (st : List Value) (h : mx_H) (c n : Nat) : mx_G r (t_Ars_copyOf_ zz) 17 ls st h c n = (o_iload 1 1) r (mx_G r (t_Ars_copyOf_ zz)) 17 ls st h c n := mx_G_eq (tm_Ars_copyOf_ zz) r 17 ls st h c n
theorem st_Ars_copyOf__24 (zz : Nat × Nat) (r : mx_T) (ls : mx_L) (st : List Value) (h : mx_H) (c n : Nat) : mx_G r (t_Ars_copyOf_ zz) 24 ls st h c n = (o_astore 1 3) r (mx_G r (t_Ars_copyOf_ zz)) 24 ls st h c n := mx_G_eq (tm_Ars_copyOf_ zz) r 24 ls st h c n
theorem st_Ars_copyOf__25 (zz : Nat × Nat) (r : mx_T) (ls : mx_L) (st : List Value) (h : mx_H) (c n : Nat) : mx_G r (t_Ars_copyOf_ zz) 25 ls st h c n = (o_aload 1 0) r (mx_G r (t_Ars_copyOf_ zz)) 25 ls st h c n := mx_G_eq (tm_Ars_copyOf_ zz) r 25 ls st h c n
theorem st_Ars_copyOf__26 (zz : Nat × Nat) (r : mx_T) (ls : mx_L) (st : List Value) (h : mx_H) (c n : Nat) : mx_G r (t_Ars_copyOf_ zz) 26 ls st h c n = (o_push 1 (.int 0)) r (mx_G r (t_Ars_copyOf_ zz)) 26 ls st h c n := mx_G_eq (tm_Ars_copyOf_ zz) r 26 ls st h c n
theorem st_Ars_copyOf__27 (zz : Nat × Nat) (r : mx_T) (ls : mx_L) (st : List Value) (h : mx_H) (c n : Nat) : mx_G r (t_Ars_copyOf_ zz) 27 ls st h c n = (o_aload 1 3) r (mx_G r (t_Ars_copyOf_ zz)) 27 ls st h c n := mx_G_eq (tm_Ars_copyOf_ zz) r 27 ls st h c n
theorem st_Ars_copyOf__28 (zz : Nat × Nat) (r : mx_T) (ls : mx_L) (st : List Value) (h : mx_H) (c n : Nat) : mx_G r (t_Ars_copyOf_ zz) 28 ls st h c n = (o_push 1 (.int 0)) r (mx_G r (t_Ars_copyOf_ zz)) 28 ls st h c n := mx_G_eq (tm_Ars_copyOf_ zz) r 28 ls st h c n
theorem st_Ars_copyOf__29 (zz : Nat × Nat) (r : mx_T) (ls : mx_L) (st : List Value) (h : mx_H) (c n : Nat) : mx_G r (t_Ars_copyOf_ zz) 29 ls st h c n = (o_aload 1 0) r (mx_G r (t_Ars_copyOf_ zz)) 29 ls st h c n := mx_G_eq (tm_Ars_copyOf_ zz) r 29 ls st h c n
theorem st_Ars_copyOf__30 (zz : Nat × Nat) (r : mx_T) (ls : mx_L) (st : List Value) (h : mx_H) (c n : Nat) : mx_G r (t_Ars_copyOf_ zz) 30 ls st h c n = (o_alenZ zz.1) r (mx_G r (t_Ars_copyOf_ zz)) 30 ls st h c n := mx_G_eq (tm_Ars_copyOf_ zz) r 30 ls st h c n
theorem st_Ars_copyOf__31 (zz : Nat × Nat) (r : mx_T) (ls : mx_L) (st : List Value) (h : mx_H) (c n : Nat) : mx_G r (t_Ars_copyOf_ zz) 31 ls st h c n = (o_iload 1 1) r (mx_G r (t_Ars_copyOf_ zz)) 31 ls st h c n := mx_G_eq (tm_Ars_copyOf_ zz) r 31 ls st h c n
theorem st_Ars_copyOf__32 (zz : Nat × Nat) (r : mx_T) (ls : mx_L) (st : List Value) (h : mx_H) (c n : Nat) : mx_G r (t_Ars_copyOf_ zz) 32 ls st h c n = (o_mm 1 64 (fun x y => if y < x then y else x)) r (mx_G r (t_Ars_copyOf_ zz)) 32 ls st h c n := mx_G_eq (tm_Ars_copyOf_ zz) r 32 ls st h c n
theorem st_Ars_copyOf__35 (zz : Nat × Nat) (r : mx_T) (ls : mx_L) (st : List Value) (h : mx_H) (c n : Nat) : mx_G r (t_Ars_copyOf_ zz) 35 ls st h c n = (o_copyq "java/lang/Object" [1, 2, 3, 4, 5]) r (mx_G r (t_Ars_copyOf_ zz)) 35 ls st h c n := mx_G_eq (tm_Ars_copyOf_ zz) r 35 ls st h c n
theorem st_Ars_copyOf__38 (zz : Nat × Nat) (r : mx_T) (ls : mx_L) (st : List Value) (h : mx_H) (c n : Nat) : mx_G r (t_Ars_copyOf_ zz) 38 ls st h c n = (o_aload 1 3) r (mx_G r (t_Ars_copyOf_ zz)) 38 ls st h c n := mx_G_eq (tm_Ars_copyOf_ zz) r 38 ls st h c n
theorem st_Ars_copyOf__39 (zz : Nat × Nat) (r : mx_T) (ls : mx_L) (st : List Value) (h : mx_H) (c n : Nat) : mx_G r (t_Ars_copyOf_ zz) 39 ls st h c n = (o_aret) r (mx_G r (t_Ars_copyOf_ zz)) 39 ls st h c n := mx_G_eq (tm_Ars_copyOf_ zz) r 39 ls st h c n
theorem d_Ars_copyOf_0 : decode c_Ars_copyOf 0 = .ok (.aload_n 0, 1) := by decide +kernel
theorem d_Ars_copyOf_1 : decode c_Ars_copyOf 1 = .ok (.iload_n 1, 1) := by decide +kernel
theorem d_Ars_copyOf_2 : decode c_Ars_copyOf 2 = .ok (.aload_n 0, 1) := by decide +kernel
theorem d_Ars_copyOf_3 : decode c_Ars_copyOf 3 = .ok (.invokevirtual 86, 3) := by decide +kernel
theorem d_Ars_copyOf_6 : decode c_Ars_copyOf 6 = .ok (.invokestatic 300, 3) := by decide +kernel
theorem d_Ars_copyOf_9 : decode c_Ars_copyOf 9 = .ok (.areturn, 1) := by decide +kernel
def t_Ars_copyOf (zz : Nat × Nat) : List (Nat × mx_O) := [(0, o_aload 1 0),
  (1, o_iload 1 1),
  (2, o_aload 1 0),
  (3, o_getC "java/lang/Object" zz.2),
  (6, o_call 1 64 3 1 64 (fun _ _ => True) (S_Ars_copyOf_ zz)),
  (9, o_aret)]
set_option maxRecDepth 100000 in
theorem tm_Ars_copyOf (zz : Nat × Nat) : mx_All (fun _ o => mx_Mono o) (t_Ars_copyOf zz) := by
  refine mx_all_cons (mo_st) ?_
  refine mx_all_cons (mo_st) ?_
  refine mx_all_cons (mo_st) ?_
  refine mx_all_cons (mo_sc) ?_
  refine mx_all_cons (mo_call (sm_Ars_copyOf_ zz)) ?_
  refine mx_all_cons (mo_ret) ?_
  exact mx_all_nil
def S_Ars_copyOf (zz : Nat × Nat) : mx_Sp := mx_S 2 1 64 (t_Ars_copyOf zz)
theorem sm_Ars_copyOf (zz : Nat × Nat) : mx_SMono (S_Ars_copyOf zz) := mx_S_mono (tm_Ars_copyOf zz)
abbrev rm_Ars_copyOf : Room := { frames := 2, cells := 1, slots := 64, locals := 83 }
set_option maxHeartbeats 4000000 in
set_option maxRecDepth 100000 in
theorem m_Ars_copyOf (l : Launch) (zz : Nat × Nat) : mx_Met l y_Ars_copyOf (wsOf y_Ars_copyOf c_Ars_copyOf 2 (some (.array (.object "java/lang/Object")))) rm_Ars_copyOf wcl (mx_Z zz) 1 64 (S_Ars_copyOf zz) := by
  refine mx_met (cc := c_Ars_copyOf) (ret := (some (.array (.object "java/lang/Object")))) (by decide) rfl ?_
  intro p e s m args below meth c D A Post X hz hr hlk hnm
  have hm : ∀ w ∈ mw, w.before args s = true := fun w h => X.1.2.2.2.2 w (List.mem_cons_of_mem _ h)
  refine mx_all_cons (ok_aload (fun hl kk => lv_aload_n X.1.1 X.1.2.1 d_Ars_copyOf_0 rfl hl kk) (fun hl kk => lv_aload_nN X.1.1 X.1.2.1 d_Ars_copyOf_0 rfl hl kk)) ?_
  refine mx_all_cons (ok_iload (fun hl kk => lv_iload_n X.1.1 X.1.2.1 d_Ars_copyOf_1 rfl hl kk)) ?_
  refine mx_all_cons (ok_aload (fun hl kk => lv_aload_n X.1.1 X.1.2.1 d_Ars_copyOf_2 rfl hl kk) (fun hl kk => lv_aload_nN X.1.1 X.1.2.1 d_Ars_copyOf_2 rfl hl kk)) ?_
  refine mx_all_cons (ok_getC X (by decide) (hm _ w286) hz.2.2.2.2.2.1 (hm _ w952) (hm _ w287) (hm _ w300) hz.2.2.2.2.1 ⟨(Nat.le_of_ble_eq_true rfl), (Nat.le_of_ble_eq_true rfl)⟩ d_Ars_copyOf_3) ?_
  refine mx_all_cons (ok_callS X (mx_Zok_Z zz) hz ⟨(Nat.le_of_ble_eq_true rfl), (Nat.le_of_ble_eq_true rfl)⟩ (m_Ars_copyOf_ l zz) ⟨mx_cwB 3 hm w303 w301 w44 rfl rfl (by decide +kernel) ⟨(Nat.le_of_ble_eq_true rfl), (Nat.le_of_ble_eq_true rfl)⟩, (hm _ w302)⟩ d_Ars_copyOf_6) ?_
  refine mx_all_cons (ok_aret X hr (by first | exact Or.inl ⟨_, rfl⟩ | exact Or.inr ⟨_, rfl⟩) hlk d_Ars_copyOf_9) ?_
  exact mx_all_nil
theorem st_Ars_copyOf_0 (zz : Nat × Nat) (r : mx_T) (ls : mx_L) (st : List Value) (h : mx_H) (c n : Nat) : mx_G r (t_Ars_copyOf zz) 0 ls st h c n = (o_aload 1 0) r (mx_G r (t_Ars_copyOf zz)) 0 ls st h c n := mx_G_eq (tm_Ars_copyOf zz) r 0 ls st h c n
theorem st_Ars_copyOf_1 (zz : Nat × Nat) (r : mx_T) (ls : mx_L) (st : List Value) (h : mx_H) (c n : Nat) : mx_G r (t_Ars_copyOf zz) 1 ls st h c n = (o_iload 1 1) r (mx_G r (t_Ars_copyOf zz)) 1 ls st h c n := mx_G_eq (tm_Ars_copyOf zz) r 1 ls st h c n
theorem st_Ars_copyOf_2 (zz : Nat × Nat) (r : mx_T) (ls : mx_L) (st : List Value) (h : mx_H) (c n : Nat) : mx_G r (t_Ars_copyOf zz) 2 ls st h c n = (o_aload 1 0) r (mx_G r (t_Ars_copyOf zz)) 2 ls st h c n := mx_G_eq (tm_Ars_copyOf zz) r 2 ls st h c n
theorem st_Ars_copyOf_3 (zz : Nat × Nat) (r : mx_T) (ls : mx_L) (st : List Value) (h : mx_H) (c n : Nat) : mx_G r (t_Ars_copyOf zz) 3 ls st h c n = (o_getC "java/lang/Object" zz.2) r (mx_G r (t_Ars_copyOf zz)) 3 ls st h c n := mx_G_eq (tm_Ars_copyOf zz) r 3 ls st h c n
theorem st_Ars_copyOf_6 (zz : Nat × Nat) (r : mx_T) (ls : mx_L) (st : List Value) (h : mx_H) (c n : Nat) : mx_G r (t_Ars_copyOf zz) 6 ls st h c n = (o_call 1 64 3 1 64 (fun _ _ => True) (S_Ars_copyOf_ zz)) r (mx_G r (t_Ars_copyOf zz)) 6 ls st h c n := mx_G_eq (tm_Ars_copyOf zz) r 6 ls st h c n
theorem st_Ars_copyOf_9 (zz : Nat × Nat) (r : mx_T) (ls : mx_L) (st : List Value) (h : mx_H) (c n : Nat) : mx_G r (t_Ars_copyOf zz) 9 ls st h c n = (o_aret) r (mx_G r (t_Ars_copyOf zz)) 9 ls st h c n := mx_G_eq (tm_Ars_copyOf zz) r 9 ls st h c n
theorem d_Al_grow__0 : decode c_Al_grow_ 0 = .ok (.aload_n 0, 1) := by decide +kernel
theorem d_Al_grow__1 : decode c_Al_grow_ 1 = .ok (.getfield 9, 3) := by decide +kernel
theorem d_Al_grow__4 : decode c_Al_grow_ 4 = .ok (.arraylength, 1) := by decide +kernel
theorem d_Al_grow__5 : decode c_Al_grow_ 5 = .ok (.istore_n 2, 1) := by decide +kernel
theorem d_Al_grow__6 : decode c_Al_grow_ 6 = .ok (.iload_n 2, 1) := by decide +kernel
theorem d_Al_grow__7 : decode c_Al_grow_ 7 = .ok (.ifCond .gt 13, 3) := by decide +kernel
theorem d_Al_grow__10 : decode c_Al_grow_ 10 = .ok (.aload_n 0, 1) := by decide +kernel
theorem d_Al_grow__11 : decode c_Al_grow_ 11 = .ok (.getfield 9, 3) := by decide +kernel
theorem d_Al_grow__14 : decode c_Al_grow_ 14 = .ok (.getstatic 39, 3) := by decide +kernel
theorem d_Al_grow__17 : decode c_Al_grow_ 17 = .ok (.if_acmp .eq 28, 3) := by decide +kernel
theorem d_Al_grow__20 : decode c_Al_grow_ 20 = .ok (.iload_n 2, 1) := by decide +kernel
theorem d_Al_grow__21 : decode c_Al_grow_ 21 = .ok (.iload_n 1, 1) := by decide +kernel
theorem d_Al_grow__22 : decode c_Al_grow_ 22 = .ok (.iload_n 2, 1) := by decide +kernel
theorem d_Al_grow__23 : decode c_Al_grow_ 23 = .ok (.isub, 1) := by decide +kernel
theorem d_Al_grow__24 : decode c_Al_grow_ 24 = .ok (.iload_n 2, 1) := by decide +kernel
theorem d_Al_grow__25 : decode c_Al_grow_ 25 = .ok (.iconst 1, 1) := by decide +kernel
theorem d_Al_grow__26 : decode c_Al_grow_ 26 = .ok (.ishr, 1) := by decide +kernel
theorem d_Al_grow__27 : decode c_Al_grow_ 27 = .ok (.invokestatic 73, 3) := by decide +kernel
theorem d_Al_grow__30 : decode c_Al_grow_ 30 = .ok (.istore_n 3, 1) := by decide +kernel
theorem d_Al_grow__31 : decode c_Al_grow_ 31 = .ok (.aload_n 0, 1) := by decide +kernel
theorem d_Al_grow__32 : decode c_Al_grow_ 32 = .ok (.aload_n 0, 1) := by decide +kernel
theorem d_Al_grow__33 : decode c_Al_grow_ 33 = .ok (.getfield 9, 3) := by decide +kernel
theorem d_Al_grow__36 : decode c_Al_grow_ 36 = .ok (.iload_n 3, 1) := by decide +kernel
theorem d_Al_grow__37 : decode c_Al_grow_ 37 = .ok (.invokestatic 66, 3) := by decide +kernel
theorem d_Al_grow__40 : decode c_Al_grow_ 40 = .ok (.dup_x1, 1) := by decide +kernel
theorem d_Al_grow__41 : decode c_Al_grow_ 41 = .ok (.putfield 9, 3) := by decide +kernel
theorem d_Al_grow__44 : decode c_Al_grow_ 44 = .ok (.areturn, 1) := by decide +kernel
theorem d_Al_grow__45 : decode c_Al_grow_ 45 = .ok (.aload_n 0, 1) := by decide +kernel
theorem d_Al_grow__46 : decode c_Al_grow_ 46 = .ok (.bipush 10, 2) := by decide +kernel
theorem d_Al_grow__48 : decode c_Al_grow_ 48 = .ok (.iload_n 1, 1) := by decide +kernel
theorem d_Al_grow__49 : decode c_Al_grow_ 49 = .ok (.invokestatic 79, 3) := by decide +kernel
theorem d_Al_grow__52 : decode c_Al_grow_ 52 = .ok (.anewarray 7, 3) := by decide +kernel
theorem d_Al_grow__55 : decode c_Al_grow_ 55 = .ok (.dup_x1, 1) := by decide +kernel
theorem d_Al_grow__56 : decode c_Al_grow_ 56 = .ok (.putfield 9, 3) := by decide +kernel
theorem d_Al_grow__59 : decode c_Al_grow_ 59 = .ok (.areturn, 1) := by decide +kernel
def t_Al_grow_ (zz : Nat × Nat) : List (Nat × mx_O) := [(0, o_aload 1 0),
  (1, o_get 9 1),
  (4, o_alenZ zz.1),
  (5, o_istore 1 2),
  (6, o_iload 1 2),
  (7, o_if 20 (fun x => 0 < x)),
  (10, o_aload 1 0),
  (11, o_get 9 1),
  (14, o_push 3 (.ref zz.1)),
  (17, o_acmp 45 (fun x y => x = y)),
  (20, o_iload 1 2),
  (21, o_iload 1 1),
  (22, o_iload 1 2),
  (23, o_ii (fun x y => x - y)),
  (24, o_iload 1 2),
  (25, o_push 1 (.int 1)),
  (26, o_ii (fun x y => x >>> (y &&& 31))),
  (27, o_call 2 128 3 0 0 (fun _ _ => True) (S_As_newLength zz)),
  (30, o_istore 1 3),
  (31, o_aload 1 0),
  (32, o_aload 1 0),
  (33, o_get 9 1),
  (36, o_iload 1 3),
  (37, o_call 2 128 2 1 64 (fun _ _ => True) (S_Ars_copyOf zz)),
  (40, o_dupx1),
  (41, o_put 9 1 mx_vA),
  (44, o_aret),
  (45, o_aload 1 0),
  (46, o_push 2 (.int 10)),
  (48, o_iload 1 1),
  (49, o_mm 2 128 (fun x y => if x < y then y else x)),
  (52, o_newqZ 2 128 zz.1 "java/lang/Object"),
  (55, o_dupx1),
  (56, o_put 9 1 mx_vA),
  (59, o_aret)]
set_option maxRecDepth 100000 in
theorem tm_Al_grow_ (zz : Nat × Nat) : mx_All (fun _ o => mx_Mono o) (t_Al_grow_ zz) := by
  refine mx_all_cons (mo_st) ?_
  refine mx_all_cons (mo_st) ?_
  refine mx_all_cons (mo_st) ?_
  refine mx_all_cons (mo_st) ?_
  refine mx_all_cons (mo_st) ?_
  refine mx_all_cons (mo_br) ?_
  refine mx_all_cons (mo_st) ?_
  refine mx_all_cons (mo_st) ?_
  refine mx_all_cons (mo_st) ?_
  refine mx_all_cons (mo_br) ?_
  refine mx_all_cons (mo_st) ?_
  refine mx_all_cons (mo_st) ?_
  refine mx_all_cons (mo_st) ?_
  refine mx_all_cons (mo_st) ?_
  refine mx_all_cons (mo_st) ?_
  refine mx_all_cons (mo_st) ?_
  refine mx_all_cons (mo_st) ?_
  refine mx_all_cons (mo_call (sm_As_newLength zz)) ?_
  refine mx_all_cons (mo_st) ?_
  refine mx_all_cons (mo_st) ?_
  refine mx_all_cons (mo_st) ?_
  refine mx_all_cons (mo_st) ?_
  refine mx_all_cons (mo_st) ?_
  refine mx_all_cons (mo_call (sm_Ars_copyOf zz)) ?_
  refine mx_all_cons (mo_st) ?_
  refine mx_all_cons (mo_sc) ?_
  refine mx_all_cons (mo_ret) ?_
  refine mx_all_cons (mo_st) ?_
  refine mx_all_cons (mo_st) ?_
  refine mx_all_cons (mo_st) ?_
  refine mx_all_cons (mo_mm) ?_
  refine mx_all_cons (mo_alZ) ?_
  refine mx_all_cons (mo_st) ?_
  refine mx_all_cons (mo_sc) ?_
  refine mx_all_cons (mo_ret) ?_
  exact mx_all_nil
def S_Al_grow_ (zz : Nat × Nat) : mx_Sp := mx_S 4 2 128 (t_Al_grow_ zz)
theorem sm_Al_grow_ (zz : Nat × Nat) : mx_SMono (S_Al_grow_ zz) := mx_S_mono (tm_Al_grow_ zz)
abbrev rm_Al_grow_ : Room := { frames := 3, cells := 2, slots := 128, locals := 104 }
set_option maxHeartbeats 4000000 in
set_option maxRecDepth 100000 in
theorem m_Al_grow_ (l : Launch) (zz : Nat × Nat) : mx_Met l y_Al_grow_ (wsOf y_Al_grow_ c_Al_grow_ 4 (some (.array (.object "java/lang/Object")))) rm_Al_grow_ wcl (mx_Z zz) 2 128 (S_Al_grow_ zz) := by
  refine mx_met (cc := c_Al_grow_) (ret := (some (.array (.object "java/lang/Object")))) (by decide) rfl ?_
  intro p e s m args below meth c D A Post X hz hr hlk hnm
  have hm : ∀ w ∈ mw, w.before args s = true := fun w h => X.1.2.2.2.2 w (List.mem_cons_of_mem _ h)
  refine mx_all_cons (ok_aload (fun hl kk => lv_aload_n X.1.1 X.1.2.1 d_Al_grow__0 rfl hl kk) (fun hl kk => lv_aload_nN X.1.1 X.1.2.1 d_Al_grow__0 rfl hl kk)) ?_
  refine mx_all_cons (ok_get (C := "java/util/ArrayList") (T := T_Al) (N := 3) X (mw_up in_Al) rfl 1 (by decide) (hm _ w74) (fun _ h9 => h9) d_Al_grow__1) ?_
  refine mx_all_cons (ok_alenZ X hz.2.1 d_Al_grow__4) ?_
  refine mx_all_cons (ok_istore (fun hl kk => lv_istore_n X.1.1 X.1.2.1 d_Al_grow__5 rfl hl (by decide) rfl kk)) ?_
  refine mx_all_cons (ok_iload (fun hl kk => lv_iload_n X.1.1 X.1.2.1 d_Al_grow__6 rfl hl kk)) ?_
  refine mx_all_cons (ok_if (fun kt kf => lv_if_gt X.1.1 X.1.2.1 d_Al_grow__7 (by decide) kt kf)) ?_
  refine mx_all_cons (ok_aload (fun hl kk => lv_aload_n X.1.1 X.1.2.1 d_Al_grow__10 rfl hl kk) (fun hl kk => lv_aload_nN X.1.1 X.1.2.1 d_Al_grow__10 rfl hl kk)) ?_
  refine mx_all_cons (ok_get (C := "java/util/ArrayList") (T := T_Al) (N := 3) X (mw_up in_Al) rfl 1 (by decide) (hm _ w74) (fun _ h9 => h9) d_Al_grow__11) ?_
  refine mx_all_cons (ok_gets X hz.1 (hm _ w72) (fun _ h9 => h9) d_Al_grow__14) ?_
  refine mx_all_cons (ok_acmpeq X d_Al_grow__17 (by decide)) ?_
  refine mx_all_cons (ok_iload (fun hl kk => lv_iload_n X.1.1 X.1.2.1 d_Al_grow__20 rfl hl kk)) ?_
  refine mx_all_cons (ok_iload (fun hl kk => lv_iload_n X.1.1 X.1.2.1 d_Al_grow__21 rfl hl kk)) ?_
  refine mx_all_cons (ok_iload (fun hl kk => lv_iload_n X.1.1 X.1.2.1 d_Al_grow__22 rfl hl kk)) ?_
  refine mx_all_cons (ok_ii (fun kk => lv_isub X.1.1 X.1.2.1 d_Al_grow__23 kk)) ?_
  refine mx_all_cons (ok_iload (fun hl kk => lv_iload_n X.1.1 X.1.2.1 d_Al_grow__24 rfl hl kk)) ?_
  refine mx_all_cons (ok_push (fun kk => lv_iconst X.1.1 X.1.2.1 d_Al_grow__25 (by decide) kk)) ?_
  refine mx_all_cons (ok_ii (fun kk => lv_ishr X.1.1 X.1.2.1 d_Al_grow__26 kk)) ?_
  refine mx_all_cons (ok_callS X (mx_Zok_Z zz) hz ⟨(Nat.le_of_ble_eq_true rfl), (Nat.le_of_ble_eq_true rfl)⟩ (m_As_newLength l zz) ⟨mx_cwB 3 hm w275 w273 w42 rfl rfl (by decide +kernel) ⟨(Nat.le_of_ble_eq_true rfl), (Nat.le_of_ble_eq_true rfl)⟩, (hm _ w274)⟩ d_Al_grow__27) ?_
  refine mx_all_cons (ok_istore (fun hl kk => lv_istore_n X.1.1 X.1.2.1 d_Al_grow__30 rfl hl (by decide) rfl kk)) ?_
  refine mx_all_cons (ok_aload (fun hl kk => lv_aload_n X.1.1 X.1.2.1 d_Al_grow__31 rfl hl kk) (fun hl kk => lv_aload_nN X.1.1 X.1.2.1 d_Al_grow__31 rfl hl kk)) ?_
  refine mx_all_cons (ok_aload (fun hl kk => lv_aload_n X.1.1 X.1.2.1 d_Al_grow__32 rfl hl kk) (fun hl kk => lv_aload_nN X.1.1 X.1.2.1 d_Al_grow__32 rfl hl kk)) ?_
  refine mx_all_cons (ok_get (C := "java/util/ArrayList") (T := T_Al) (N := 3) X (mw_up in_Al) rfl 1 (by decide) (hm _ w74) (fun _ h9 => h9) d_Al_grow__33) ?_
  refine mx_all_cons (ok_iload (fun hl kk => lv_iload_n X.1.1 X.1.2.1 d_Al_grow__36 rfl hl kk)) ?_
  refine mx_all_cons (ok_callS X (mx_Zok_Z zz) hz ⟨(Nat.le_of_ble_eq_true rfl), (Nat.le_of_ble_eq_true rfl)⟩ (m_Ars_copyOf l zz) ⟨mx_cwB 2 hm w285 w283 w44 rfl rfl (by decide +kernel) ⟨(Nat.le_of_ble_eq_true rfl), (Nat.le_of_ble_eq_true rfl)⟩, (hm _ w284)⟩ d_Al_grow__37) ?_
  refine mx_all_cons (ok_dupx1 X d_Al_grow__40) ?_
  refine mx_all_cons (ok_put (C := "java/util/ArrayList") (T := T_Al) (N := 3) X (mw_up in_Al) ty_Al tyok_Al nm_Al rfl 1 (by decide) (hm _ w74) (fun _ h9 => h9) rfl (tyok_Al 1 (by decide)) mx_vA_okR d_Al_grow__41) ?_
  refine mx_all_cons (ok_aret X hr (by first | exact Or.inl ⟨_, rfl⟩ | exact Or.inr ⟨_, rfl⟩) hlk d_Al_grow__44) ?_
  refine mx_all_cons (ok_aload (fun hl kk => lv_aload_n X.1.1 X.1.2.1 d_Al_grow__45 rfl hl kk) (fun hl kk => lv_aload_nN X.1.1 X.1.2.1 d_Al_grow__45 rfl hl kk)) ?_
  refine mx_all_cons (ok_push (fun kk => lv_bipush X.1.1 X.1.2.1 d_Al_grow__46 (by decide) kk)) ?_
  refine mx_all_cons (ok_iload (fun hl kk => lv_iload_n X.1.1 X.1.2.1 d_Al_grow__48 rfl hl kk)) ?_
  refine mx_all_cons (ok_mmax X ⟨⟨(Nat.le_of_ble_eq_true rfl), (Nat.le_of_ble_eq_true rfl)⟩, (Nat.le_of_ble_eq_true rfl), (Nat.le_of_ble_eq_true rfl)⟩ (hm _ w313) (hm _ w277) (hm _ w43) (hm _ w278) d_Al_grow__49) ?_
  refine mx_all_cons (ok_newqZ X hz.2.1 ⟨(Nat.le_of_ble_eq_true rfl), (Nat.le_of_ble_eq_true rfl)⟩ (hm _ w314) (hz.2.2.2.1 "java/lang/Object" (by decide +kernel)) d_Al_grow__52) ?_
  refine mx_all_cons (ok_dupx1 X d_Al_grow__55) ?_
  refine mx_all_cons (ok_put (C := "java/util/ArrayList") (T := T_Al) (N := 3) X (mw_up in_Al) ty_Al tyok_Al nm_Al rfl 1 (by decide) (hm _ w74) (fun _ h9 => h9) rfl (tyok_Al 1 (by decide)) mx_vA_okR d_Al_grow__56) ?_
  refine mx_all_cons (ok_aret X hr (by first | exact Or.inl ⟨_, rfl⟩ | exact Or.inr ⟨_, rfl⟩) hlk d_Al_grow__59) ?_
  exact mx_all_nil
theorem st_Al_grow__0 (zz : Nat × Nat) (r : mx_T) (ls : mx_L) (st : List Value) (h : mx_H) (c n : Nat) : mx_G r (t_Al_grow_ zz) 0 ls st h c n = (o_aload 1 0) r (mx_G r (t_Al_grow_ zz)) 0 ls st h c n := mx_G_eq (tm_Al_grow_ zz) r 0 ls st h c n
theorem st_Al_grow__1 (zz : Nat × Nat) (r : mx_T) (ls : mx_L) (st : List Value) (h : mx_H) (c n : Nat) : mx_G r (t_Al_grow_ zz) 1 ls st h c n = (o_get 9 1) r (mx_G r (t_Al_grow_ zz)) 1 ls st h c n := mx_G_eq (tm_Al_grow_ zz) r 1 ls st h c n
theorem st_Al_grow__4 (zz : Nat × Nat) (r : mx_T) (ls : mx_L) (st : List Value) (h : mx_H) (c n : Nat) : mx_G r (t_Al_grow_ zz) 4 ls st h c n = (o_alenZ zz.1) r (mx_G r (t_Al_grow_ zz)) 4 ls st h c n := mx_G_eq (tm_Al_grow_ zz) r 4 ls st h c n
theorem st_Al_grow__5 (zz : Nat × Nat) (r : mx_T) (ls : mx_L) (st : List Value) (h : mx_H) (c n : Nat) : mx_G r (t_Al_grow_ zz) 5 ls st h c n = (o_istore 1 2) r (mx_G r (t_Al_grow_ zz)) 5 ls st h c n := mx_G_eq (tm_Al_grow_ zz) r 5 ls st h c n
theorem st_Al_grow__6 (zz : Nat × Nat) (r : mx_T) (ls : mx_L) (st : List Value) (h : mx_H) (c n : Nat) : mx_G r (t_Al_grow_ zz) 6 ls st h c n = (o_iload 1 2) r (mx_G r (t_Al_grow_ zz)) 6 ls st h c n := mx_G_eq (tm_Al_grow_ zz) r 6 ls st h c n
theorem st_Al_grow__7 (zz : Nat × Nat) (r : mx_T) (ls : mx_L) (st : List Value) (h : mx_H) (c n : Nat) : mx_G r (t_Al_grow_ zz) 7 ls st h c n = (o_if 20 (fun x => 0 < x)) r (mx_G r (t_Al_grow_ zz)) 7 ls st h c n := mx_G_eq (tm_Al_grow_ zz) r 7 ls st h c n
theorem st_Al_grow__10 (zz : Nat × Nat) (r : mx_T) (ls : mx_L) (st : List Value) (h : mx_H) (c n : Nat) : mx_G r (t_Al_grow_ zz) 10 ls st h c n = (o_aload 1 0) r (mx_G r (t_Al_grow_ zz)) 10 ls st h c n := mx_G_eq (tm_Al_grow_ zz) r 10 ls st h c n
theorem st_Al_grow__11 (zz : Nat × Nat) (r : mx_T) (ls : mx_L) (st : List Value) (h : mx_H) (c n : Nat) : mx_G r (t_Al_grow_ zz) 11 ls st h c n = (o_get 9 1) r (mx_G r (t_Al_grow_ zz)) 11 ls st h c n := mx_G_eq (tm_Al_grow_ zz) r 11 ls st h c n
theorem st_Al_grow__14 (zz : Nat × Nat) (r : mx_T) (ls : mx_L) (st : List Value) (h : mx_H) (c n : Nat) : mx_G r (t_Al_grow_ zz) 14 ls st h c n = (o_push 3 (.ref zz.1)) r (mx_G r (t_Al_grow_ zz)) 14 ls st h c n := mx_G_eq (tm_Al_grow_ zz) r 14 ls st h c n
theorem st_Al_grow__17 (zz : Nat × Nat) (r : mx_T) (ls : mx_L) (st : List Value) (h : mx_H) (c n : Nat) : mx_G r (t_Al_grow_ zz) 17 ls st h c n = (o_acmp 45 (fun x y => x = y)) r (mx_G r (t_Al_grow_ zz)) 17 ls st h c n := mx_G_eq (tm_Al_grow_ zz) r 17 ls st h c n
theorem st_Al_grow__20 (zz : Nat × Nat) (r : mx_T) (ls : mx_L) (st : List Value) (h : mx_H) (c n : Nat) : mx_G r (t_Al_grow_ zz) 20 ls st h c n = (o_iload 1 2) r (mx_G r (t_Al_grow_ zz)) 20 ls st h c n := mx_G_eq (tm_Al_grow_ zz) r 20 ls st h c n
theorem st_Al_grow__21 (zz : Nat × Nat) (r : mx_T) (ls : mx_L) (st : List Value) (h : mx_H) (c n : Nat) : mx_G r (t_Al_grow_ zz) 21 ls st h c n = (o_iload 1 1) r (mx_G r (t_Al_grow_ zz)) 21 ls st h c n := mx_G_eq (tm_Al_grow_ zz) r 21 ls st h c n
theorem st_Al_grow__22 (zz : Nat × Nat) (r : mx_T) (ls : mx_L) (st : List Value) (h : mx_H) (c n : Nat) : mx_G r (t_Al_grow_ zz) 22 ls st h c n = (o_iload 1 2) r (mx_G r (t_Al_grow_ zz)) 22 ls st h c n := mx_G_eq (tm_Al_grow_ zz) r 22 ls st h c n
theorem st_Al_grow__23 (zz : Nat × Nat) (r : mx_T) (ls : mx_L) (st : List Value) (h : mx_H) (c n : Nat) : mx_G r (t_Al_grow_ zz) 23 ls st h c n = (o_ii (fun x y => x - y)) r (mx_G r (t_Al_grow_ zz)) 23 ls st h c n := mx_G_eq (tm_Al_grow_ zz) r 23 ls st h c n
theorem st_Al_grow__24 (zz : Nat × Nat) (r : mx_T) (ls : mx_L) (st : List Value) (h : mx_H) (c n : Nat) : mx_G r (t_Al_grow_ zz) 24 ls st h c n = (o_iload 1 2) r (mx_G r (t_Al_grow_ zz)) 24 ls st h c n := mx_G_eq (tm_Al_grow_ zz) r 24 ls st h c n
theorem st_Al_grow__25 (zz : Nat × Nat) (r : mx_T) (ls : mx_L) (st : List Value) (h : mx_H) (c n : Nat) : mx_G r (t_Al_grow_ zz) 25 ls st h c n = (o_push 1 (.int 1)) r (mx_G r (t_Al_grow_ zz)) 25 ls st h c n := mx_G_eq (tm_Al_grow_ zz) r 25 ls st h c n
theorem st_Al_grow__26 (zz : Nat × Nat) (r : mx_T) (ls : mx_L) (st : List Value) (h : mx_H) (c n : Nat) : mx_G r (t_Al_grow_ zz) 26 ls st h c n = (o_ii (fun x y => x >>> (y &&& 31))) r (mx_G r (t_Al_grow_ zz)) 26 ls st h c n := mx_G_eq (tm_Al_grow_ zz) r 26 ls st h c n
theorem st_Al_grow__27 (zz : Nat × Nat) (r : mx_T) (ls : mx_L) (st : List Value) (h : mx_H) (c n : Nat) : mx_G r (t_Al_grow_ zz) 27 ls st h c n = (o_call 2 128 3 0 0 (fun _ _ => True) (S_As_newLength zz)) r (mx_G r (t_Al_grow_ zz)) 27 ls st h c n := mx_G_eq (tm_Al_grow_ zz) r 27 ls st h c n
theorem st_Al_grow__30 (zz : Nat × Nat) (r : mx_T) (ls : mx_L) (st : List Value) (h : mx_H) (c n : Nat) : mx_G r (t_Al_grow_ zz) 30 ls st h c n = (o_istore 1 3) r (mx_G r (t_Al_grow_ zz)) 30 ls st h c n := mx_G_eq (tm_Al_grow_ zz) r 30 ls st h c n
theorem st_Al_grow__31 (zz : Nat × Nat) (r : mx_T) (ls : mx_L) (st : List Value) (h : mx_H) (c n : Nat) : mx_G r (t_Al_grow_ zz) 31 ls st h c n = (o_aload 1 0) r (mx_G r (t_Al_grow_ zz)) 31 ls st h c n := mx_G_eq (tm_Al_grow_ zz) r 31 ls st h c n
theorem st_Al_grow__32 (zz : Nat × Nat) (r : mx_T) (ls : mx_L) (st : List Value) (h : mx_H) (c n : Nat) : mx_G r (t_Al_grow_ zz) 32 ls st h c n = (o_aload 1 0) r (mx_G r (t_Al_grow_ zz)) 32 ls st h c n := mx_G_eq (tm_Al_grow_ zz) r 32 ls st h c n
theorem st_Al_grow__33 (zz : Nat × Nat) (r : mx_T) (ls : mx_L) (st : List Value) (h : mx_H) (c n : Nat) : mx_G r (t_Al_grow_ zz) 33 ls st h c n = (o_get 9 1) r (mx_G r (t_Al_grow_ zz)) 33 ls st h c n := mx_G_eq (tm_Al_grow_ zz) r 33 ls st h c n
theorem st_Al_grow__36 (zz : Nat × Nat) (r : mx_T) (ls : mx_L) (st : List Value) (h : mx_H) (c n : Nat) : mx_G r (t_Al_grow_ zz) 36 ls st h c n = (o_iload 1 3) r (mx_G r (t_Al_grow_ zz)) 36 ls st h c n := mx_G_eq (tm_Al_grow_ zz) r 36 ls st h c n
theorem st_Al_grow__37 (zz : Nat × Nat) (r : mx_T) (ls : mx_L) (st : List Value) (h : mx_H) (c n : Nat) : mx_G r (t_Al_grow_ zz) 37 ls st h c n = (o_call 2 128 2 1 64 (fun _ _ => True) (S_Ars_copyOf zz)) r (mx_G r (t_Al_grow_ zz)) 37 ls st h c n := mx_G_eq (tm_Al_grow_ zz) r 37 ls st h c n
theorem st_Al_grow__40 (zz : Nat × Nat) (r : mx_T) (ls : mx_L) (st : List Value) (h : mx_H) (c n : Nat) : mx_G r (t_Al_grow_ zz) 40 ls st h c n = (o_dupx1) r (mx_G r (t_Al_grow_ zz)) 40 ls st h c n := mx_G_eq (tm_Al_grow_ zz) r 40 ls st h c n
theorem st_Al_grow__41 (zz : Nat × Nat) (r : mx_T) (ls : mx_L) (st : List Value) (h : mx_H) (c n : Nat) : mx_G r (t_Al_grow_ zz) 41 ls st h c n = (o_put 9 1 mx_vA) r (mx_G r (t_Al_grow_ zz)) 41 ls st h c n := mx_G_eq (tm_Al_grow_ zz) r 41 ls st h c n
theorem st_Al_grow__44 (zz : Nat × Nat) (r : mx_T) (ls : mx_L) (st : List Value) (h : mx_H) (c n : Nat) : mx_G r (t_Al_grow_ zz) 44 ls st h c n = (o_aret) r (mx_G r (t_Al_grow_ zz)) 44 ls st h c n := mx_G_eq (tm_Al_grow_ zz) r 44 ls st h c n
theorem st_Al_grow__45 (zz : Nat × Nat) (r : mx_T) (ls : mx_L) (st : List Value) (h : mx_H) (c n : Nat) : mx_G r (t_Al_grow_ zz) 45 ls st h c n = (o_aload 1 0) r (mx_G r (t_Al_grow_ zz)) 45 ls st h c n := mx_G_eq (tm_Al_grow_ zz) r 45 ls st h c n
theorem st_Al_grow__46 (zz : Nat × Nat) (r : mx_T) (ls : mx_L) (st : List Value) (h : mx_H) (c n : Nat) : mx_G r (t_Al_grow_ zz) 46 ls st h c n = (o_push 2 (.int 10)) r (mx_G r (t_Al_grow_ zz)) 46 ls st h c n := mx_G_eq (tm_Al_grow_ zz) r 46 ls st h c n
theorem st_Al_grow__48 (zz : Nat × Nat) (r : mx_T) (ls : mx_L) (st : List Value) (h : mx_H) (c n : Nat) : mx_G r (t_Al_grow_ zz) 48 ls st h c n = (o_iload 1 1) r (mx_G r (t_Al_grow_ zz)) 48 ls st h c n := mx_G_eq (tm_Al_grow_ zz) r 48 ls st h c n
theorem st_Al_grow__49 (zz : Nat × Nat) (r : mx_T) (ls : mx_L) (st : List Value) (h : mx_H) (c n : Nat) : mx_G r (t_Al_grow_ zz) 49 ls st h c n = (o_mm 2 128 (fun x y => if x < y then y else x)) r (mx_G r (t_Al_grow_ zz)) 49 ls st h c n := mx_G_eq (tm_Al_grow_ zz) r 49 ls st h c n
theorem st_Al_grow__52 (zz : Nat × Nat) (r : mx_T) (ls : mx_L) (st : List Value) (h : mx_H) (c n : Nat) : mx_G r (t_Al_grow_ zz) 52 ls st h c n = (o_newqZ 2 128 zz.1 "java/lang/Object") r (mx_G r (t_Al_grow_ zz)) 52 ls st h c n := mx_G_eq (tm_Al_grow_ zz) r 52 ls st h c n
theorem st_Al_grow__55 (zz : Nat × Nat) (r : mx_T) (ls : mx_L) (st : List Value) (h : mx_H) (c n : Nat) : mx_G r (t_Al_grow_ zz) 55 ls st h c n = (o_dupx1) r (mx_G r (t_Al_grow_ zz)) 55 ls st h c n := mx_G_eq (tm_Al_grow_ zz) r 55 ls st h c n
theorem st_Al_grow__56 (zz : Nat × Nat) (r : mx_T) (ls : mx_L) (st : List Value) (h : mx_H) (c n : Nat) : mx_G r (t_Al_grow_ zz) 56 ls st h c n = (o_put 9 1 mx_vA) r (mx_G r (t_Al_grow_ zz)) 56 ls st h c n := mx_G_eq (tm_Al_grow_ zz) r 56 ls st h c n
theorem st_Al_grow__59 (zz : Nat × Nat) (r : mx_T) (ls : mx_L) (st : List Value) (h : mx_H) (c n : Nat) : mx_G r (t_Al_grow_ zz) 59 ls st h c n = (o_aret) r (mx_G r (t_Al_grow_ zz)) 59 ls st h c n := mx_G_eq (tm_Al_grow_ zz) r 59 ls st h c n
theorem d_Al_grow_0 : decode c_Al_grow 0 = .ok (.aload_n 0, 1) := by decide +kernel
theorem d_Al_grow_1 : decode c_Al_grow 1 = .ok (.aload_n 0, 1) := by decide +kernel
theorem d_Al_grow_2 : decode c_Al_grow 2 = .ok (.getfield 48, 3) := by decide +kernel
theorem d_Al_grow_5 : decode c_Al_grow 5 = .ok (.iconst 1, 1) := by decide +kernel
theorem d_Al_grow_6 : decode c_Al_grow 6 = .ok (.iadd, 1) := by decide +kernel
theorem d_Al_grow_7 : decode c_Al_grow 7 = .ok (.invokevirtual 69, 3) := by decide +kernel
theorem d_Al_grow_10 : decode c_Al_grow 10 = .ok (.areturn, 1) := by decide +kernel
def t_Al_grow (zz : Nat × Nat) : List (Nat × mx_O) := [(0, o_aload 1 0),
  (1, o_aload 1 0),
  (2, o_get 9 2),
  (5, o_push 1 (.int 1)),
  (6, o_ii (fun x y => x + y)),
  (7, o_call 2 128 2 2 128 (mx_rv 9) (S_Al_grow_ zz)),
  (10, o_aret)]
set_option maxRecDepth 100000 in
theorem tm_Al_grow (zz : Nat × Nat) : mx_All (fun _ o => mx_Mono o) (t_Al_grow zz) := by
  refine mx_all_cons (mo_st) ?_
  refine mx_all_cons (mo_st) ?_
  refine mx_all_cons (mo_st) ?_
  refine mx_all_cons (mo_st) ?_
  refine mx_all_cons (mo_st) ?_
  refine mx_all_cons (mo_call (sm_Al_grow_ zz)) ?_
  refine mx_all_cons (mo_ret) ?_
  exact mx_all_nil
def S_Al_grow (zz : Nat × Nat) : mx_Sp := mx_S 1 2 128 (t_Al_grow zz)
theorem sm_Al_grow (zz : Nat × Nat) : mx_SMono (S_Al_grow zz) := mx_S_mono (tm_Al_grow zz)
abbrev rm_Al_grow : Room := { frames := 4, cells := 2, slots := 128, locals := 127 }
set_option maxHeartbeats 4000000 in
set_option maxRecDepth 100000 in
theorem m_Al_grow (l : Launch) (zz : Nat × Nat) : mx_Met l y_Al_grow (wsOf y_Al_grow c_Al_grow 1 (some (.array (.object "java/lang/Object")))) rm_Al_grow wcl (mx_Z zz) 2 128 (S_Al_grow zz) := by
  refine mx_met (cc := c_Al_grow) (ret := (some (.array (.object "java/lang/Object")))) (by decide) rfl ?_
  intro p e s m args below meth c D A Post X hz hr hlk hnm
  have hm : ∀ w ∈ mw, w.before args s = true := fun w h => X.1.2.2.2.2 w (List.mem_cons_of_mem _ h)
  refine mx_all_cons (ok_aload (fun hl kk => lv_aload_n X.1.1 X.1.2.1 d_Al_grow_0 rfl hl kk) (fun hl kk => lv_aload_nN X.1.1 X.1.2.1 d_Al_grow_0 rfl hl kk)) ?_
  refine mx_all_cons (ok_aload (fun hl kk => lv_aload_n X.1.1 X.1.2.1 d_Al_grow_1 rfl hl kk) (fun hl kk => lv_aload_nN X.1.1 X.1.2.1 d_Al_grow_1 rfl hl kk)) ?_
  refine mx_all_cons (ok_get (C := "java/util/ArrayList") (T := T_Al) (N := 3) X (mw_up in_Al) rfl 2 (by decide) (hm _ w75) (fun _ h9 => h9) d_Al_grow_2) ?_
  refine mx_all_cons (ok_push (fun kk => lv_iconst X.1.1 X.1.2.1 d_Al_grow_5 (by decide) kk)) ?_
  refine mx_all_cons (ok_ii (fun kk => lv_iadd X.1.1 X.1.2.1 d_Al_grow_6 kk)) ?_
  refine mx_all_cons (ok_callV (C := "java/util/ArrayList") (T := T_Al) (N := 3) X (mx_Zok_Z zz) hz ⟨(Nat.le_of_ble_eq_true rfl), (Nat.le_of_ble_eq_true rfl)⟩ (m_Al_grow_ l zz) ⟨mx_cwB 1 hm w272 w269 w36 rfl rfl (by decide +kernel) ⟨(Nat.le_of_ble_eq_true rfl), (Nat.le_of_ble_eq_true rfl)⟩, (hm _ w271), hm _ w3⟩ rfl d_Al_grow_7) ?_
  refine mx_all_cons (ok_aret X hr (by first | exact Or.inl ⟨_, rfl⟩ | exact Or.inr ⟨_, rfl⟩) hlk d_Al_grow_10) ?_
  exact mx_all_nil
theorem st_Al_grow_0 (zz : Nat × Nat) (r : mx_T) (ls : mx_L) (st : List Value) (h : mx_H) (c n : Nat) : mx_G r (t_Al_grow zz) 0 ls st h c n = (o_aload 1 0) r (mx_G r (t_Al_grow zz)) 0 ls st h c n := mx_G_eq (tm_Al_grow zz) r 0 ls st h c n
theorem st_Al_grow_1 (zz : Nat × Nat) (r : mx_T) (ls : mx_L) (st : List Value) (h : mx_H) (c n : Nat) : mx_G r (t_Al_grow zz) 1 ls st h c n = (o_aload 1 0) r (mx_G r (t_Al_grow zz)) 1 ls st h c n := mx_G_eq (tm_Al_grow zz) r 1 ls st h c n
theorem st_Al_grow_2 (zz : Nat × Nat) (r : mx_T) (ls : mx_L) (st : List Value) (h : mx_H) (c n : Nat) : mx_G r (t_Al_grow zz) 2 ls st h c n = (o_get 9 2) r (mx_G r (t_Al_grow zz)) 2 ls st h c n := mx_G_eq (tm_Al_grow zz) r 2 ls st h c n
theorem st_Al_grow_5 (zz : Nat × Nat) (r : mx_T) (ls : mx_L) (st : List Value) (h : mx_H) (c n : Nat) : mx_G r (t_Al_grow zz) 5 ls st h c n = (o_push 1 (.int 1)) r (mx_G r (t_Al_grow zz)) 5 ls st h c n := mx_G_eq (tm_Al_grow zz) r 5 ls st h c n
theorem st_Al_grow_6 (zz : Nat × Nat) (r : mx_T) (ls : mx_L) (st : List Value) (h : mx_H) (c n : Nat) : mx_G r (t_Al_grow zz) 6 ls st h c n = (o_ii (fun x y => x + y)) r (mx_G r (t_Al_grow zz)) 6 ls st h c n := mx_G_eq (tm_Al_grow zz) r 6 ls st h c n
theorem st_Al_grow_7 (zz : Nat × Nat) (r : mx_T) (ls : mx_L) (st : List Value) (h : mx_H) (c n : Nat) : mx_G r (t_Al_grow zz) 7 ls st h c n = (o_call 2 128 2 2 128 (mx_rv 9) (S_Al_grow_ zz)) r (mx_G r (t_Al_grow zz)) 7 ls st h c n := mx_G_eq (tm_Al_grow zz) r 7 ls st h c n
theorem st_Al_grow_10 (zz : Nat × Nat) (r : mx_T) (ls : mx_L) (st : List Value) (h : mx_H) (c n : Nat) : mx_G r (t_Al_grow zz) 10 ls st h c n = (o_aret) r (mx_G r (t_Al_grow zz)) 10 ls st h c n := mx_G_eq (tm_Al_grow zz) r 10 ls st h c n
theorem d_Al_add__0 : decode c_Al_add_ 0 = .ok (.iload_n 3, 1) := by decide +kernel
theorem d_Al_add__1 : decode c_Al_add_ 1 = .ok (.aload_n 2, 1) := by decide +kernel
theorem d_Al_add__2 : decode c_Al_add_ 2 = .ok (.arraylength, 1) := by decide +kernel
theorem d_Al_add__3 : decode c_Al_add_ 3 = .ok (.if_icmp .ne 8, 3) := by decide +kernel
theorem d_Al_add__6 : decode c_Al_add_ 6 = .ok (.aload_n 0, 1) := by decide +kernel
theorem d_Al_add__7 : decode c_Al_add_ 7 = .ok (.invokevirtual 129, 3) := by decide +kernel
theorem d_Al_add__10 : decode c_Al_add_ 10 = .ok (.astore_n 2, 1) := by decide +kernel
theorem d_Al_add__11 : decode c_Al_add_ 11 = .ok (.aload_n 2, 1) := by decide +kernel
theorem d_Al_add__12 : decode c_Al_add_ 12 = .ok (.iload_n 3, 1) := by decide +kernel
theorem d_Al_add__13 : decode c_Al_add_ 13 = .ok (.aload_n 1, 1) := by decide +kernel
theorem d_Al_add__14 : decode c_Al_add_ 14 = .ok (.aastore, 1) := by decide +kernel
theorem d_Al_add__15 : decode c_Al_add_ 15 = .ok (.aload_n 0, 1) := by decide +kernel
theorem d_Al_add__16 : decode c_Al_add_ 16 = .ok (.iload_n 3, 1) := by decide +kernel
theorem d_Al_add__17 : decode c_Al_add_ 17 = .ok (.iconst 1, 1) := by decide +kernel
theorem d_Al_add__18 : decode c_Al_add_ 18 = .ok (.iadd, 1) := by decide +kernel
theorem d_Al_add__19 : decode c_Al_add_ 19 = .ok (.putfield 48, 3) := by decide +kernel
theorem d_Al_add__22 : decode c_Al_add_ 22 = .ok (.return_, 1) := by decide +kernel
def t_Al_add_ (zz : Nat × Nat) : List (Nat × mx_O) := [(0, o_iload 1 3),
  (1, o_aload 1 2),
  (2, o_alenZ zz.1),
  (3, o_icmp 11 (fun x y => ¬ x = y)),
  (6, o_aload 1 0),
  (7, o_call 2 128 1 2 128 (mx_rv 9) (S_Al_grow zz)),
  (10, o_astore 1 2),
  (11, o_aload 1 2),
  (12, o_iload 1 3),
  (13, o_aload 1 1),
  (14, o_aast "java/lang/Object" [1, 2, 3, 4, 5]),
  (15, o_aload 1 0),
  (16, o_iload 1 3),
  (17, o_push 1 (.int 1)),
  (18, o_ii (fun x y => x + y)),
  (19, o_put 9 2 mx_vI),
  (22, o_vret)]
set_option maxRecDepth 100000 in
theorem tm_Al_add_ (zz : Nat × Nat) : mx_All (fun _ o => mx_Mono o) (t_Al_add_ zz) := by
  refine mx_all_cons (mo_st) ?_
  refine mx_all_cons (mo_st) ?_
  refine mx_all_cons (mo_st) ?_
  refine mx_all_cons (mo_br) ?_
  refine mx_all_cons (mo_st) ?_
  refine mx_all_cons (mo_call (sm_Al_grow zz)) ?_
  refine mx_all_cons (mo_st) ?_
  refine mx_all_cons (mo_st) ?_
  refine mx_all_cons (mo_st) ?_
  refine mx_all_cons (mo_st) ?_
  refine mx_all_cons (mo_sc) ?_
  refine mx_all_cons (mo_st) ?_
  refine mx_all_cons (mo_st) ?_
  refine mx_all_cons (mo_st) ?_
  refine mx_all_cons (mo_st) ?_
  refine mx_all_cons (mo_sc) ?_
  refine mx_all_cons (mo_ret) ?_
  exact mx_all_nil
def S_Al_add_ (zz : Nat × Nat) : mx_Sp := mx_S 4 2 128 (t_Al_add_ zz)
theorem sm_Al_add_ (zz : Nat × Nat) : mx_SMono (S_Al_add_ zz) := mx_S_mono (tm_Al_add_ zz)
abbrev rm_Al_add_ : Room := { frames := 5, cells := 2, slots := 128, locals := 147 }
set_option maxHeartbeats 4000000 in
set_option maxRecDepth 100000 in
theorem m_Al_add_ (l : Launch) (zz : Nat × Nat) : mx_Met l y_Al_add_ (wsOf y_Al_add_ c_Al_add_ 4 none) rm_Al_add_ wcl (mx_Z zz) 2 128 (S_Al_add_ zz) := by
  refine mx_met (cc := c_Al_add_) (ret := none) (by decide) rfl ?_
  intro p e s m args below meth c D A Post X hz hr hlk hnm
  have hm : ∀ w ∈ mw, w.before args s = true := fun w h => X.1.2.2.2.2 w (List.mem_cons_of_mem _ h)
  refine mx_all_cons (ok_iload (fun hl kk => lv_iload_n X.1.1 X.1.2.1 d_Al_add__0 rfl hl kk)) ?_
  refine mx_all_cons (ok_aload (fun hl kk => lv_aload_n X.1.1 X.1.2.1 d_Al_add__1 rfl hl kk) (fun hl kk => lv_aload_nN X.1.1 X.1.2.1 d_Al_add__1 rfl hl kk)) ?_
  refine mx_all_cons (ok_alenZ X hz.2.1 d_Al_add__2) ?_
  refine mx_all_cons (ok_icmp (fun kt kf => lv_icmp_ne X.1.1 X.1.2.1 d_Al_add__3 (by decide) kt (fun z => kf (fun g => g z)))) ?_
  refine mx_all_cons (ok_aload (fun hl kk => lv_aload_n X.1.1 X.1.2.1 d_Al_add__6 rfl hl kk) (fun hl kk => lv_aload_nN X.1.1 X.1.2.1 d_Al_add__6 rfl hl kk)) ?_
  refine mx_all_cons (ok_callV (C := "java/util/ArrayList") (T := T_Al) (N := 3) X (mx_Zok_Z zz) hz ⟨(Nat.le_of_ble_eq_true rfl), (Nat.le_of_ble_eq_true rfl)⟩ (m_Al_grow l zz) ⟨mx_cwB 0 hm w268 w265 w36 rfl rfl (by decide +kernel) ⟨(Nat.le_of_ble_eq_true rfl), (Nat.le_of_ble_eq_true rfl)⟩, (hm _ w267), hm _ w2⟩ rfl d_Al_add__7) ?_
  refine mx_all_cons (ok_astore (fun hl kk => lv_astore_n X.1.1 X.1.2.1 d_Al_add__10 rfl hl (by decide) rfl kk) (fun hl kk => lv_astore_nN X.1.1 X.1.2.1 d_Al_add__10 rfl hl (by decide) rfl kk)) ?_
  refine mx_all_cons (ok_aload (fun hl kk => lv_aload_n X.1.1 X.1.2.1 d_Al_add__11 rfl hl kk) (fun hl kk => lv_aload_nN X.1.1 X.1.2.1 d_Al_add__11 rfl hl kk)) ?_
  refine mx_all_cons (ok_iload (fun hl kk => lv_iload_n X.1.1 X.1.2.1 d_Al_add__12 rfl hl kk)) ?_
  refine mx_all_cons (ok_aload (fun hl kk => lv_aload_n X.1.1 X.1.2.1 d_Al_add__13 rfl hl kk) (fun hl kk => lv_aload_nN X.1.1 X.1.2.1 d_Al_add__13 rfl hl kk)) ?_
  refine mx_all_cons (ok_aast X (asg_Oj hz.2.2.2.2.2.2) d_Al_add__14) ?_
  refine mx_all_cons (ok_aload (fun hl kk => lv_aload_n X.1.1 X.1.2.1 d_Al_add__15 rfl hl kk) (fun hl kk => lv_aload_nN X.1.1 X.1.2.1 d_Al_add__15 rfl hl kk)) ?_
  refine mx_all_cons (ok_iload (fun hl kk => lv_iload_n X.1.1 X.1.2.1 d_Al_add__16 rfl hl kk)) ?_
  refine mx_all_cons (ok_push (fun kk => lv_iconst X.1.1 X.1.2.1 d_Al_add__17 (by decide) kk)) ?_
  refine mx_all_cons (ok_ii (fun kk => lv_iadd X.1.1 X.1.2.1 d_Al_add__18 kk)) ?_
  refine mx_all_cons (ok_put (C := "java/util/ArrayList") (T := T_Al) (N := 3) X (mw_up in_Al) ty_Al tyok_Al nm_Al rfl 2 (by decide) (hm _ w75) (fun _ h9 => h9) rfl (tyok_Al 2 (by decide)) mx_vI_ok d_Al_add__19) ?_
  refine mx_all_cons (ok_vret X hr hlk d_Al_add__22) ?_
  exact mx_all_nil
theorem st_Al_add__0 (zz : Nat × Nat) (r : mx_T) (ls : mx_L) (st : List Value) (h : mx_H) (c n : Nat) : mx_G r (t_Al_add_ zz) 0 ls st h c n = (o_iload 1 3) r (mx_G r (t_Al_add_ zz)) 0 ls st h c n := mx_G_eq (tm_Al_add_ zz) r 0 ls st h c n
theorem st_Al_add__1 (zz : Nat × Nat) (r : mx_T) (ls : mx_L) (st : List Value) (h : mx_H) (c n : Nat) : mx_G r (t_Al_add_ zz) 1 ls st h c n = (o_aload 1 2) r (mx_G r (t_Al_add_ zz)) 1 ls st h c n := mx_G_eq (tm_Al_add_ zz) r 1 ls st h c n
theorem st_Al_add__2 (zz : Nat × Nat) (r : mx_T) (ls : mx_L) (st : List Value) (h : mx_H) (c n : Nat) : mx_G r (t_Al_add_ zz) 2 ls st h c n = (o_alenZ zz.1) r (mx_G r (t_Al_add_ zz)) 2 ls st h c n := mx_G_eq (tm_Al_add_ zz) r 2 ls st h c n
theorem st_Al_add__3 (zz : Nat × Nat) (r : mx_T) (ls : mx_L) (st : List Value) (h : mx_H) (c n : Nat) : mx_G r (t_Al_add_ zz) 3 ls st h c n = (o_icmp 11 (fun x y => ¬ x = y)) r (mx_G r (t_Al_add_ zz)) 3 ls st h c n := mx_G_eq (tm_Al_add_ zz) r 3 ls st h c n
theorem st_Al_add__6 (zz : Nat × Nat) (r : mx_T) (ls : mx_L) (st : List Value) (h : mx_H) (c n : Nat) : mx_G r (t_Al_add_ zz) 6 ls st h c n = (o_aload 1 0) r (mx_G r (t_Al_add_ zz)) 6 ls st h c n := mx_G_eq (tm_Al_add_ zz) r 6 ls st h c n
theorem st_Al_add__7 (zz : Nat × Nat) (r : mx_T) (ls : mx_L) (st : List Value) (h : mx_H) (c n : Nat) : mx_G r (t_Al_add_ zz) 7 ls st h c n = (o_call 2 128 1 2 128 (mx_rv 9) (S_Al_grow zz)) r (mx_G r (t_Al_add_ zz)) 7 ls st h c n := mx_G_eq (tm_Al_add_ zz) r 7 ls st h c n
theorem st_Al_add__10 (zz : Nat × Nat) (r : mx_T) (ls : mx_L) (st : List Value) (h : mx_H) (c n : Nat) : mx_G r (t_Al_add_ zz) 10 ls st h c n = (o_astore 1 2) r (mx_G r (t_Al_add_ zz)) 10 ls st h c n := mx_G_eq (tm_Al_add_ zz) r 10 ls st h c n
theorem st_Al_add__11 (zz : Nat × Nat) (r : mx_T) (ls : mx_L) (st : List Value) (h : mx_H) (c n : Nat) : mx_G r (t_Al_add_ zz) 11 ls st h c n = (o_aload 1 2) r (mx_G r (t_Al_add_ zz)) 11 ls st h c n := mx_G_eq (tm_Al_add_ zz) r 11 ls st h c n
theorem st_Al_add__12 (zz : Nat × Nat) (r : mx_T) (ls : mx_L) (st : List Value) (h : mx_H) (c n : Nat) : mx_G r (t_Al_add_ zz) 12 ls st h c n = (o_iload 1 3) r (mx_G r (t_Al_add_ zz)) 12 ls st h c n := mx_G_eq (tm_Al_add_ zz) r 12 ls st h c n
theorem st_Al_add__13 (zz : Nat × Nat) (r : mx_T) (ls : mx_L) (st : List Value) (h : mx_H) (c n : Nat) : mx_G r (t_Al_add_ zz) 13 ls st h c n = (o_aload 1 1) r (mx_G r (t_Al_add_ zz)) 13 ls st h c n := mx_G_eq (tm_Al_add_ zz) r 13 ls st h c n
theorem st_Al_add__14 (zz : Nat × Nat) (r : mx_T) (ls : mx_L) (st : List Value) (h : mx_H) (c n : Nat) : mx_G r (t_Al_add_ zz) 14 ls st h c n = (o_aast "java/lang/Object" [1, 2, 3, 4, 5]) r (mx_G r (t_Al_add_ zz)) 14 ls st h c n := mx_G_eq (tm_Al_add_ zz) r 14 ls st h c n
theorem st_Al_add__15 (zz : Nat × Nat) (r : mx_T) (ls : mx_L) (st : List Value) (h : mx_H) (c n : Nat) : mx_G r (t_Al_add_ zz) 15 ls st h c n = (o_aload 1 0) r (mx_G r (t_Al_add_ zz)) 15 ls st h c n := mx_G_eq (tm_Al_add_ zz) r 15 ls st h c n
theorem st_Al_add__16 (zz : Nat × Nat) (r : mx_T) (ls : mx_L) (st : List Value) (h : mx_H) (c n : Nat) : mx_G r (t_Al_add_ zz) 16 ls st h c n = (o_iload 1 3) r (mx_G r (t_Al_add_ zz)) 16 ls st h c n := mx_G_eq (tm_Al_add_ zz) r 16 ls st h c n
theorem st_Al_add__17 (zz : Nat × Nat) (r : mx_T) (ls : mx_L) (st : List Value) (h : mx_H) (c n : Nat) : mx_G r (t_Al_add_ zz) 17 ls st h c n = (o_push 1 (.int 1)) r (mx_G r (t_Al_add_ zz)) 17 ls st h c n := mx_G_eq (tm_Al_add_ zz) r 17 ls st h c n
theorem st_Al_add__18 (zz : Nat × Nat) (r : mx_T) (ls : mx_L) (st : List Value) (h : mx_H) (c n : Nat) : mx_G r (t_Al_add_ zz) 18 ls st h c n = (o_ii (fun x y => x + y)) r (mx_G r (t_Al_add_ zz)) 18 ls st h c n := mx_G_eq (tm_Al_add_ zz) r 18 ls st h c n
theorem st_Al_add__19 (zz : Nat × Nat) (r : mx_T) (ls : mx_L) (st : List Value) (h : mx_H) (c n : Nat) : mx_G r (t_Al_add_ zz) 19 ls st h c n = (o_put 9 2 mx_vI) r (mx_G r (t_Al_add_ zz)) 19 ls st h c n := mx_G_eq (tm_Al_add_ zz) r 19 ls st h c n
theorem st_Al_add__22 (zz : Nat × Nat) (r : mx_T) (ls : mx_L) (st : List Value) (h : mx_H) (c n : Nat) : mx_G r (t_Al_add_ zz) 22 ls st h c n = (o_vret) r (mx_G r (t_Al_add_ zz)) 22 ls st h c n := mx_G_eq (tm_Al_add_ zz) r 22 ls st h c n
theorem d_Al_add_0 : decode c_Al_add 0 = .ok (.aload_n 0, 1) := by decide +kernel
theorem d_Al_add_1 : decode c_Al_add 1 = .ok (.dup, 1) := by decide +kernel
theorem d_Al_add_2 : decode c_Al_add 2 = .ok (.getfield 63, 3) := by decide +kernel
theorem d_Al_add_5 : decode c_Al_add 5 = .ok (.iconst 1, 1) := by decide +kernel
theorem d_Al_add_6 : decode c_Al_add 6 = .ok (.iadd, 1) := by decide +kernel
theorem d_Al_add_7 : decode c_Al_add 7 = .ok (.putfield 63, 3) := by decide +kernel
theorem d_Al_add_10 : decode c_Al_add 10 = .ok (.aload_n 0, 1) := by decide +kernel
theorem d_Al_add_11 : decode c_Al_add 11 = .ok (.aload_n 1, 1) := by decide +kernel
theorem d_Al_add_12 : decode c_Al_add 12 = .ok (.aload_n 0, 1) := by decide +kernel
theorem d_Al_add_13 : decode c_Al_add 13 = .ok (.getfield 9, 3) := by decide +kernel
theorem d_Al_add_16 : decode c_Al_add 16 = .ok (.aload_n 0, 1) := by decide +kernel
theorem d_Al_add_17 : decode c_Al_add 17 = .ok (.getfield 48, 3) := by decide +kernel
theorem d_Al_add_20 : decode c_Al_add 20 = .ok (.invokevirtual 131, 3) := by decide +kernel
theorem d_Al_add_23 : decode c_Al_add 23 = .ok (.iconst 1, 1) := by decide +kernel
theorem d_Al_add_24 : decode c_Al_add 24 = .ok (.ireturn, 1) := by decide +kernel
def t_Al_add (zz : Nat × Nat) : List (Nat × mx_O) := [(0, o_aload 1 0),
  (1, o_dup),
  (2, o_get 9 0),
  (5, o_push 1 (.int 1)),
  (6, o_ii (fun x y => x + y)),
  (7, o_put 9 0 mx_vI),
  (10, o_aload 1 0),
  (11, o_aload 1 1),
  (12, o_aload 1 0),
  (13, o_get 9 1),
  (16, o_aload 1 0),
  (17, o_get 9 2),
  (20, o_call 2 128 4 2 128 (mx_rv 9) (S_Al_add_ zz)),
  (23, o_push 1 (.int 1)),
  (24, o_zret)]
set_option maxRecDepth 100000 in
theorem tm_Al_add (zz : Nat × Nat) : mx_All (fun _ o => mx_Mono o) (t_Al_add zz) := by
  refine mx_all_cons (mo_st) ?_
  refine mx_all_cons (mo_st) ?_
  refine mx_all_cons (mo_st) ?_
  refine mx_all_cons (mo_st) ?_
  refine mx_all_cons (mo_st) ?_
  refine mx_all_cons (mo_sc) ?_
  refine mx_all_cons (mo_st) ?_
  refine mx_all_cons (mo_st) ?_
  refine mx_all_cons (mo_st) ?_
  refine mx_all_cons (mo_st) ?_
  refine mx_all_cons (mo_st) ?_
  refine mx_all_cons (mo_st) ?_
  refine mx_all_cons (mo_call (sm_Al_add_ zz)) ?_
  refine mx_all_cons (mo_st) ?_
  refine mx_all_cons (mo_zret) ?_
  exact mx_all_nil
def S_Al_add (zz : Nat × Nat) : mx_Sp := mx_S 2 2 128 (t_Al_add zz)
theorem sm_Al_add (zz : Nat × Nat) : mx_SMono (S_Al_add zz) := mx_S_mono (tm_Al_add zz)
abbrev rm_Al_add : Room := { frames := 6, cells := 2, slots := 128, locals := 170 }
set_option maxHeartbeats 4000000 in
set_option maxRecDepth 100000 in
theorem m_Al_add (l : Launch) (zz : Nat × Nat) : mx_Met l y_Al_add (wsOf y_Al_add c_Al_add 2 (some .boolean)) rm_Al_add wcl (mx_Z zz) 2 128 (S_Al_add zz) := by
  refine mx_met (cc := c_Al_add) (ret := (some .boolean)) (by decide) rfl ?_
  intro p e s m args below meth c D A Post X hz hr hlk hnm
  have hm : ∀ w ∈ mw, w.before args s = true := fun w h => X.1.2.2.2.2 w (List.mem_cons_of_mem _ h)
  refine mx_all_cons (ok_aload (fun hl kk => lv_aload_n X.1.1 X.1.2.1 d_Al_add_0 rfl hl kk) (fun hl kk => lv_aload_nN X.1.1 X.1.2.1 d_Al_add_0 rfl hl kk)) ?_
  refine mx_all_cons (ok_dup X d_Al_add_1) ?_
  refine mx_all_cons (ok_get (C := "java/util/ArrayList") (T := T_Al) (N := 3) X (mw_up in_Al) rfl 0 (by decide) (hm _ w77) (fun x9 h9 => u_same (hm _ w78) x9 h9) d_Al_add_2) ?_
  refine mx_all_cons (ok_push (fun kk => lv_iconst X.1.1 X.1.2.1 d_Al_add_5 (by decide) kk)) ?_
  refine mx_all_cons (ok_ii (fun kk => lv_iadd X.1.1 X.1.2.1 d_Al_add_6 kk)) ?_
  refine mx_all_cons (ok_put (C := "java/util/ArrayList") (T := T_Al) (N := 3) X (mw_up in_Al) ty_Al tyok_Al nm_Al rfl 0 (by decide) (hm _ w77) (fun x9 h9 => u_same (hm _ w78) x9 h9) rfl (tyok_Al 0 (by decide)) mx_vI_ok d_Al_add_7) ?_
  refine mx_all_cons (ok_aload (fun hl kk => lv_aload_n X.1.1 X.1.2.1 d_Al_add_10 rfl hl kk) (fun hl kk => lv_aload_nN X.1.1 X.1.2.1 d_Al_add_10 rfl hl kk)) ?_
  refine mx_all_cons (ok_aload (fun hl kk => lv_aload_n X.1.1 X.1.2.1 d_Al_add_11 rfl hl kk) (fun hl kk => lv_aload_nN X.1.1 X.1.2.1 d_Al_add_11 rfl hl kk)) ?_
  refine mx_all_cons (ok_aload (fun hl kk => lv_aload_n X.1.1 X.1.2.1 d_Al_add_12 rfl hl kk) (fun hl kk => lv_aload_nN X.1.1 X.1.2.1 d_Al_add_12 rfl hl kk)) ?_
  refine mx_all_cons (ok_get (C := "java/util/ArrayList") (T := T_Al) (N := 3) X (mw_up in_Al) rfl 1 (by decide) (hm _ w74) (fun _ h9 => h9) d_Al_add_13) ?_
  refine mx_all_cons (ok_aload (fun hl kk => lv_aload_n X.1.1 X.1.2.1 d_Al_add_16 rfl hl kk) (fun hl kk => lv_aload_nN X.1.1 X.1.2.1 d_Al_add_16 rfl hl kk)) ?_
  refine mx_all_cons (ok_get (C := "java/util/ArrayList") (T := T_Al) (N := 3) X (mw_up in_Al) rfl 2 (by decide) (hm _ w75) (fun _ h9 => h9) d_Al_add_17) ?_
  refine mx_all_cons (ok_callV (C := "java/util/ArrayList") (T := T_Al) (N := 3) X (mx_Zok_Z zz) hz ⟨(Nat.le_of_ble_eq_true rfl), (Nat.le_of_ble_eq_true rfl)⟩ (m_Al_add_ l zz) ⟨mx_cwB 3 hm w264 w261 w36 rfl rfl (by decide +kernel) ⟨(Nat.le_of_ble_eq_true rfl), (Nat.le_of_ble_eq_true rfl)⟩, (hm _ w263), hm _ w1⟩ rfl d_Al_add_20) ?_
  refine mx_all_cons (ok_push (fun kk => lv_iconst X.1.1 X.1.2.1 d_Al_add_23 (by decide) kk)) ?_
  refine mx_all_cons (ok_zret X hr hlk d_Al_add_24) ?_
  exact mx_all_nil
theorem st_Al_add_0 (zz : Nat × Nat) (r : mx_T) (ls : mx_L) (st : List Value) (h : mx_H) (c n : Nat) : mx_G r (t_Al_add zz) 0 ls st h c n = (o_aload 1 0) r (mx_G r (t_Al_add zz)) 0 ls st h c n := mx_G_eq (tm_Al_add zz) r 0 ls st h c n
theorem st_Al_add_1 (zz : Nat × Nat) (r : mx_T) (ls : mx_L) (st : List Value) (h : mx_H) (c n : Nat) : mx_G r (t_Al_add zz) 1 ls st h c n = (o_dup) r (mx_G r (t_Al_add zz)) 1 ls st h c n := mx_G_eq (tm_Al_add zz) r 1 ls st h c n
theorem st_Al_add_2 (zz : Nat × Nat) (r : mx_T) (ls : mx_L) (st : List Value) (h : mx_H) (c n : Nat) : mx_G r (t_Al_add zz) 2 ls st h c n = (o_get 9 0) r (mx_G r (t_Al_add zz)) 2 ls st h c n := mx_G_eq (tm_Al_add zz) r 2 ls st h c n
theorem st_Al_add_5 (zz : Nat × Nat) (r : mx_T) (ls : mx_L) (st : List Value) (h : mx_H) (c n : Nat) : mx_G r (t_Al_add zz) 5 ls st h c n = (o_push 1 (.int 1)) r (mx_G r (t_Al_add zz)) 5 ls st h c n := mx_G_eq (tm_Al_add zz) r 5 ls st h c n
theorem st_Al_add_6 (zz : Nat × Nat) (r : mx_T) (ls : mx_L) (st : List Value) (h : mx_H) (c n : Nat) : mx_G r (t_Al_add zz) 6 ls st h c n = (o_ii (fun x y => x + y)) r (mx_G r (t_Al_add zz)) 6 ls st h c n := mx_G_eq (tm_Al_add zz) r 6 ls st h c n
theorem st_Al_add_7 (zz : Nat × Nat) (r : mx_T) (ls : mx_L) (st : List Value) (h : mx_H) (c n : Nat) : mx_G r (t_Al_add zz) 7 ls st h c n = (o_put 9 0 mx_vI) r (mx_G r (t_Al_add zz)) 7 ls st h c n := mx_G_eq (tm_Al_add zz) r 7 ls st h c n
theorem st_Al_add_10 (zz : Nat × Nat) (r : mx_T) (ls : mx_L) (st : List Value) (h : mx_H) (c n : Nat) : mx_G r (t_Al_add zz) 10 ls st h c n = (o_aload 1 0) r (mx_G r (t_Al_add zz)) 10 ls st h c n := mx_G_eq (tm_Al_add zz) r 10 ls st h c n
theorem st_Al_add_11 (zz : Nat × Nat) (r : mx_T) (ls : mx_L) (st : List Value) (h : mx_H) (c n : Nat) : mx_G r (t_Al_add zz) 11 ls st h c n = (o_aload 1 1) r (mx_G r (t_Al_add zz)) 11 ls st h c n := mx_G_eq (tm_Al_add zz) r 11 ls st h c n
theorem st_Al_add_12 (zz : Nat × Nat) (r : mx_T) (ls : mx_L) (st : List Value) (h : mx_H) (c n : Nat) : mx_G r (t_Al_add zz) 12 ls st h c n = (o_aload 1 0) r (mx_G r (t_Al_add zz)) 12 ls st h c n := mx_G_eq (tm_Al_add zz) r 12 ls st h c n
theorem st_Al_add_13 (zz : Nat × Nat) (r : mx_T) (ls : mx_L) (st : List Value) (h : mx_H) (c n : Nat) : mx_G r (t_Al_add zz) 13 ls st h c n = (o_get 9 1) r (mx_G r (t_Al_add zz)) 13 ls st h c n := mx_G_eq (tm_Al_add zz) r 13 ls st h c n
theorem st_Al_add_16 (zz : Nat × Nat) (r : mx_T) (ls : mx_L) (st : List Value) (h : mx_H) (c n : Nat) : mx_G r (t_Al_add zz) 16 ls st h c n = (o_aload 1 0) r (mx_G r (t_Al_add zz)) 16 ls st h c n := mx_G_eq (tm_Al_add zz) r 16 ls st h c n
theorem st_Al_add_17 (zz : Nat × Nat) (r : mx_T) (ls : mx_L) (st : List Value) (h : mx_H) (c n : Nat) : mx_G r (t_Al_add zz) 17 ls st h c n = (o_get 9 2) r (mx_G r (t_Al_add zz)) 17 ls st h c n := mx_G_eq (tm_Al_add zz) r 17 ls st h c n
theorem st_Al_add_20 (zz : Nat × Nat) (r : mx_T) (ls : mx_L) (st : List Value) (h : mx_H) (c n : Nat) : mx_G r (t_Al_add zz) 20 ls st h c n = (o_call 2 128 4 2 128 (mx_rv 9) (S_Al_add_ zz)) r (mx_G r (t_Al_add zz)) 20 ls st h c n := mx_G_eq (tm_Al_add zz) r 20 ls st h c n
theorem st_Al_add_23 (zz : Nat × Nat) (r : mx_T) (ls : mx_L) (st : List Value) (h : mx_H) (c n : Nat) : mx_G r (t_Al_add zz) 23 ls st h c n = (o_push 1 (.int 1)) r (mx_G r (t_Al_add zz)) 23 ls st h c n := mx_G_eq (tm_Al_add zz) r 23 ls st h c n
theorem st_Al_add_24 (zz : Nat × Nat) (r : mx_T) (ls : mx_L) (st : List Value) (h : mx_H) (c n : Nat) : mx_G r (t_Al_add zz) 24 ls st h c n = (o_zret) r (mx_G r (t_Al_add zz)) 24 ls st h c n := mx_G_eq (tm_Al_add zz) r 24 ls st h c n
