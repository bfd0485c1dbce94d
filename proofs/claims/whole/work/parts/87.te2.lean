set_option maxRecDepth 100000 in
theorem te_Tb_hasFrame (zz : Nat × Nat) : mx_All (fun _ o => mx_Ext o) (t_Tb_hasFrame zz) := by
  refine mx_all_cons (ex_push) ?_
  refine mx_all_cons (ex_istore) ?_
  refine mx_all_cons (ex_iload) ?_
  refine mx_all_cons (ex_aload) ?_
  refine mx_all_cons (ex_get) ?_
  refine mx_all_cons (ex_call (sm_Al_size zz)) ?_
  refine mx_all_cons (ex_br) ?_
  refine mx_all_cons (ex_aload) ?_
  refine mx_all_cons (ex_get) ?_
  refine mx_all_cons (ex_iload) ?_
  refine mx_all_cons (ex_call (sm_Al_get zz)) ?_
  refine mx_all_cons (ex_cast) ?_
  refine mx_all_cons (ex_astore) ?_
  refine mx_all_cons (ex_aload) ?_
  refine mx_all_cons (ex_get) ?_
  refine mx_all_cons (ex_br) ?_
  refine mx_all_cons (ex_aload) ?_
  refine mx_all_cons (ex_get) ?_
  refine mx_all_cons (ex_iload) ?_
  refine mx_all_cons (ex_br) ?_
  refine mx_all_cons (ex_push) ?_
  refine mx_all_cons (ex_zret) ?_
  refine mx_all_cons (ex_iinc) ?_
  refine mx_all_cons (ex_goto) ?_
  refine mx_all_cons (ex_push) ?_
  refine mx_all_cons (ex_zret) ?_
  exact mx_all_nil
theorem gx_Tb_hasFrame {zz : Nat × Nat} {r : mx_T} {pc : Nat} {ls ls2 : mx_L} {st : List Value} {h : mx_H} {c n : Nat} (g : mx_G r (t_Tb_hasFrame zz) pc ls st h c n) (hn : mx_ndb (ls.map (·.1)) = true) (hi : mx_ins ls ls2) : mx_G r (t_Tb_hasFrame zz) pc ls2 st h c n := mx_G_ext (tm_Tb_hasFrame zz) (te_Tb_hasFrame zz) hn (mx_le_ins hi) g
set_option maxRecDepth 100000 in
theorem te_Tb_canResolve (zz : Nat × Nat) : mx_All (fun _ o => mx_Ext o) (t_Tb_canResolve zz) := by
  refine mx_all_cons (ex_aload) ?_
  refine mx_all_cons (ex_get) ?_
  refine mx_all_cons (ex_astore) ?_
  refine mx_all_cons (ex_aload) ?_
  refine mx_all_cons (ex_alen) ?_
  refine mx_all_cons (ex_istore) ?_
  refine mx_all_cons (ex_push) ?_
  refine mx_all_cons (ex_istore) ?_
  refine mx_all_cons (ex_iload) ?_
  refine mx_all_cons (ex_iload) ?_
  refine mx_all_cons (ex_br) ?_
  refine mx_all_cons (ex_aload) ?_
  refine mx_all_cons (ex_iload) ?_
  refine mx_all_cons (ex_aald) ?_
  refine mx_all_cons (ex_astore) ?_
  refine mx_all_cons (ex_aload) ?_
  refine mx_all_cons (ex_aload) ?_
  refine mx_all_cons (ex_get) ?_
  refine mx_all_cons (ex_call (sm_Tb_hasFrame zz)) ?_
  refine mx_all_cons (ex_br) ?_
  refine mx_all_cons (ex_push) ?_
  refine mx_all_cons (ex_zret) ?_
  refine mx_all_cons (ex_iinc) ?_
  refine mx_all_cons (ex_goto) ?_
  refine mx_all_cons (ex_aload) ?_
  refine mx_all_cons (ex_call (sm_Tb_hasFramesAlone zz)) ?_
  refine mx_all_cons (ex_zret) ?_
  exact mx_all_nil
theorem gx_Tb_canResolve {zz : Nat × Nat} {r : mx_T} {pc : Nat} {ls ls2 : mx_L} {st : List Value} {h : mx_H} {c n : Nat} (g : mx_G r (t_Tb_canResolve zz) pc ls st h c n) (hn : mx_ndb (ls.map (·.1)) = true) (hi : mx_ins ls ls2) : mx_G r (t_Tb_canResolve zz) pc ls2 st h c n := mx_G_ext (tm_Tb_canResolve zz) (te_Tb_canResolve zz) hn (mx_le_ins hi) g
set_option maxRecDepth 100000 in
theorem te_Hs_canResolveAll (zz : Nat × Nat) : mx_All (fun _ o => mx_Ext o) (t_Hs_canResolveAll zz) := by
  refine mx_all_cons (ex_push) ?_
  refine mx_all_cons (ex_istore) ?_
  refine mx_all_cons (ex_iload) ?_
  refine mx_all_cons (ex_aload) ?_
  refine mx_all_cons (ex_get) ?_
  refine mx_all_cons (ex_call (sm_Al_size zz)) ?_
  refine mx_all_cons (ex_br) ?_
  refine mx_all_cons (ex_aload) ?_
  refine mx_all_cons (ex_get) ?_
  refine mx_all_cons (ex_iload) ?_
  refine mx_all_cons (ex_call (sm_Al_get zz)) ?_
  refine mx_all_cons (ex_cast) ?_
  refine mx_all_cons (ex_astore) ?_
  refine mx_all_cons (ex_aload) ?_
  refine mx_all_cons (ex_get) ?_
  refine mx_all_cons (ex_get) ?_
  refine mx_all_cons (ex_aload) ?_
  refine mx_all_cons (ex_get) ?_
  refine mx_all_cons (ex_aald) ?_
  refine mx_all_cons (ex_aload) ?_
  refine mx_all_cons (ex_call (sm_Tb_canResolve zz)) ?_
  refine mx_all_cons (ex_br) ?_
  refine mx_all_cons (ex_push) ?_
  refine mx_all_cons (ex_zret) ?_
  refine mx_all_cons (ex_iinc) ?_
  refine mx_all_cons (ex_goto) ?_
  refine mx_all_cons (ex_push) ?_
  refine mx_all_cons (ex_zret) ?_
  exact mx_all_nil
theorem gx_Hs_canResolveAll {zz : Nat × Nat} {r : mx_T} {pc : Nat} {ls ls2 : mx_L} {st : List Value} {h : mx_H} {c n : Nat} (g : mx_G r (t_Hs_canResolveAll zz) pc ls st h c n) (hn : mx_ndb (ls.map (·.1)) = true) (hi : mx_ins ls ls2) : mx_G r (t_Hs_canResolveAll zz) pc ls2 st h c n := mx_G_ext (tm_Hs_canResolveAll zz) (te_Hs_canResolveAll zz) hn (mx_le_ins hi) g
set_option maxRecDepth 100000 in
theorem te_Hs_takeIn (zz : Nat × Nat) : mx_All (fun _ o => mx_Ext o) (t_Hs_takeIn zz) := by
  refine mx_all_cons (ex_aload) ?_
  refine mx_all_cons (ex_get) ?_
  refine mx_all_cons (ex_aload) ?_
  refine mx_all_cons (ex_get) ?_
  refine mx_all_cons (ex_call (sm_Wi_dataOf zz)) ?_
  refine mx_all_cons (ex_lstore) ?_
  refine mx_all_cons (ex_push) ?_
  refine mx_all_cons (ex_istore) ?_
  refine mx_all_cons (ex_iload) ?_
  refine mx_all_cons (ex_aload) ?_
  refine mx_all_cons (ex_get) ?_
  refine mx_all_cons (ex_call (sm_Al_size zz)) ?_
  refine mx_all_cons (ex_br) ?_
  refine mx_all_cons (ex_aload) ?_
  refine mx_all_cons (ex_get) ?_
  refine mx_all_cons (ex_iload) ?_
  refine mx_all_cons (ex_call (sm_Al_get zz)) ?_
  refine mx_all_cons (ex_cast) ?_
  refine mx_all_cons (ex_astore) ?_
  refine mx_all_cons (ex_aload) ?_
  refine mx_all_cons (ex_get) ?_
  refine mx_all_cons (ex_aload) ?_
  refine mx_all_cons (ex_br) ?_
  refine mx_all_cons (ex_aload) ?_
  refine mx_all_cons (ex_lload) ?_
  refine mx_all_cons (ex_call (sm_Sg_takeFrom zz)) ?_
  refine mx_all_cons (ex_iinc) ?_
  refine mx_all_cons (ex_goto) ?_
  refine mx_all_cons (ex_aload) ?_
  refine mx_all_cons (ex_push) ?_
  refine mx_all_cons (ex_put) ?_
  refine mx_all_cons (ex_ret) ?_
  exact mx_all_nil
theorem gx_Hs_takeIn {zz : Nat × Nat} {r : mx_T} {pc : Nat} {ls ls2 : mx_L} {st : List Value} {h : mx_H} {c n : Nat} (g : mx_G r (t_Hs_takeIn zz) pc ls st h c n) (hn : mx_ndb (ls.map (·.1)) = true) (hi : mx_ins ls ls2) : mx_G r (t_Hs_takeIn zz) pc ls2 st h c n := mx_G_ext (tm_Hs_takeIn zz) (te_Hs_takeIn zz) hn (mx_le_ins hi) g
set_option maxRecDepth 100000 in
theorem te_Wi_respond (zz : Nat × Nat) : mx_All (fun _ o => mx_Ext o) (t_Wi_respond zz) := by
  refine mx_all_cons (ex_push) ?_
  refine mx_all_cons (ex_istore) ?_
  refine mx_all_cons (ex_iload) ?_
  refine mx_all_cons (ex_aload) ?_
  refine mx_all_cons (ex_get) ?_
  refine mx_all_cons (ex_br) ?_
  refine mx_all_cons (ex_aload) ?_
  refine mx_all_cons (ex_aload) ?_
  refine mx_all_cons (ex_get) ?_
  refine mx_all_cons (ex_iload) ?_
  refine mx_all_cons (ex_call (sm_Hs_byteOf zz)) ?_
  refine mx_all_cons (ex_call (sm_Wi_add zz)) ?_
  refine mx_all_cons (ex_iinc) ?_
  refine mx_all_cons (ex_goto) ?_
  refine mx_all_cons (ex_aload) ?_
  refine mx_all_cons (ex_aload) ?_
  refine mx_all_cons (ex_aload) ?_
  refine mx_all_cons (ex_get) ?_
  refine mx_all_cons (ex_push) ?_
  refine mx_all_cons (ex_iald) ?_
  refine mx_all_cons (ex_aload) ?_
  refine mx_all_cons (ex_get) ?_
  refine mx_all_cons (ex_call (sm_Fr_checksumUnder zz)) ?_
  refine mx_all_cons (ex_call (sm_Wi_add zz)) ?_
  refine mx_all_cons (ex_aload) ?_
  refine mx_all_cons (ex_call (sm_Wi_disturb zz)) ?_
  refine mx_all_cons (ex_ret) ?_
  exact mx_all_nil
theorem gx_Wi_respond {zz : Nat × Nat} {r : mx_T} {pc : Nat} {ls ls2 : mx_L} {st : List Value} {h : mx_H} {c n : Nat} (g : mx_G r (t_Wi_respond zz) pc ls st h c n) (hn : mx_ndb (ls.map (·.1)) = true) (hi : mx_ins ls ls2) : mx_G r (t_Wi_respond zz) pc ls2 st h c n := mx_G_ext (tm_Wi_respond zz) (te_Wi_respond zz) hn (mx_le_ins hi) g
set_option maxRecDepth 100000 in
theorem te_Fr_checksumUnder (zz : Nat × Nat) : mx_All (fun _ o => mx_Ext o) (t_Fr_checksumUnder zz) := by
  refine mx_all_cons (ex_aload) ?_
  refine mx_all_cons (ex_get) ?_
  refine mx_all_cons (ex_br) ?_
  refine mx_all_cons (ex_iload) ?_
  refine mx_all_cons (ex_goto) ?_
  refine mx_all_cons (ex_push) ?_
  refine mx_all_cons (ex_istore) ?_
  refine mx_all_cons (ex_push) ?_
  refine mx_all_cons (ex_istore) ?_
  refine mx_all_cons (ex_iload) ?_
  refine mx_all_cons (ex_aload) ?_
  refine mx_all_cons (ex_get) ?_
  refine mx_all_cons (ex_br) ?_
  refine mx_all_cons (ex_iload) ?_
  refine mx_all_cons (ex_lload) ?_
  refine mx_all_cons (ex_iload) ?_
  refine mx_all_cons (ex_call (sm_Hs_byteOf zz)) ?_
  refine mx_all_cons (ex_ii) ?_
  refine mx_all_cons (ex_istore) ?_
  refine mx_all_cons (ex_iload) ?_
  refine mx_all_cons (ex_push) ?_
  refine mx_all_cons (ex_br) ?_
  refine mx_all_cons (ex_iincW) ?_
  refine mx_all_cons (ex_iinc) ?_
  refine mx_all_cons (ex_goto) ?_
  refine mx_all_cons (ex_push) ?_
  refine mx_all_cons (ex_iload) ?_
  refine mx_all_cons (ex_ii) ?_
  refine mx_all_cons (ex_ret) ?_
  exact mx_all_nil
theorem gx_Fr_checksumUnder {zz : Nat × Nat} {r : mx_T} {pc : Nat} {ls ls2 : mx_L} {st : List Value} {h : mx_H} {c n : Nat} (g : mx_G r (t_Fr_checksumUnder zz) pc ls st h c n) (hn : mx_ndb (ls.map (·.1)) = true) (hi : mx_ins ls ls2) : mx_G r (t_Fr_checksumUnder zz) pc ls2 st h c n := mx_G_ext (tm_Fr_checksumUnder zz) (te_Fr_checksumUnder zz) hn (mx_le_ins hi) g
set_option maxRecDepth 100000 in
theorem te_Wi_dataOf (zz : Nat × Nat) : mx_All (fun _ o => mx_Ext o) (t_Wi_dataOf zz) := by
  refine mx_all_cons (ex_push) ?_
  refine mx_all_cons (ex_lstore) ?_
  refine mx_all_cons (ex_iload) ?_
  refine mx_all_cons (ex_istore) ?_
  refine mx_all_cons (ex_iload) ?_
  refine mx_all_cons (ex_push) ?_
  refine mx_all_cons (ex_br) ?_
  refine mx_all_cons (ex_lload) ?_
  refine mx_all_cons (ex_push) ?_
  refine mx_all_cons (ex_li) ?_
  refine mx_all_cons (ex_aload) ?_
  refine mx_all_cons (ex_get) ?_
  refine mx_all_cons (ex_iload) ?_
  refine mx_all_cons (ex_iald) ?_
  refine mx_all_cons (ex_i1) ?_
  refine mx_all_cons (ex_ll) ?_
  refine mx_all_cons (ex_lstore) ?_
  refine mx_all_cons (ex_iinc) ?_
  refine mx_all_cons (ex_goto) ?_
  refine mx_all_cons (ex_lload) ?_
  refine mx_all_cons (ex_ret) ?_
  exact mx_all_nil
theorem gx_Wi_dataOf {zz : Nat × Nat} {r : mx_T} {pc : Nat} {ls ls2 : mx_L} {st : List Value} {h : mx_H} {c n : Nat} (g : mx_G r (t_Wi_dataOf zz) pc ls st h c n) (hn : mx_ndb (ls.map (·.1)) = true) (hi : mx_ins ls ls2) : mx_G r (t_Wi_dataOf zz) pc ls2 st h c n := mx_G_ext (tm_Wi_dataOf zz) (te_Wi_dataOf zz) hn (mx_le_ins hi) g
set_option maxRecDepth 100000 in
theorem te_Gr_firstPending (zz : Nat × Nat) : mx_All (fun _ o => mx_Ext o) (t_Gr_firstPending zz) := by
  refine mx_all_cons (ex_aload) ?_
  refine mx_all_cons (ex_get) ?_
  refine mx_all_cons (ex_astore) ?_
  refine mx_all_cons (ex_aload) ?_
  refine mx_all_cons (ex_alen) ?_
  refine mx_all_cons (ex_istore) ?_
  refine mx_all_cons (ex_push) ?_
  refine mx_all_cons (ex_istore) ?_
  refine mx_all_cons (ex_iload) ?_
  refine mx_all_cons (ex_iload) ?_
  refine mx_all_cons (ex_br) ?_
  refine mx_all_cons (ex_aload) ?_
  refine mx_all_cons (ex_iload) ?_
  refine mx_all_cons (ex_aald) ?_
  refine mx_all_cons (ex_astore) ?_
  refine mx_all_cons (ex_aload) ?_
  refine mx_all_cons (ex_get) ?_
  refine mx_all_cons (ex_br) ?_
  refine mx_all_cons (ex_aload) ?_
  refine mx_all_cons (ex_ret) ?_
  refine mx_all_cons (ex_iinc) ?_
  refine mx_all_cons (ex_goto) ?_
  refine mx_all_cons (ex_push) ?_
  refine mx_all_cons (ex_ret) ?_
  exact mx_all_nil
theorem gx_Gr_firstPending {zz : Nat × Nat} {r : mx_T} {pc : Nat} {ls ls2 : mx_L} {st : List Value} {h : mx_H} {c n : Nat} (g : mx_G r (t_Gr_firstPending zz) pc ls st h c n) (hn : mx_ndb (ls.map (·.1)) = true) (hi : mx_ins ls ls2) : mx_G r (t_Gr_firstPending zz) pc ls2 st h c n := mx_G_ext (tm_Gr_firstPending zz) (te_Gr_firstPending zz) hn (mx_le_ins hi) g
set_option maxRecDepth 100000 in
theorem te_Ev_hasPending (zz : Nat × Nat) : mx_All (fun _ o => mx_Ext o) (t_Ev_hasPending zz) := by
  refine mx_all_cons (ex_aload) ?_
  refine mx_all_cons (ex_get) ?_
  refine mx_all_cons (ex_astore) ?_
  refine mx_all_cons (ex_aload) ?_
  refine mx_all_cons (ex_alen) ?_
  refine mx_all_cons (ex_istore) ?_
  refine mx_all_cons (ex_push) ?_
  refine mx_all_cons (ex_istore) ?_
  refine mx_all_cons (ex_iload) ?_
  refine mx_all_cons (ex_iload) ?_
  refine mx_all_cons (ex_br) ?_
  refine mx_all_cons (ex_aload) ?_
  refine mx_all_cons (ex_iload) ?_
  refine mx_all_cons (ex_aald) ?_
  refine mx_all_cons (ex_astore) ?_
  refine mx_all_cons (ex_aload) ?_
  refine mx_all_cons (ex_get) ?_
  refine mx_all_cons (ex_br) ?_
  refine mx_all_cons (ex_push) ?_
  refine mx_all_cons (ex_zret) ?_
  refine mx_all_cons (ex_iinc) ?_
  refine mx_all_cons (ex_goto) ?_
  refine mx_all_cons (ex_push) ?_
  refine mx_all_cons (ex_zret) ?_
  exact mx_all_nil
theorem gx_Ev_hasPending {zz : Nat × Nat} {r : mx_T} {pc : Nat} {ls ls2 : mx_L} {st : List Value} {h : mx_H} {c n : Nat} (g : mx_G r (t_Ev_hasPending zz) pc ls st h c n) (hn : mx_ndb (ls.map (·.1)) = true) (hi : mx_ins ls ls2) : mx_G r (t_Ev_hasPending zz) pc ls2 st h c n := mx_G_ext (tm_Ev_hasPending zz) (te_Ev_hasPending zz) hn (mx_le_ins hi) g
set_option maxRecDepth 100000 in
theorem te_Ev_firstByteOnBus (zz : Nat × Nat) : mx_All (fun _ o => mx_Ext o) (t_Ev_firstByteOnBus zz) := by
  refine mx_all_cons (ex_push) ?_
  refine mx_all_cons (ex_istore) ?_
  refine mx_all_cons (ex_aload) ?_
  refine mx_all_cons (ex_get) ?_
  refine mx_all_cons (ex_astore) ?_
  refine mx_all_cons (ex_aload) ?_
  refine mx_all_cons (ex_alen) ?_
  refine mx_all_cons (ex_istore) ?_
  refine mx_all_cons (ex_push) ?_
  refine mx_all_cons (ex_istore) ?_
  refine mx_all_cons (ex_iload) ?_
  refine mx_all_cons (ex_iload) ?_
  refine mx_all_cons (ex_br) ?_
  refine mx_all_cons (ex_aload) ?_
  refine mx_all_cons (ex_iload) ?_
  refine mx_all_cons (ex_aald) ?_
  refine mx_all_cons (ex_astore) ?_
  refine mx_all_cons (ex_aload) ?_
  refine mx_all_cons (ex_get) ?_
  refine mx_all_cons (ex_br) ?_
  refine mx_all_cons (ex_iload) ?_
  refine mx_all_cons (ex_aload) ?_
  refine mx_all_cons (ex_get) ?_
  refine mx_all_cons (ex_ii) ?_
  refine mx_all_cons (ex_istore) ?_
  refine mx_all_cons (ex_iinc) ?_
  refine mx_all_cons (ex_goto) ?_
  refine mx_all_cons (ex_iload) ?_
  refine mx_all_cons (ex_ret) ?_
  exact mx_all_nil
theorem gx_Ev_firstByteOnBus {zz : Nat × Nat} {r : mx_T} {pc : Nat} {ls ls2 : mx_L} {st : List Value} {h : mx_H} {c n : Nat} (g : mx_G r (t_Ev_firstByteOnBus zz) pc ls st h c n) (hn : mx_ndb (ls.map (·.1)) = true) (hi : mx_ins ls ls2) : mx_G r (t_Ev_firstByteOnBus zz) pc ls2 st h c n := mx_G_ext (tm_Ev_firstByteOnBus zz) (te_Ev_firstByteOnBus zz) hn (mx_le_ins hi) g
set_option maxRecDepth 100000 in
theorem te_Ev_memberWith (zz : Nat × Nat) : mx_All (fun _ o => mx_Ext o) (t_Ev_memberWith zz) := by
  refine mx_all_cons (ex_aload) ?_
  refine mx_all_cons (ex_get) ?_
  refine mx_all_cons (ex_astore) ?_
  refine mx_all_cons (ex_aload) ?_
  refine mx_all_cons (ex_alen) ?_
  refine mx_all_cons (ex_istore) ?_
  refine mx_all_cons (ex_push) ?_
  refine mx_all_cons (ex_istore) ?_
  refine mx_all_cons (ex_iload) ?_
  refine mx_all_cons (ex_iload) ?_
  refine mx_all_cons (ex_br) ?_
  refine mx_all_cons (ex_aload) ?_
  refine mx_all_cons (ex_iload) ?_
  refine mx_all_cons (ex_aald) ?_
  refine mx_all_cons (ex_astore) ?_
  refine mx_all_cons (ex_aload) ?_
  refine mx_all_cons (ex_get) ?_
  refine mx_all_cons (ex_iload) ?_
  refine mx_all_cons (ex_br) ?_
  refine mx_all_cons (ex_aload) ?_
  refine mx_all_cons (ex_ret) ?_
  refine mx_all_cons (ex_iinc) ?_
  refine mx_all_cons (ex_goto) ?_
  refine mx_all_cons (ex_push) ?_
  refine mx_all_cons (ex_ret) ?_
  exact mx_all_nil
theorem gx_Ev_memberWith {zz : Nat × Nat} {r : mx_T} {pc : Nat} {ls ls2 : mx_L} {st : List Value} {h : mx_H} {c n : Nat} (g : mx_G r (t_Ev_memberWith zz) pc ls st h c n) (hn : mx_ndb (ls.map (·.1)) = true) (hi : mx_ins ls ls2) : mx_G r (t_Ev_memberWith zz) pc ls2 st h c n := mx_G_ext (tm_Ev_memberWith zz) (te_Ev_memberWith zz) hn (mx_le_ins hi) g
