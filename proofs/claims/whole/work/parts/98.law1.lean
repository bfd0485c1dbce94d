theorem c_frame {zz : Nat × Nat} {h : mx_H} {ad : Nat → Nat → Nat} {s : se_S} {x : xX} (hR : RX zz h ad s x) (hG : GI s) (hJ : JX s x) (id node len more : Int32) (hm : more = 0 ∨ more = 1) (P : Option Value → mx_H → Prop) (hP : ∀ (h' : mx_H) (ad' : Nat → Nat → Nat) (x' : xX), ad' 0 0 = ad 0 0 → RX zz h' ad' (se_frame s id node len more).2 x' → JX (se_frame s id node len more).2 x' → P (some (.int (se_frame s id node len more).1)) h') : S_Hs_frame zz [.ref (ad 0 0), .int id, .int node, .int len, .int more] h P := by
  refine q_Hs_frame hR (iX_of hG.a) hJ.bo (hG.c.wz _ (Nat.le_refl _)) id node len more hm P (fun e => ?_) (fun h' ad' L ead _ hid _ e hR' => ?_)
  · rw [e] at hP
    exact hP h ad x rfl hR hJ
  · obtain ⟨i, hi, ei⟩ := hid
    rw [e] at hP hR'
    exact hP h' ad' _ ead hR' (JX_frame hG.a hJ hi ei)
theorem c_signal {zz : Nat × Nat} {h : mx_H} {ad : Nat → Nat → Nat} {s : se_S} {x : xX} (hR : RX zz h ad s x) (hG : GI s) (hJ : JX s x) (fr off w v : Int32) (P : Option Value → mx_H → Prop) (hP : ∀ (h' : mx_H) (ad' : Nat → Nat → Nat) (x' : xX), ad' 0 0 = ad 0 0 → RX zz h' ad' (se_signal s fr off w v).2 x' → JX (se_signal s fr off w v).2 x' → P (some (.int (se_signal s fr off w v).1)) h') : S_Hs_signal zz [.ref (ad 0 0), .int fr, .int off, .int w, .int v] h P := by
  refine q_Hs_signal hR (iX_of hG.a) hG.a.ln hJ.tk (hG.c.nz _ (Nat.le_refl _)) fr off w v P (fun h' hR' e => ?_) (fun h' ad' L f o w0 n ead hf ef eo ew h1 h16 en hn how hs _ h6 hfree hv e hR' => ?_)
  · rw [e] at hP
    exact hP h' ad x rfl hR' hJ
  · rw [e] at hP hR'
    exact hP h' ad' _ ead hR' (JX_signal hG.a hJ hf ef eo ew h1 h16 hn how h6 hfree hv (GA_signal hG.a hf ef eo ew h1 h16 en hn how hs h6 hfree))
theorem c_sporadic {zz : Nat × Nat} {h : mx_H} {ad : Nat → Nat → Nat} {s : se_S} {x : xX} (hR : RX zz h ad s x) (hG : GI s) (hJ : JX s x) (a b c : Int32) (P : Option Value → mx_H → Prop) (hP : ∀ (h' : mx_H) (ad' : Nat → Nat → Nat) (x' : xX), ad' 0 0 = ad 0 0 → RX zz h' ad' (se_sporadic s a b c).2 x' → JX (se_sporadic s a b c).2 x' → P (some (.int (se_sporadic s a b c).1)) h') : S_Hs_sporadic zz [.ref (ad 0 0), .int a, .int b, .int c] h P := by
  refine q_Hs_sporadic hR (iX_of hG.a) a b c P (fun e => ?_) (fun h' ad' L a0 b0 ead _ _ _ _ _ _ _ e hR' => ?_)
  · rw [e] at hP
    exact hP h ad x rfl hR hJ
  · rw [e] at hP hR'
    refine hP h' ad' _ ead hR' (JX_as hJ rfl rfl rfl (fun q hq => ?_) (fun q hq => ?_) rfl hJ.rb hJ.nb)
    · show r3 s.2 13 (s.1 2) a b c q = s.2 q
      unfold r3
      rw [up2_k _ _ (by omega), up2_k _ _ (by omega), up2_k _ _ (by omega)]
    · show up2 x.1 0 2 _ q = x.1 q
      rw [up2_k _ _ (by omega)]
theorem c_entry {zz : Nat × Nat} {h : mx_H} {ad : Nat → Nat → Nat} {s : se_S} {x : xX} (hR : RX zz h ad s x) (hG : GI s) (hJ : JX s x) (t kind num d : Int32) (P : Option Value → mx_H → Prop) (hP : ∀ (h' : mx_H) (ad' : Nat → Nat → Nat) (x' : xX), ad' 0 0 = ad 0 0 → RX zz h' ad' (se_entry s t kind num d).2 x' → JX (se_entry s t kind num d).2 x' → P (some (.int (se_entry s t kind num d).1)) h') : S_Hs_entry zz [.ref (ad 0 0), .int t, .int kind, .int num, .int d] h P := by
  refine q_Hs_entry hR (iX_of hG.a) t kind num d P (fun e => ?_) (fun h' ad' x' ead ex hk e1 hR' => ?_)
  · rw [e] at hP
    exact hP h ad x rfl hR hJ
  · obtain ⟨i, L, rfl⟩ := ex
    have hJ' : JX (se_entry s t kind num d).2 (xmod x i L) := by
      have key : ∀ q, q = 0 ∨ q = 1 ∨ q = 6 ∨ q = 7 ∨ q = 8 ∨ q = 9 ∨ q = 10 ∨ q = 14 ∨ q = 16 → (se_entry s t kind num d).2.2 q = s.2 q := fun q hq => by
        unfold se_entry
        split
        · rfl
        · by_cases hc : (!se_wi num 0 (nI (s.1 (if kind == 0 then 0 else if kind == 1 then 2 else 3)) - 1)) = true
          · rw [if_pos hc]
          · rw [if_neg hc]
            show up2 (up2 (up2 s.2 17 _ kind) 18 _ num) 19 _ d q = s.2 q
            rw [up2_k _ _ (by omega), up2_k _ _ (by omega), up2_k _ _ (by omega)]
      have kc : ∀ q, q < 4 → (se_entry s t kind num d).2.1 q = s.1 q := fun q hq => by
        unfold se_entry
        split
        · rfl
        · by_cases hc : (!se_wi num 0 (nI (s.1 (if kind == 0 then 0 else if kind == 1 then 2 else 3)) - 1)) = true
          · rw [if_pos hc]
          · rw [if_neg hc]
            show va_up s.1 (4 + t.toNatClampNeg) _ q = s.1 q
            rw [va_up_ne _ _ (by omega)]
      have k0 := key 0 (by omega)
      refine JX_as hJ (kc 0 (by decide)) (kc 1 (by decide)) (kc 3 (by decide)) (fun q hq => key q (by omega)) (fun q hq => ?_) rfl ?_ ?_
      · show up2 x.1 0 i _ q = x.1 q
        rw [up2_k _ _ (by omega)]
      · rw [k0]; exact hJ.rb
      · rw [k0]; exact hJ.nb
    have := hP h' ad' _ ead hR' hJ'
    rw [e1] at this
    exact this
theorem c_write {zz : Nat × Nat} {h : mx_H} {ad : Nat → Nat → Nat} {s : se_S} {x : xX} (hR : RX zz h ad s x) (hG : GI s) (hJ : JX s x) (g v : Int32) (P : Option Value → mx_H → Prop) (hP : ∀ (h' : mx_H) (ad' : Nat → Nat → Nat) (x' : xX), ad' 0 0 = ad 0 0 → RX zz h' ad' (se_write s g v).2 x' → JX (se_write s g v).2 x' → P (some (.int (se_write s g v).1)) h') : S_Hs_write zz [.ref (ad 0 0), .int g, .int v] h P := by
  refine q_Hs_write hR (sv_of hG.a) g v P (fun e => ?_) (fun h' x' j f o w hj _ hf e7 _ _ ex hv e hR' => ?_)
  · rw [e] at hP
    exact hP h ad x rfl hR hJ
  · rw [e] at hP hR'
    refine hP h' ad x' rfl hR' ?_
    rw [ex]
    exact JX_write hG.a hJ hj hf e7 hv
theorem c_fresh {zz : Nat × Nat} {h : mx_H} {ad : Nat → Nat → Nat} {s : se_S} {x : xX} (hR : RX zz h ad s x) (hG : GI s) (hJ : JX s x) (g : Int32) (P : Option Value → mx_H → Prop) (hP : ∀ (h' : mx_H) (ad' : Nat → Nat → Nat) (x' : xX), ad' 0 0 = ad 0 0 → RX zz h' ad' (se_fresh s g).2 x' → JX (se_fresh s g).2 x' → P (some (.int (se_fresh s g).1)) h') : S_Hs_fresh zz [.ref (ad 0 0), .int g] h P := by
  refine q_Hs_fresh hR hG.c.nw g P (fun h' hR' => hP h' ad x rfl hR' ?_)
  unfold se_fresh
  split
  · exact hJ
  · exact JX_as hJ rfl rfl rfl (fun q hq => up2_k _ _ (by omega)) (fun _ _ => rfl) rfl hJ.rb hJ.nb
theorem c_request {zz : Nat × Nat} {h : mx_H} {ad : Nat → Nat → Nat} {s : se_S} {x : xX} (hR : RX zz h ad s x) (hG : GI s) (hJ : JX s x) (t : Int32) (P : Option Value → mx_H → Prop) (hP : ∀ (h' : mx_H) (ad' : Nat → Nat → Nat) (x' : xX), ad' 0 0 = ad 0 0 → RX zz h' ad' (se_request s t).2 x' → JX (se_request s t).2 x' → P (some (.int (se_request s t).1)) h') : S_Hs_request zz [.ref (ad 0 0), .int t] h P := by
  refine q_Hs_request hR t P (fun h' hR' => hP h' ad x rfl hR' ?_)
  unfold se_request
  split
  · exact hJ
  · exact JX_as hJ rfl rfl rfl (fun q hq => up2_k _ _ (by omega)) (fun _ _ => rfl) rfl hJ.rb hJ.nb
theorem c_noise {zz : Nat × Nat} {h : mx_H} {ad : Nat → Nat → Nat} {s : se_S} {x : xX} (hR : RX zz h ad s x) (hG : GI s) (hJ : JX s x) (k m : Int32) (P : Option Value → mx_H → Prop) (hP : ∀ (h' : mx_H) (ad' : Nat → Nat → Nat) (x' : xX), ad' 0 0 = ad 0 0 → RX zz h' ad' (se_noise s k m).2 x' → JX (se_noise s k m).2 x' → P (some (.int (se_noise s k m).1)) h') : S_Hs_noise zz [.ref (ad 0 0), .int k, .int m] h P := by
  refine q_Hs_noise hR k m P (fun h' x' ex hR' => hP h' ad x' rfl hR' ?_)
  rw [ex]
  unfold se_noise
  by_cases hc : (!se_wi k 0 8 || !se_wi m 1 255) = true
  · rw [if_pos hc, if_pos rfl]
    exact hJ
  · rw [if_neg hc, if_neg (show ¬ (1 : Int32) = 0 by decide)]
    refine JX_as hJ rfl rfl rfl (fun q hq => ?_) (fun q hq => up2_k _ _ (by omega)) rfl hJ.rb ?_
    · show up2 (up2 (up2 s.2 0 11 1) 0 12 k) 0 13 m q = s.2 q
      rw [up2_k _ _ (by omega), up2_k _ _ (by omega), up2_k _ _ (by omega)]
    · rfl
theorem c_sleep {zz : Nat × Nat} {h : mx_H} {ad : Nat → Nat → Nat} {s : se_S} {x : xX} (hR : RX zz h ad s x) (hG : GI s) (hJ : JX s x) (P : Option Value → mx_H → Prop) (hP : ∀ (h' : mx_H) (ad' : Nat → Nat → Nat) (x' : xX), ad' 0 0 = ad 0 0 → RX zz h' ad' (se_sleep s).2 x' → JX (se_sleep s).2 x' → P (some (.int (se_sleep s).1)) h') : S_Hs_sleep zz [.ref (ad 0 0)] h P := by
  refine q_Hs_sleep hR P (fun h' hR' => hP h' ad x rfl hR' ?_)
  unfold se_sleep
  split
  · exact hJ
  · refine JX_as hJ rfl rfl rfl (fun q hq => ?_) (fun _ _ => rfl) rfl hJ.rb hJ.nb
    show up2 (up2 s.2 0 1 1) 0 2 0 q = s.2 q
    rw [up2_k _ _ (by omega), up2_k _ _ (by omega)]
theorem c_wake {zz : Nat × Nat} {h : mx_H} {ad : Nat → Nat → Nat} {s : se_S} {x : xX} (hR : RX zz h ad s x) (hG : GI s) (hJ : JX s x) (P : Option Value → mx_H → Prop) (hP : ∀ (h' : mx_H) (ad' : Nat → Nat → Nat) (x' : xX), ad' 0 0 = ad 0 0 → RX zz h' ad' (se_wake s).2 x' → JX (se_wake s).2 x' → P (some (.int (se_wake s).1)) h') : S_Hs_wake zz [.ref (ad 0 0)] h P := by
  refine q_Hs_wake hR P (fun h' hR' => hP h' ad x rfl hR' ?_)
  unfold se_wake
  split
  · exact hJ
  · exact JX_as hJ rfl rfl rfl (fun q hq => up2_k _ _ (by omega)) (fun _ _ => rfl) rfl hJ.rb hJ.nb
theorem k_start {zz : Nat × Nat} {h : mx_H} {ad : Nat → Nat → Nat} {s : se_S} {x : xX} (hR : RX zz h ad s x) (hG : GI s) (hJ : JX s x) (t : Int32) (P : Option Value → mx_H → Prop) (hP : ∀ (h' : mx_H) (ad' : Nat → Nat → Nat) (x' : xX), ad' 0 0 = ad 0 0 → RX zz h' ad' (se_start s t).2 x' → JX (se_start s t).2 x' → P (some (.int (se_start s t).1)) h') : S_Hs_start zz [.ref (ad 0 0), .int t] h P :=
  c_start hR hG hJ t P (fun h' hR' hJ' => hP h' ad x rfl hR' hJ')
theorem k_tick {zz : Nat × Nat} {h : mx_H} {ad : Nat → Nat → Nat} {s : se_S} {x : xX} (hR : RX zz h ad s x) (hG : GI s) (hJ : JX s x) (P : Option Value → mx_H → Prop) (hP : ∀ (h' : mx_H) (ad' : Nat → Nat → Nat) (x' : xX), ad' 0 0 = ad 0 0 → RX zz h' ad' (sf_tick s).2 x' → JX (sf_tick s).2 x' → P (some (.int (sf_tick s).1)) h') : S_Hs_tick zz [.ref (ad 0 0)] h P :=
  c_tick hR hG hJ P (fun h' x' hR' hJ' => hP h' ad x' rfl hR' hJ')
theorem m_tick {h : mx_H} {ad : Nat → Nat} {s : se_S} (hR : RM h ad s) (hG : GI s) (zz : Nat × Nat) (P : Option Value → mx_H → Prop) (hP : ∀ h', RM h' ad (sf_tick s).2 → P (some (.int (sf_tick s).1)) h') : S_Mo_tick zz [.ref (ad 0)] h P := by
  have c3 := hG.a.c3
  have c2 := hG.a.c2
  refine q_Mo_tick hR (sv_of hG.a) hG.c.pn (fun _ => ?_) (fun h0 => ?_) zz P hP
  · obtain ⟨t, _, ht, _, et, _⟩ := hG.t.p3
    obtain ⟨ta, _, hta, _, eta, _⟩ := hG.t.p6
    refine ⟨⟨t, ht, et⟩, ⟨ta, hta, eta⟩, ?_, fun h9 => ?_⟩
    · rcases hG.t.p8 with z | ⟨t, ht, _, z⟩
      · exact Or.inl (by rw [z]; decide)
      · exact Or.inr ⟨t, ht, z⟩
    · rcases hG.c.p9 with z | ⟨e, he, z⟩
      · rw [z] at h9
        exact absurd h9 (by decide)
      · exact ⟨e, by omega, z, hG.a.rs e he⟩
  · obtain ⟨t, x, ht, hx, e3, e4, _⟩ := turn_at hG.a hG.c hG.t h0
    have h8 := hG.a.c4 t ht
    refine ⟨t, x, ht, by omega, e3, e4, ?_⟩
    rcases hG.a.ek t x ht hx with z | ⟨z, g, hg, eg⟩ | ⟨z, e, he, ee⟩
    · exact Or.inl z
    · exact Or.inr (Or.inl ⟨z, g, by omega, eg, gv_of (hG.a.gg g hg)⟩)
    · exact Or.inr (Or.inr ⟨by rw [z]; decide, by rw [z]; decide, e, by omega, ee, cv_of (hG.a.ge e he)⟩)
