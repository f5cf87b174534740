set_option maxHeartbeats 1000000 in
set_option maxRecDepth 100000 in
theorem c_Z_reach_ok (l : Launch) (D : va_G) (t0 : Nat) (g : ZG) (z : ZT) (sz : Nat) (r3 : T3) (v : Int32) (hz : zOK z) (ht : z3ok z r3) : Met l y_Z_reach w_Z_reach ({ frames := 3, cells := 0, slots := 0, locals := 90 }) (zPre D t0 (zT g (z3 z r3)) (zW t0 g (z3 z r3)) sz [.ref (g_h g), .int v]) (va_Qv (fun u => u = z3 z (zr3 z v r3)) (fun (u : ZT) t => zPost D (zT g u) (va_A (zW t0 g (z3 z r3)) sz) (zW t0 g u) t) (va_A (zW t0 g (z3 z r3)) sz)) 0 0 (va_A (zW t0 g (z3 z r3)) sz) := by
  refine Met.ofW (cc := c_Z_reach) (maxL := 3) (ret := none) (by decide) rfl ?_
  intro p e s m args below meth c s₁ B hml hv
  obtain ⟨rfl, hsz, hP, hK, hD0, hE⟩ := hv
  have hx := B.exec
  have hb := B.bytes
  have hr := B.returns
  have hts := atoms_spec (ws := w_Z_reach) B.pre
  have hk : ∀ w ∈ zB, w.before _ s = true := fun w h => hts w (List.mem_cons_of_mem _ h)
  have hown : s.vm.findClass "ZoneHeap" = some m.cls := findClass_of_methodNamed B.named
  have hlocks := B.notSynchronized
  subst hsz
  have hD := hD0.self (sz := s.heap.size)
  generalize hAe : va_A (zW t0 g (z3 z r3)) s.heap.size = A at hD hE ⊢
  have hA : ∀ q : Nat, s.heap.size ≤ q → A q := fun q h => by rw [← hAe]; exact Or.inr h
  have hS : va_S A s.heap s.heap [] := va_S.rf
  have hl := lv_entry ([.ref (g_h g), .int v]) (n := 3) (Nat.le_of_ble_eq_true rfl)
  rw [lg_entry_eq]
  generalize (lg_sl ([.ref (g_h g), .int v]) ++ List.replicate (3 - (lg_sl ([.ref (g_h g), .int v])).length) Slot.unset).toArray = ls at hl ⊢
  have hl : lv_has ls 3 [(0, .ref (g_h g)), (1, .int v)] := hl
  have hz3 := hz.t3 ht
  have ht1 := ht.1
  refine lv_aload_n hx hb d_Z_reach_0 rfl (lv_at hl 0 rfl) ?_
  refine lv_iload_n hx hb d_Z_reach_1 rfl (lv_at hl 1 rfl) ?_
  refine va_csq (zrV (n := 1) (As := [.int v]) (rest := []) ⟨hx, hb, hml, hown, hk⟩ (c_Z_ledToBy_ok l D t0 g (z3 z r3) s.heap.size v hz3) zk103 zk105 ks_Z_ledToBy zk1 kc_Z_ledToBy ⟨rfl, by decide, by decide, by decide⟩ rfl rfl ⟨Nat.le_of_ble_eq_true rfl, Nat.le_of_ble_eq_true rfl⟩ ⟨hP, hK, hD, hS, hA, hE⟩ (va_recv hK hP (ci := 0) (q0 := 0) rfl rfl) rfl hl.1 rfl (Nat.le_of_ble_eq_true rfl) d_Z_reach_2 ⟨Nat.le_of_ble_eq_true rfl, Nat.le_of_ble_eq_true rfl⟩).run (fun r hr1 => ?_)
  have hr1 : r = zq_led z v := hr1
  rcases zopt (r) with hro | ⟨a, hro⟩
  · refine zh_v (show va_rf (r) = .null from by rw [hro]; rfl) ?_
    refine lv_astore_nN (lv' := [(2, .null), (0, .ref (g_h g)), (1, .int v)]) hx hb d_Z_reach_5 rfl hl (by decide) rfl (fun ls hl => ?_)
    refine lv_aload_nN hx hb d_Z_reach_6 rfl (lv_at hl 0 rfl) ?_
    refine lv_ifnullN (tgt := 27) hx hb d_Z_reach_7 (by decide) ?_
    exact W.vret hx hb hr (fun t ht hW => ⟨⟨_, rfl, by unfold zr3; rw [← hr1, hro], by rw [ht]; exact hP, va_K.moved hW.alike hK, hD⟩, hS.F ht⟩) hS.2.2 d_Z_reach_27
  refine zh_v (show va_rf (r) = .ref a from by rw [hro]; rfl) ?_
  have hled : zq_led z v = some a := by rw [← hr1, hro]
  have ha : a ∈ z_LB z := zq_led_in hz hled
  have hP : va_P D zcl (zW t0 g (zmk (z_oct z) (z_tk z) (z_ko z) (z_lb z) (z_lo z) (z_mb z) r3.2.1 r3.2.2 (z_lf z) (z_ln z) (z_md z) (z_cE z) (z_aE z) (z_cap z) (z_kl z) (z_LB z) (z_bs z) (z_bz z) (z_kp z) r3.1)) s.heap := hP
  have hD : va_D A (zW t0 g (zmk (z_oct z) (z_tk z) (z_ko z) (z_lb z) (z_lo z) (z_mb z) r3.2.1 r3.2.2 (z_lf z) (z_ln z) (z_md z) (z_cE z) (z_aE z) (z_cap z) (z_kl z) (z_LB z) (z_bs z) (z_bz z) (z_kp z) r3.1)) := hD
  have hK : va_K D zcl (zT g (zmk (z_oct z) (z_tk z) (z_ko z) (z_lb z) (z_lo z) (z_mb z) r3.2.1 r3.2.2 (z_lf z) (z_ln z) (z_md z) (z_cE z) (z_aE z) (z_cap z) (z_kl z) (z_LB z) (z_bs z) (z_bz z) (z_kp z) r3.1)) s := hK
  refine lv_astore_n (lv' := [(2, .ref a), (0, .ref (g_h g)), (1, .int v)]) hx hb d_Z_reach_5 rfl hl (by decide) rfl (fun ls hl => ?_)
  refine lv_aload_n hx hb d_Z_reach_6 rfl (lv_at hl 0 rfl) ?_
  refine lv_ifnull hx hb d_Z_reach_7 ?_
  refine lv_aload_n hx hb d_Z_reach_10 rfl (lv_at hl 0 rfl) ?_
  obtain ⟨k9, hk9⟩ := zpool (t0 := t0) (g := g) (z := (zmk (z_oct z) (z_tk z) (z_ko z) (z_lb z) (z_lo z) (z_mb z) r3.2.1 r3.2.2 (z_lf z) (z_ln z) (z_md z) (z_cE z) (z_aE z) (z_cap z) (z_kl z) (z_LB z) (z_bs z) (z_bz z) (z_kp z) r3.1)) ha
  refine va_getN (D := D) (ci := 1) (v := .int (zb (r3.1 a))) (C := RB) (T := TB) (N := 4) hx hb hk inB hown hK hP k9 hk9 rfl 3 (by decide) (va_Nw.use rfl (hE.1.1 _ zn238)) (fun _ h9 => h9) rfl d_Z_reach_11 ?_
  refine lv_if_ne (tgt := 27) hx hb d_Z_reach_14 (by decide) (fun h => ?_) (fun h => ?_)
  · rw [zh_zb] at h
    exact W.vret hx hb hr (fun t ht hW => ⟨⟨_, rfl, by unfold zr3; rw [hled]; show _ = z3 z (if r3.1 a = true ∨ 255 ≤ r3.2.2 then r3 else _); rw [if_pos (Or.inl (ts_nf h))]; rfl, by rw [ht]; exact hP, va_K.moved hW.alike hK, hD⟩, hS.F ht⟩) hS.2.2 d_Z_reach_27
  rw [zh_zb] at h
  have hrc := h
  refine lv_aload_n hx hb d_Z_reach_17 rfl (lv_at hl 1 rfl) ?_
  refine va_get (D := D) (ci := 0) (v := .int (nI r3.2.2)) (C := RZ) (T := TZ) (N := 11) hx hb hk inZ hown hK hP 0 rfl rfl 8 (by decide) (hk _ zk64) (fun _ h9 => h9) rfl d_Z_reach_18 ?_
  refine lv_sipush (v := nI 255) hx hb d_Z_reach_21 (by decide) ?_
  refine lv_icmp_lt (tgt := 28) hx hb d_Z_reach_24 (by decide) (fun h => ?_) (fun h => ?_)
  rotate_left 1
  · rw [nI_ltI (by omega) (by omega)] at h
    exact W.vret hx hb hr (fun t ht hW => ⟨⟨_, rfl, by unfold zr3; rw [hled]; show _ = z3 z (if r3.1 a = true ∨ 255 ≤ r3.2.2 then r3 else _); rw [if_pos (Or.inr (by omega))]; rfl, by rw [ht]; exact hP, va_K.moved hW.alike hK, hD⟩, hS.F ht⟩) hS.2.2 d_Z_reach_27
  rw [nI_ltI (by omega) (by omega)] at h
  have e7 : zr3 z v r3 = (va_up r3.1 a true, va_up r3.2.1 r3.2.2 (some a), r3.2.2 + 1) := by unfold zr3; rw [hled]; show (if r3.1 a = true ∨ 255 ≤ r3.2.2 then r3 else _) = _; rw [if_neg (by rw [hrc]; rintro (q | q); (cases q); (omega))]
  refine lv_aload_n hx hb d_Z_reach_28 rfl (lv_at hl 0 rfl) ?_
  refine lv_iconst (v := nI 1) hx hb d_Z_reach_29 (by decide) ?_
  refine zh_t (show nI 1 = zb true from rfl) ?_
  obtain ⟨k9, hk9⟩ := zpool (t0 := t0) (g := g) (z := (zmk (z_oct z) (z_tk z) (z_ko z) (z_lb z) (z_lo z) (z_mb z) r3.2.1 r3.2.2 (z_lf z) (z_ln z) (z_md z) (z_cE z) (z_aE z) (z_cap z) (z_kl z) (z_LB z) (z_bs z) (z_bz z) (z_kp z) r3.1)) ha
  have hD9 := hD
  refine va_putN (D := D) (ci := 1) (v := .int (zb true)) (ty := .boolean) (C := RB) (T := TB) (N := 4) hx hb hk inB tyB okB nmB hown hK hP hD hS k9 hk9 rfl 3 (by decide) (va_Nw.use rfl (hE.1.1 _ zn238)) (fun _ h9 => h9) rfl (by decide +kernel) (zh_nar _) (zh_fit _) (Nat.le_of_ble_eq_true rfl) d_Z_reach_30 (fun H locs hP hD hS => ?_)
  have e9 : _ = zW t0 g (zmk (z_oct z) (z_tk z) (z_ko z) (z_lb z) (z_lo z) (z_mb z) r3.2.1 r3.2.2 (z_lf z) (z_ln z) (z_md z) (z_cE z) (z_aE z) (z_cap z) (z_kl z) (z_LB z) (z_bs z) (z_bz z) (z_kp z) (va_up r3.1 a true)) := zset_rc (t0 := t0) (g := g) (z := (zmk (z_oct z) (z_tk z) (z_ko z) (z_lb z) (z_lo z) (z_mb z) r3.2.1 r3.2.2 (z_lf z) (z_ln z) (z_md z) (z_cE z) (z_aE z) (z_cap z) (z_kl z) (z_LB z) (z_bs z) (z_bz z) (z_kp z) r3.1)) (v := true) hD9 ha hk9
  have hP : va_P D zcl (zW t0 g (zmk (z_oct z) (z_tk z) (z_ko z) (z_lb z) (z_lo z) (z_mb z) r3.2.1 r3.2.2 (z_lf z) (z_ln z) (z_md z) (z_cE z) (z_aE z) (z_cap z) (z_kl z) (z_LB z) (z_bs z) (z_bz z) (z_kp z) (va_up r3.1 a true))) H := Eq.mp (congrArg (fun w9 => va_P D zcl w9 H) e9) hP
  have hD : va_D A (zW t0 g (zmk (z_oct z) (z_tk z) (z_ko z) (z_lb z) (z_lo z) (z_mb z) r3.2.1 r3.2.2 (z_lf z) (z_ln z) (z_md z) (z_cE z) (z_aE z) (z_cap z) (z_kl z) (z_LB z) (z_bs z) (z_bz z) (z_kp z) (va_up r3.1 a true))) := Eq.mp (congrArg (fun w9 => va_D A w9) e9) hD
  refine lv_aload_n hx hb d_Z_reach_33 rfl (lv_at hl 1 rfl) ?_
  refine va_get (D := D) (ci := 0) (v := .ref (g_aR g)) (C := RZ) (T := TZ) (N := 11) hx hb hk inZ hown hK hP 0 rfl rfl 7 (by decide) (hk _ zk63) (fun _ h9 => h9) rfl d_Z_reach_34 ?_
  refine lv_aload_n hx hb d_Z_reach_37 rfl (lv_at hl 1 rfl) ?_
  refine va_get (D := D) (ci := 0) (v := .int (nI r3.2.2)) (C := RZ) (T := TZ) (N := 11) hx hb hk inZ hown hK hP 0 rfl rfl 8 (by decide) (hk _ zk64) (fun _ h9 => h9) rfl d_Z_reach_38 ?_
  refine lv_aload_n hx hb d_Z_reach_41 rfl (lv_at hl 0 rfl) ?_
  obtain ⟨k9, hk9⟩ := zpool (t0 := t0) (g := g) (z := (zmk (z_oct z) (z_tk z) (z_ko z) (z_lb z) (z_lo z) (z_mb z) r3.2.1 r3.2.2 (z_lf z) (z_ln z) (z_md z) (z_cE z) (z_aE z) (z_cap z) (z_kl z) (z_LB z) (z_bs z) (z_bz z) (z_kp z) (va_up r3.1 a true))) ha
  refine va_astq (r := (RB, TB, 4)) hx hb hK hP hD hS 4 2 k9 1 rfl rfl hk9 rfl (vp_in_nI (by omega) (by decide)) d_Z_reach_42 (fun H locs hP hD hS => ?_)
  rw [nI_clamp (by omega)] at hP hD
  have hP : va_P D zcl (zW t0 g (zmk (z_oct z) (z_tk z) (z_ko z) (z_lb z) (z_lo z) (z_mb z) (va_up r3.2.1 r3.2.2 (some a)) r3.2.2 (z_lf z) (z_ln z) (z_md z) (z_cE z) (z_aE z) (z_cap z) (z_kl z) (z_LB z) (z_bs z) (z_bz z) (z_kp z) (va_up r3.1 a true))) H := hP
  have hD : va_D A (zW t0 g (zmk (z_oct z) (z_tk z) (z_ko z) (z_lb z) (z_lo z) (z_mb z) (va_up r3.2.1 r3.2.2 (some a)) r3.2.2 (z_lf z) (z_ln z) (z_md z) (z_cE z) (z_aE z) (z_cap z) (z_kl z) (z_LB z) (z_bs z) (z_bz z) (z_kp z) (va_up r3.1 a true))) := hD
  refine lv_aload_n hx hb d_Z_reach_43 rfl (lv_at hl 1 rfl) ?_
  refine lv_dup hx hb d_Z_reach_44 rfl ?_
  refine va_get (D := D) (ci := 0) (v := .int (nI r3.2.2)) (C := RZ) (T := TZ) (N := 11) hx hb hk inZ hown hK hP 0 rfl rfl 8 (by decide) (hk _ zk64) (fun _ h9 => h9) rfl d_Z_reach_45 ?_
  refine lv_iconst (v := nI 1) hx hb d_Z_reach_48 (by decide) ?_
  refine lv_iadd hx hb d_Z_reach_49 ?_
  refine zh_t (show (nI r3.2.2 + nI 1) = nI (r3.2.2 + 1) from nI_add _ _) ?_
  refine va_put (D := D) (ci := 0) (v := .int (nI (r3.2.2 + 1))) (ty := .int) (C := RZ) (T := TZ) (N := 11) hx hb hk inZ tyZ okZ nmZ hown hK hP hD hS 0 rfl rfl 8 (by decide) (hk _ zk64) (fun _ h9 => h9) rfl (by decide +kernel) rfl rfl (Nat.le_of_ble_eq_true rfl) d_Z_reach_50 (fun H locs hP hD hS => ?_)
  have hP : va_P D zcl (zW t0 g (zmk (z_oct z) (z_tk z) (z_ko z) (z_lb z) (z_lo z) (z_mb z) (va_up r3.2.1 r3.2.2 (some a)) (r3.2.2 + 1) (z_lf z) (z_ln z) (z_md z) (z_cE z) (z_aE z) (z_cap z) (z_kl z) (z_LB z) (z_bs z) (z_bz z) (z_kp z) (va_up r3.1 a true))) H := hP
  have hD : va_D A (zW t0 g (zmk (z_oct z) (z_tk z) (z_ko z) (z_lb z) (z_lo z) (z_mb z) (va_up r3.2.1 r3.2.2 (some a)) (r3.2.2 + 1) (z_lf z) (z_ln z) (z_md z) (z_cE z) (z_aE z) (z_cap z) (z_kl z) (z_LB z) (z_bs z) (z_bz z) (z_kp z) (va_up r3.1 a true))) := hD
  exact W.vret hx hb hr (fun t ht hW => ⟨⟨(zmk (z_oct z) (z_tk z) (z_ko z) (z_lb z) (z_lo z) (z_mb z) (va_up r3.2.1 r3.2.2 (some a)) (r3.2.2 + 1) (z_lf z) (z_ln z) (z_md z) (z_cE z) (z_aE z) (z_cap z) (z_kl z) (z_LB z) (z_bs z) (z_bz z) (z_kp z) (va_up r3.1 a true)), rfl, by rw [e7]; rfl, by rw [ht]; exact hP, va_K.moved hW.alike hK, hD⟩, hS.F ht⟩) hS.2.2 d_Z_reach_53
set_option maxHeartbeats 1000000 in
set_option maxRecDepth 100000 in
theorem c_Z_reachFromWordsOf_ok (l : Launch) (D : va_G) (t0 : Nat) (g : ZG) (z : ZT) (sz : Nat) (r3 : T3) (a : Nat) (ha : a ∈ z_LB z) (hz : zOK z) (ht : z3ok z r3) : Met l y_Z_reachFromWordsOf w_Z_reachFromWordsOf ({ frames := 4, cells := 0, slots := 0, locals := 120 }) (zPre D t0 (zT g (z3 z r3)) (zW t0 g (z3 z r3)) sz [.ref (g_h g), .ref a]) (va_Qv (fun u => u = z3 z (zw3 z a r3 (z_bz z a / 4))) (fun (u : ZT) t => zPost D (zT g u) (va_A (zW t0 g (z3 z r3)) sz) (zW t0 g u) t) (va_A (zW t0 g (z3 z r3)) sz)) 0 0 (va_A (zW t0 g (z3 z r3)) sz) := by
  refine Met.ofW (cc := c_Z_reachFromWordsOf) (maxL := 3) (ret := none) (by decide) rfl ?_
  intro p e s m args below meth c s₁ B hml hv
  obtain ⟨rfl, hsz, hP, hK, hD0, hE⟩ := hv
  have hx := B.exec
  have hb := B.bytes
  have hr := B.returns
  have hts := atoms_spec (ws := w_Z_reachFromWordsOf) B.pre
  have hk : ∀ w ∈ zB, w.before _ s = true := fun w h => hts w (List.mem_cons_of_mem _ h)
  have hown : s.vm.findClass "ZoneHeap" = some m.cls := findClass_of_methodNamed B.named
  have hlocks := B.notSynchronized
  subst hsz
  have hD := hD0.self (sz := s.heap.size)
  generalize hAe : va_A (zW t0 g (z3 z r3)) s.heap.size = A at hD hE ⊢
  have hA : ∀ q : Nat, s.heap.size ≤ q → A q := fun q h => by rw [← hAe]; exact Or.inr h
  have hS : va_S A s.heap s.heap [] := va_S.rf
  have hl := lv_entry ([.ref (g_h g), .ref a]) (n := 3) (Nat.le_of_ble_eq_true rfl)
  rw [lg_entry_eq]
  generalize (lg_sl ([.ref (g_h g), .ref a]) ++ List.replicate (3 - (lg_sl ([.ref (g_h g), .ref a])).length) Slot.unset).toArray = ls at hl ⊢
  have hl : lv_has ls 3 [(0, .ref (g_h g)), (1, .ref a)] := hl
  have hbk := hz.blk ha
  refine lv_iconst (v := nI 0) hx hb d_Z_reachFromWordsOf_0 (by decide) ?_
  refine lv_istore_n (lv' := [(2, .int (nI 0)), (0, .ref (g_h g)), (1, .ref a)]) hx hb d_Z_reachFromWordsOf_1 rfl hl (by decide) rfl (fun ls hl => ?_)
  refine zh_loopH (A := Nat) (fun q H locs ls => lv_has ls 3 [(0, .ref (g_h g)), (1, .ref a), (2, .int (nI (4 * q)))] ∧ va_P D zcl (zW t0 g (z3 z (zw3 z a r3 q))) H ∧ va_K D zcl (zT g (z3 z (zw3 z a r3 q))) s ∧ va_D A (zW t0 g (z3 z (zw3 z a r3 q))) ∧ va_S A s.heap H locs ∧ (4 * q ≤ z_bz z a)) (fun q => z_bz z a - q) ?_ 0 ⟨lv_sub hl [1, 2, 0] rfl, hP, hK, hD, hS, Nat.zero_le _⟩
  rintro i H locs ls ⟨hl, hP, hK, hD, hS, hi⟩ ih
  have hl : lv_has ls 3 [(0, .ref (g_h g)), (1, .ref a), (2, .int (nI (4 * i)))] := hl
  have hP : va_P D zcl (zW t0 g (z3 z (zw3 z a r3 i))) H := hP
  have hK : va_K D zcl (zT g (z3 z (zw3 z a r3 i))) s := hK
  have hD : va_D A (zW t0 g (z3 z (zw3 z a r3 i))) := hD
  have hi : 4 * i ≤ z_bz z a := hi
  have hti := ht.words (a := a) hz i
  have hz3 := hz.t3 hti
  refine lv_iload_n hx hb d_Z_reachFromWordsOf_2 rfl (lv_at hl 2 rfl) ?_
  refine lv_iconst (v := nI 4) hx hb d_Z_reachFromWordsOf_3 (by decide) ?_
  refine lv_iadd hx hb d_Z_reachFromWordsOf_4 ?_
  refine zh_t (show (nI (4 * i) + nI 4) = nI ((4 * i) + 4) from nI_add _ _) ?_
  refine lv_aload_n hx hb d_Z_reachFromWordsOf_5 rfl (lv_at hl 1 rfl) ?_
  obtain ⟨k9, hk9⟩ := zpool (t0 := t0) (g := g) (z := (z3 z (zw3 z a r3 i))) (show a ∈ z_LB (z3 z (zw3 z a r3 i)) from ha)
  refine va_getN (D := D) (ci := 1) (v := .int (nI ((z_bz (z3 z (zw3 z a r3 i))) a))) (C := RB) (T := TB) (N := 4) hx hb hk inB hown hK hP k9 hk9 rfl 1 (by decide) (va_Nw.use rfl (hE.1.1 _ zn234)) (fun _ h9 => h9) rfl d_Z_reachFromWordsOf_6 ?_
  refine zh_t (show nI (z_bz (z3 z (zw3 z a r3 i)) a) = nI (z_bz z a) from rfl) ?_
  refine lv_icmp_gt (tgt := 32) hx hb d_Z_reachFromWordsOf_9 (by decide) (fun h => ?_) (fun h => ?_)
  · rw [nI_ltI (by omega) (by omega)] at h
    have hie : i = z_bz z a / 4 := by omega
    rw [hie] at hP hD hK
    exact W.vret hx hb hr (fun t ht hW => ⟨⟨(z3 z (zw3 z a r3 (z_bz z a / 4))), rfl, rfl, by rw [ht]; exact hP, va_K.moved hW.alike hK, hD⟩, hS.F ht⟩) hS.2.2 d_Z_reachFromWordsOf_32
  rw [nI_ltI (by omega) (by omega)] at h
  refine lv_aload_n hx hb d_Z_reachFromWordsOf_12 rfl (lv_at hl 0 rfl) ?_
  refine lv_aload_n hx hb d_Z_reachFromWordsOf_13 rfl (lv_at hl 0 rfl) ?_
  refine lv_aload_n hx hb d_Z_reachFromWordsOf_14 rfl (lv_at hl 1 rfl) ?_
  obtain ⟨k9, hk9⟩ := zpool (t0 := t0) (g := g) (z := (z3 z (zw3 z a r3 i))) (show a ∈ z_LB (z3 z (zw3 z a r3 i)) from ha)
  refine va_getN (D := D) (ci := 1) (v := .int (nI (z_bs (z3 z (zw3 z a r3 i)) a))) (C := RB) (T := TB) (N := 4) hx hb hk inB hown hK hP k9 hk9 rfl 0 (by decide) (va_Nw.use rfl (hE.1.1 _ zn232)) (fun _ h9 => h9) rfl d_Z_reachFromWordsOf_15 ?_
  refine zh_t (show nI (z_bs (z3 z (zw3 z a r3 i)) a) = nI (z_bs z a) from rfl) ?_
  refine lv_iload_n hx hb d_Z_reachFromWordsOf_18 rfl (lv_at hl 2 rfl) ?_
  refine lv_iadd hx hb d_Z_reachFromWordsOf_19 ?_
  refine zh_t (show (nI (z_bs z a) + nI (4 * i)) = nI (z_bs z a + (4 * i)) from nI_add _ _) ?_
  refine vp_callSi (zrV (n := 1) (As := [.int (nI (z_bs z a + (4 * i)))]) (rest := [.ref (g_h g)]) ⟨hx, hb, hml, hown, hk⟩ (c_Z_wordAt_ok l D t0 g (z3 z (zw3 z a r3 i)) H.size (z_bs z a + 4 * i) hz3 (by omega)) zk127 zk129 ks_Z_wordAt zk1 kc_Z_wordAt ⟨rfl, by decide, by decide, by decide⟩ rfl rfl ⟨Nat.le_of_ble_eq_true rfl, Nat.le_of_ble_eq_true rfl⟩ ⟨hP, hK, hD, hS, hA, hE⟩ (va_recv hK hP (ci := 0) (q0 := 0) rfl rfl) rfl hl.1 rfl (Nat.le_of_ble_eq_true rfl) d_Z_reachFromWordsOf_20 ⟨Nat.le_of_ble_eq_true rfl, Nat.le_of_ble_eq_true rfl⟩).run (fun r hr1 => ?_)
  subst hr1
  refine zh_t (y := nI (zwd (z_oct z) (z_bs z a + 4 * i))) rfl ?_
  refine zcv (zrV (n := 1) (As := [.int (nI (zwd (z_oct z) (z_bs z a + 4 * i)))]) (rest := []) ⟨hx, hb, hml, hown, hk⟩ (c_Z_reach_ok l D t0 g z H.size (zw3 z a r3 i) (nI (zwd (z_oct z) (z_bs z a + 4 * i))) hz hti) zk99 zk101 ks_Z_reach zk1 kc_Z_reach ⟨rfl, by decide, by decide, by decide⟩ rfl rfl ⟨Nat.le_of_ble_eq_true rfl, Nat.le_of_ble_eq_true rfl⟩ ⟨hP, hK, hD, hS, hA, hE⟩ (va_recv hK hP (ci := 0) (q0 := 0) rfl rfl) rfl hl.1 rfl (Nat.le_of_ble_eq_true rfl) d_Z_reachFromWordsOf_23 ⟨Nat.le_of_ble_eq_true rfl, Nat.le_of_ble_eq_true rfl⟩) ⟨hP, hK, hD, hS, hA, hE⟩ (fun u H locs hu hP hK hD hS => ?_)
  subst hu
  have hP : va_P D zcl (zW t0 g (z3 z (zw3 z a r3 (i + 1)))) H := hP
  have hK : va_K D zcl (zT g (z3 z (zw3 z a r3 (i + 1)))) s := hK
  have hD : va_D A (zW t0 g (z3 z (zw3 z a r3 (i + 1)))) := hD
  refine lv_iinc (lv' := [(2, .int (nI ((4 * i) + 4))), (0, .ref (g_h g)), (1, .ref a)]) (v := nI ((4 * i) + 4)) hx hb d_Z_reachFromWordsOf_26 hl (k := 2) rfl (nI_add _ _) (by decide) rfl (fun ls hl => ?_)
  have hl : lv_has ls 3 [(2, .int (nI (4 * (i + 1)))), (0, .ref (g_h g)), (1, .ref a)] := by rw [show 4 * (i + 1) = 4 * i + 4 by omega]; exact hl
  refine lv_goto (tgt := 2) hx hb d_Z_reachFromWordsOf_29 (by decide) ?_
  exact ih (i + 1) H locs ls ⟨lv_sub hl [1, 2, 0] rfl, hP, hK, hD, hS, by omega⟩ (by show _ < _; (try dsimp only); omega)
set_option maxHeartbeats 1000000 in
set_option maxRecDepth 100000 in
theorem c_Z_noteLost_ok (l : Launch) (D : va_G) (t0 : Nat) (g : ZG) (z : ZT) (sz : Nat) (hz : zOK z) : Met l y_Z_noteLost w_Z_noteLost ({ frames := 2, cells := 0, slots := 0, locals := 60 }) (zPre D t0 (zT g z) (zW t0 g z) sz [.ref (g_h g)]) (va_Qv (fun u => u = zq_note z 512) (fun (u : ZT) t => zPost D (zT g u) (va_A (zW t0 g z) sz) (zW t0 g u) t) (va_A (zW t0 g z) sz)) 0 0 (va_A (zW t0 g z) sz) := by
  refine Met.ofW (cc := c_Z_noteLost) (maxL := 3) (ret := none) (by decide) rfl ?_
  intro p e s m args below meth c s₁ B hml hv
  obtain ⟨rfl, hsz, hP, hK, hD0, hE⟩ := hv
  have hx := B.exec
  have hb := B.bytes
  have hr := B.returns
  have hts := atoms_spec (ws := w_Z_noteLost) B.pre
  have hk : ∀ w ∈ zB, w.before _ s = true := fun w h => hts w (List.mem_cons_of_mem _ h)
  have hown : s.vm.findClass "ZoneHeap" = some m.cls := findClass_of_methodNamed B.named
  have hlocks := B.notSynchronized
  subst hsz
  have hD := hD0.self (sz := s.heap.size)
  generalize hAe : va_A (zW t0 g z) s.heap.size = A at hD hE ⊢
  have hA : ∀ q : Nat, s.heap.size ≤ q → A q := fun q h => by rw [← hAe]; exact Or.inr h
  have hS : va_S A s.heap s.heap [] := va_S.rf
  have hl := lv_entry ([.ref (g_h g)]) (n := 3) (Nat.le_of_ble_eq_true rfl)
  rw [lg_entry_eq]
  generalize (lg_sl ([.ref (g_h g)]) ++ List.replicate (3 - (lg_sl ([.ref (g_h g)])).length) Slot.unset).toArray = ls at hl ⊢
  have hl : lv_has ls 3 [(0, .ref (g_h g))] := hl
  refine lv_aload_n hx hb d_Z_noteLost_0 rfl (lv_at hl 0 rfl) ?_
  refine lv_iconst (v := nI 0) hx hb d_Z_noteLost_1 (by decide) ?_
  refine va_put (D := D) (ci := 0) (v := .int (nI 0)) (ty := .int) (C := RZ) (T := TZ) (N := 11) hx hb hk inZ tyZ okZ nmZ hown hK hP hD hS 0 rfl rfl 10 (by decide) (hk _ zk66) (fun _ h9 => h9) rfl (by decide +kernel) rfl rfl (Nat.le_of_ble_eq_true rfl) d_Z_noteLost_2 (fun H locs hP hD hS => ?_)
  have hP : va_P D zcl (zW t0 g (zmk (z_oct z) (z_tk z) (z_ko z) (z_lb z) (z_lo z) (z_mb z) (z_rb z) (z_rn z) (z_lf z) 0 (z_md z) (z_cE z) (z_aE z) (z_cap z) (z_kl z) (z_LB z) (z_bs z) (z_bz z) (z_kp z) (z_rc z))) H := hP
  have hD : va_D A (zW t0 g (zmk (z_oct z) (z_tk z) (z_ko z) (z_lb z) (z_lo z) (z_mb z) (z_rb z) (z_rn z) (z_lf z) 0 (z_md z) (z_cE z) (z_aE z) (z_cap z) (z_kl z) (z_LB z) (z_bs z) (z_bz z) (z_kp z) (z_rc z))) := hD
  refine lv_iconst (v := nI 0) hx hb d_Z_noteLost_5 (by decide) ?_
  refine lv_istore_n (lv' := [(1, .int (nI 0)), (0, .ref (g_h g))]) hx hb d_Z_noteLost_6 rfl hl (by decide) rfl (fun ls hl => ?_)
  have hnl : ∀ c : Nat, (zq_nl z c).1 ≤ 255 := zq_nl_le
  refine zh_loopH (A := Nat) (fun q H locs ls => lv_has ls 3 [(0, .ref (g_h g)), (1, .int (nI q))] ∧ va_P D zcl (zW t0 g (zq_note z q)) H ∧ va_K D zcl (zT g (zq_note z q)) s ∧ va_D A (zW t0 g (zq_note z q)) ∧ va_S A s.heap H locs ∧ (q ≤ 512)) (fun q => 512 - q) ?_ 0 ⟨lv_sub hl [1, 0] rfl, hP, hK, hD, hS, Nat.zero_le _⟩
  rintro i H locs ls ⟨hl, hP, hK, hD, hS, hi⟩ ih
  have hl : lv_has ls 3 [(0, .ref (g_h g)), (1, .int (nI i))] := hl
  have hP : va_P D zcl (zW t0 g (zq_note z i)) H := hP
  have hK : va_K D zcl (zT g (zq_note z i)) s := hK
  have hD : va_D A (zW t0 g (zq_note z i)) := hD
  have hi : i ≤ 512 := hi
  have hz9 : zOK (zq_note z i) := ⟨hz.1, hz.2.1, hz.2.2.1, hz.2.2.2.1, hz.2.2.2.2.1, hnl i, hz.2.2.2.2.2.2⟩
  refine lv_iload_n hx hb d_Z_noteLost_7 rfl (lv_at hl 1 rfl) ?_
  refine lv_sipush (v := nI 512) hx hb d_Z_noteLost_8 (by decide) ?_
  refine lv_icmp_ge (tgt := 80) hx hb d_Z_noteLost_11 (by decide) (fun h => ?_) (fun h => ?_)
  · rw [nI_leI (by omega) (by omega)] at h
    have hie : i = 512 := by omega
    rw [hie] at hP hD hK
    exact W.vret hx hb hr (fun t ht hW => ⟨⟨(zq_note z 512), rfl, rfl, by rw [ht]; exact hP, va_K.moved hW.alike hK, hD⟩, hS.F ht⟩) hS.2.2 d_Z_noteLost_80
  rw [nI_leI (by omega) (by omega)] at h
  refine lv_aload_n hx hb d_Z_noteLost_14 rfl (lv_at hl 0 rfl) ?_
  refine lv_iload_n hx hb d_Z_noteLost_15 rfl (lv_at hl 1 rfl) ?_
  refine lv_bipush (v := nI 16) hx hb d_Z_noteLost_16 (by decide) ?_
  refine lv_imul hx hb d_Z_noteLost_18 ?_
  refine zh_t (show (nI i * nI 16) = nI (i * 16) from pk_mul _ _) ?_
  refine va_csq (zrV (n := 1) (As := [.int (nI (i * 16))]) (rest := []) ⟨hx, hb, hml, hown, hk⟩ (c_Z_standingAt_ok l D t0 g (zq_note z i) H.size (nI (i * 16)) hz9) zk107 zk109 ks_Z_standingAt zk1 kc_Z_standingAt ⟨rfl, by decide, by decide, by decide⟩ rfl rfl ⟨Nat.le_of_ble_eq_true rfl, Nat.le_of_ble_eq_true rfl⟩ ⟨hP, hK, hD, hS, hA, hE⟩ (va_recv hK hP (ci := 0) (q0 := 0) rfl rfl) rfl hl.1 rfl (Nat.le_of_ble_eq_true rfl) d_Z_noteLost_19 ⟨Nat.le_of_ble_eq_true rfl, Nat.le_of_ble_eq_true rfl⟩).run (fun r hr1 => ?_)
  have hr1 : r = zq_st z (nI (16 * i)) := by rw [hr1, Nat.mul_comm]; rfl
  rcases zopt (r) with hro | ⟨a, hro⟩
  · refine zh_v (show va_rf (r) = .null from by rw [hro]; rfl) ?_
    refine lv_astore_nN (lv' := [(2, .null), (0, .ref (g_h g)), (1, .int (nI i))]) hx hb d_Z_noteLost_22 rfl hl (by decide) rfl (fun ls hl => ?_)
    refine lv_aload_nN hx hb d_Z_noteLost_23 rfl (lv_at hl 0 rfl) ?_
    refine lv_ifnullN (tgt := 74) hx hb d_Z_noteLost_24 (by decide) ?_
    have hst : zq_st z (nI (16 * i)) = none := by rw [← hr1, hro]
    have e6 : zq_nl z (i + 1) = zq_nl z i := by show (if zq_lostP z i = true ∧ (zq_nl z i).1 < 255 then _ else _) = _; rw [if_neg (by unfold zq_lostP; rw [hst]; rintro ⟨q, -⟩; cases q)]
    have e5 : zq_note z (i + 1) = (zq_note z i) := by unfold zq_note; rw [e6]
    refine lv_iinc (lv' := [(1, .int (nI (i + 1))), (2, .null), (0, .ref (g_h g))]) (v := nI (i + 1)) hx hb d_Z_noteLost_74 hl (k := 2) rfl (nI_add _ _) (by decide) rfl (fun ls hl => ?_)
    refine lv_goto (tgt := 7) hx hb d_Z_noteLost_77 (by decide) ?_
    rw [← e5] at hP hK hD
    exact ih (i + 1) H locs ls ⟨lv_sub hl [2, 0] rfl, hP, hK, hD, hS, by omega⟩ (by show _ < _; (try dsimp only); omega)
  refine zh_v (show va_rf (r) = .ref a from by rw [hro]; rfl) ?_
  have hst : zq_st z (nI (16 * i)) = some a := by rw [← hr1, hro]
  have ha : a ∈ z_LB z := zq_st_in hz hst
  have hbs : z_bs z a = 16 * i := by obtain ⟨x, q1, q2, -, q4⟩ := zq_st_of hst; have := (nI_eq (by omega) (by omega)).mp q2; omega
  have hlp : zq_lostP z i = (!z_kp z a && !z_rc z a) := by unfold zq_lostP; rw [hst]
  have hP : va_P D zcl (zW t0 g (zmk (z_oct z) (z_tk z) (z_ko z) (z_lb z) (z_lo z) (z_mb z) (z_rb z) (z_rn z) ((zq_nl z i).2) ((zq_nl z i).1) (z_md z) (z_cE z) (z_aE z) (z_cap z) (z_kl z) (z_LB z) (z_bs z) (z_bz z) (z_kp z) (z_rc z))) H := hP
  have hD : va_D A (zW t0 g (zmk (z_oct z) (z_tk z) (z_ko z) (z_lb z) (z_lo z) (z_mb z) (z_rb z) (z_rn z) ((zq_nl z i).2) ((zq_nl z i).1) (z_md z) (z_cE z) (z_aE z) (z_cap z) (z_kl z) (z_LB z) (z_bs z) (z_bz z) (z_kp z) (z_rc z))) := hD
  have hK : va_K D zcl (zT g (zmk (z_oct z) (z_tk z) (z_ko z) (z_lb z) (z_lo z) (z_mb z) (z_rb z) (z_rn z) ((zq_nl z i).2) ((zq_nl z i).1) (z_md z) (z_cE z) (z_aE z) (z_cap z) (z_kl z) (z_LB z) (z_bs z) (z_bz z) (z_kp z) (z_rc z))) s := hK
  have hn9 := hnl i
  refine lv_astore_n (lv' := [(2, .ref a), (0, .ref (g_h g)), (1, .int (nI i))]) hx hb d_Z_noteLost_22 rfl hl (by decide) rfl (fun ls hl => ?_)
  refine lv_aload_n hx hb d_Z_noteLost_23 rfl (lv_at hl 0 rfl) ?_
  refine lv_ifnull hx hb d_Z_noteLost_24 ?_
  refine lv_aload_n hx hb d_Z_noteLost_27 rfl (lv_at hl 0 rfl) ?_
  obtain ⟨k9, hk9⟩ := zpool (t0 := t0) (g := g) (z := (zmk (z_oct z) (z_tk z) (z_ko z) (z_lb z) (z_lo z) (z_mb z) (z_rb z) (z_rn z) ((zq_nl z i).2) ((zq_nl z i).1) (z_md z) (z_cE z) (z_aE z) (z_cap z) (z_kl z) (z_LB z) (z_bs z) (z_bz z) (z_kp z) (z_rc z))) ha
  refine va_getN (D := D) (ci := 1) (v := .int (zb (z_kp z a))) (C := RB) (T := TB) (N := 4) hx hb hk inB hown hK hP k9 hk9 rfl 2 (by decide) (va_Nw.use rfl (hE.1.1 _ zn236)) (fun _ h9 => h9) rfl d_Z_noteLost_28 ?_
  refine lv_if_ne (tgt := 74) hx hb d_Z_noteLost_31 (by decide) (fun h => ?_) (fun h => ?_)
  · rw [zh_zb] at h
    have h := ts_nf h
    have e6 : zq_nl z (i + 1) = zq_nl z i := by show (if zq_lostP z i = true ∧ (zq_nl z i).1 < 255 then _ else _) = _; rw [if_neg (by rw [hlp, h]; rintro ⟨q, -⟩; cases q)]
    have e5 : zq_note z (i + 1) = (zmk (z_oct z) (z_tk z) (z_ko z) (z_lb z) (z_lo z) (z_mb z) (z_rb z) (z_rn z) ((zq_nl z i).2) ((zq_nl z i).1) (z_md z) (z_cE z) (z_aE z) (z_cap z) (z_kl z) (z_LB z) (z_bs z) (z_bz z) (z_kp z) (z_rc z)) := by unfold zq_note; rw [e6]
    refine lv_iinc (lv' := [(1, .int (nI (i + 1))), (2, .ref a), (0, .ref (g_h g))]) (v := nI (i + 1)) hx hb d_Z_noteLost_74 hl (k := 2) rfl (nI_add _ _) (by decide) rfl (fun ls hl => ?_)
    refine lv_goto (tgt := 7) hx hb d_Z_noteLost_77 (by decide) ?_
    rw [← e5] at hP hK hD
    exact ih (i + 1) H locs ls ⟨lv_sub hl [2, 0] rfl, hP, hK, hD, hS, by omega⟩ (by show _ < _; (try dsimp only); omega)
  rw [zh_zb] at h
  have hkp := h
  refine lv_aload_n hx hb d_Z_noteLost_34 rfl (lv_at hl 0 rfl) ?_
  obtain ⟨k9, hk9⟩ := zpool (t0 := t0) (g := g) (z := (zmk (z_oct z) (z_tk z) (z_ko z) (z_lb z) (z_lo z) (z_mb z) (z_rb z) (z_rn z) ((zq_nl z i).2) ((zq_nl z i).1) (z_md z) (z_cE z) (z_aE z) (z_cap z) (z_kl z) (z_LB z) (z_bs z) (z_bz z) (z_kp z) (z_rc z))) ha
  refine va_getN (D := D) (ci := 1) (v := .int (zb (z_rc z a))) (C := RB) (T := TB) (N := 4) hx hb hk inB hown hK hP k9 hk9 rfl 3 (by decide) (va_Nw.use rfl (hE.1.1 _ zn238)) (fun _ h9 => h9) rfl d_Z_noteLost_35 ?_
  refine lv_if_ne (tgt := 74) hx hb d_Z_noteLost_38 (by decide) (fun h => ?_) (fun h => ?_)
  · rw [zh_zb] at h
    have h := ts_nf h
    have e6 : zq_nl z (i + 1) = zq_nl z i := by show (if zq_lostP z i = true ∧ (zq_nl z i).1 < 255 then _ else _) = _; rw [if_neg (by rw [hlp, h]; rintro ⟨q, -⟩; rw [Bool.and_eq_true] at q; cases q.2)]
    have e5 : zq_note z (i + 1) = (zmk (z_oct z) (z_tk z) (z_ko z) (z_lb z) (z_lo z) (z_mb z) (z_rb z) (z_rn z) ((zq_nl z i).2) ((zq_nl z i).1) (z_md z) (z_cE z) (z_aE z) (z_cap z) (z_kl z) (z_LB z) (z_bs z) (z_bz z) (z_kp z) (z_rc z)) := by unfold zq_note; rw [e6]
    refine lv_iinc (lv' := [(1, .int (nI (i + 1))), (2, .ref a), (0, .ref (g_h g))]) (v := nI (i + 1)) hx hb d_Z_noteLost_74 hl (k := 2) rfl (nI_add _ _) (by decide) rfl (fun ls hl => ?_)
    refine lv_goto (tgt := 7) hx hb d_Z_noteLost_77 (by decide) ?_
    rw [← e5] at hP hK hD
    exact ih (i + 1) H locs ls ⟨lv_sub hl [2, 0] rfl, hP, hK, hD, hS, by omega⟩ (by show _ < _; (try dsimp only); omega)
  rw [zh_zb] at h
  have hrc := h
  refine lv_aload_n hx hb d_Z_noteLost_41 rfl (lv_at hl 1 rfl) ?_
  refine va_get (D := D) (ci := 0) (v := .int (nI ((zq_nl z i).1))) (C := RZ) (T := TZ) (N := 11) hx hb hk inZ hown hK hP 0 rfl rfl 10 (by decide) (hk _ zk66) (fun _ h9 => h9) rfl d_Z_noteLost_42 ?_
  refine lv_sipush (v := nI 255) hx hb d_Z_noteLost_45 (by decide) ?_
  refine lv_icmp_ge (tgt := 74) hx hb d_Z_noteLost_48 (by decide) (fun h => ?_) (fun h => ?_)
  · rw [nI_leI (by omega) (by omega)] at h
    have e6 : zq_nl z (i + 1) = zq_nl z i := by show (if zq_lostP z i = true ∧ (zq_nl z i).1 < 255 then _ else _) = _; rw [if_neg (by omega)]
    have e5 : zq_note z (i + 1) = (zmk (z_oct z) (z_tk z) (z_ko z) (z_lb z) (z_lo z) (z_mb z) (z_rb z) (z_rn z) ((zq_nl z i).2) ((zq_nl z i).1) (z_md z) (z_cE z) (z_aE z) (z_cap z) (z_kl z) (z_LB z) (z_bs z) (z_bz z) (z_kp z) (z_rc z)) := by unfold zq_note; rw [e6]
    refine lv_iinc (lv' := [(1, .int (nI (i + 1))), (2, .ref a), (0, .ref (g_h g))]) (v := nI (i + 1)) hx hb d_Z_noteLost_74 hl (k := 2) rfl (nI_add _ _) (by decide) rfl (fun ls hl => ?_)
    refine lv_goto (tgt := 7) hx hb d_Z_noteLost_77 (by decide) ?_
    rw [← e5] at hP hK hD
    exact ih (i + 1) H locs ls ⟨lv_sub hl [2, 0] rfl, hP, hK, hD, hS, by omega⟩ (by show _ < _; (try dsimp only); omega)
  rw [nI_leI (by omega) (by omega)] at h
  have e6 : zq_nl z (i + 1) = ((zq_nl z i).1 + 1, va_up (zq_nl z i).2 (zq_nl z i).1 (16 * i)) := by show (if zq_lostP z i = true ∧ (zq_nl z i).1 < 255 then _ else _) = _; rw [if_pos ⟨by rw [hlp, hkp, hrc]; rfl, by omega⟩]
  refine lv_aload_n hx hb d_Z_noteLost_51 rfl (lv_at hl 1 rfl) ?_
  refine va_get (D := D) (ci := 0) (v := .ref (g_aL g)) (C := RZ) (T := TZ) (N := 11) hx hb hk inZ hown hK hP 0 rfl rfl 9 (by decide) (hk _ zk65) (fun _ h9 => h9) rfl d_Z_noteLost_52 ?_
  refine lv_aload_n hx hb d_Z_noteLost_55 rfl (lv_at hl 1 rfl) ?_
  refine va_get (D := D) (ci := 0) (v := .int (nI ((zq_nl z i).1))) (C := RZ) (T := TZ) (N := 11) hx hb hk inZ hown hK hP 0 rfl rfl 10 (by decide) (hk _ zk66) (fun _ h9 => h9) rfl d_Z_noteLost_56 ?_
  refine lv_aload_n hx hb d_Z_noteLost_59 rfl (lv_at hl 0 rfl) ?_
  obtain ⟨k9, hk9⟩ := zpool (t0 := t0) (g := g) (z := (zmk (z_oct z) (z_tk z) (z_ko z) (z_lb z) (z_lo z) (z_mb z) (z_rb z) (z_rn z) ((zq_nl z i).2) ((zq_nl z i).1) (z_md z) (z_cE z) (z_aE z) (z_cap z) (z_kl z) (z_LB z) (z_bs z) (z_bz z) (z_kp z) (z_rc z))) ha
  refine va_getN (D := D) (ci := 1) (v := .int (nI (z_bs z a))) (C := RB) (T := TB) (N := 4) hx hb hk inB hown hK hP k9 hk9 rfl 0 (by decide) (va_Nw.use rfl (hE.1.1 _ zn232)) (fun _ h9 => h9) rfl d_Z_noteLost_60 ?_
  refine zh_t (show nI (z_bs z a) = nI (16 * i) from by rw [hbs]) ?_
  refine va_iast hx hb hK hP hD hS 5 3 rfl rfl (vp_in_nI (by omega) (by decide)) d_Z_noteLost_63 (fun H locs hP hD hS => ?_)
  rw [zh_upd (by omega)] at hP hD
  have hP : va_P D zcl (zW t0 g (zmk (z_oct z) (z_tk z) (z_ko z) (z_lb z) (z_lo z) (z_mb z) (z_rb z) (z_rn z) (va_up ((zq_nl z i).2) ((zq_nl z i).1) (16 * i)) ((zq_nl z i).1) (z_md z) (z_cE z) (z_aE z) (z_cap z) (z_kl z) (z_LB z) (z_bs z) (z_bz z) (z_kp z) (z_rc z))) H := hP
  have hD : va_D A (zW t0 g (zmk (z_oct z) (z_tk z) (z_ko z) (z_lb z) (z_lo z) (z_mb z) (z_rb z) (z_rn z) (va_up ((zq_nl z i).2) ((zq_nl z i).1) (16 * i)) ((zq_nl z i).1) (z_md z) (z_cE z) (z_aE z) (z_cap z) (z_kl z) (z_LB z) (z_bs z) (z_bz z) (z_kp z) (z_rc z))) := hD
  refine lv_aload_n hx hb d_Z_noteLost_64 rfl (lv_at hl 1 rfl) ?_
  refine lv_dup hx hb d_Z_noteLost_65 rfl ?_
  refine va_get (D := D) (ci := 0) (v := .int (nI ((zq_nl z i).1))) (C := RZ) (T := TZ) (N := 11) hx hb hk inZ hown hK hP 0 rfl rfl 10 (by decide) (hk _ zk66) (fun _ h9 => h9) rfl d_Z_noteLost_66 ?_
  refine lv_iconst (v := nI 1) hx hb d_Z_noteLost_69 (by decide) ?_
  refine lv_iadd hx hb d_Z_noteLost_70 ?_
  refine zh_t (show (nI ((zq_nl z i).1) + nI 1) = nI ((zq_nl z i).1 + 1) from nI_add _ _) ?_
  refine va_put (D := D) (ci := 0) (v := .int (nI ((zq_nl z i).1 + 1))) (ty := .int) (C := RZ) (T := TZ) (N := 11) hx hb hk inZ tyZ okZ nmZ hown hK hP hD hS 0 rfl rfl 10 (by decide) (hk _ zk66) (fun _ h9 => h9) rfl (by decide +kernel) rfl rfl (Nat.le_of_ble_eq_true rfl) d_Z_noteLost_71 (fun H locs hP hD hS => ?_)
  have hP : va_P D zcl (zW t0 g (zmk (z_oct z) (z_tk z) (z_ko z) (z_lb z) (z_lo z) (z_mb z) (z_rb z) (z_rn z) (va_up ((zq_nl z i).2) ((zq_nl z i).1) (16 * i)) ((zq_nl z i).1 + 1) (z_md z) (z_cE z) (z_aE z) (z_cap z) (z_kl z) (z_LB z) (z_bs z) (z_bz z) (z_kp z) (z_rc z))) H := hP
  have hD : va_D A (zW t0 g (zmk (z_oct z) (z_tk z) (z_ko z) (z_lb z) (z_lo z) (z_mb z) (z_rb z) (z_rn z) (va_up ((zq_nl z i).2) ((zq_nl z i).1) (16 * i)) ((zq_nl z i).1 + 1) (z_md z) (z_cE z) (z_aE z) (z_cap z) (z_kl z) (z_LB z) (z_bs z) (z_bz z) (z_kp z) (z_rc z))) := hD
  refine lv_iinc (lv' := [(1, .int (nI (i + 1))), (2, .ref a), (0, .ref (g_h g))]) (v := nI (i + 1)) hx hb d_Z_noteLost_74 hl (k := 2) rfl (nI_add _ _) (by decide) rfl (fun ls hl => ?_)
  refine lv_goto (tgt := 7) hx hb d_Z_noteLost_77 (by decide) ?_
  have e5 : zq_note z (i + 1) = (zmk (z_oct z) (z_tk z) (z_ko z) (z_lb z) (z_lo z) (z_mb z) (z_rb z) (z_rn z) (va_up ((zq_nl z i).2) ((zq_nl z i).1) (16 * i)) ((zq_nl z i).1 + 1) (z_md z) (z_cE z) (z_aE z) (z_cap z) (z_kl z) (z_LB z) (z_bs z) (z_bz z) (z_kp z) (z_rc z)) := by unfold zq_note; rw [e6]
  rw [← e5] at hP hD
  have hK : va_K D zcl (zT g (zq_note z (i + 1))) s := hK
  exact ih (i + 1) H locs ls ⟨lv_sub hl [2, 0] rfl, hP, hK, hD, hS, by omega⟩ (by show _ < _; (try dsimp only); omega)
