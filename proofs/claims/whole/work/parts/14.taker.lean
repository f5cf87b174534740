set_option maxHeartbeats 1000000 in
set_option maxRecDepth 100000 in
theorem c_Z_setTaker_some (l : Launch) (D : va_G) (t0 : Nat) (g : ZG) (z : ZT) (sz : Nat) (b fc d : Nat) (t : Nat) (ht : t ∈ z_LB z) (hb0 : b ∈ z_LB z) (h1 : z_bs z b = 16 * fc) (h2 : d = zc (z_bz z b)) (h3 : fc + d ≤ 511) (h4 : z_bz z b ≤ 2048) : Met l y_Z_setTaker w_Z_setTaker ({ frames := 2, cells := 0, slots := 0, locals := 80 }) (zPre D t0 (zT g z) (zW t0 g z) sz [.ref (g_h g), .ref b, .ref t]) (va_Qv (fun u => u = zu_tk z (zt_set (z_tk z) fc d (some t))) (fun (u : ZT) t => zPost D (zT g u) (va_A (zW t0 g z) sz) (zW t0 g u) t) (va_A (zW t0 g z) sz)) 0 0 (va_A (zW t0 g z) sz) := by
  refine Met.ofW (cc := c_Z_setTaker) (maxL := 6) (ret := none) (by decide) rfl ?_
  intro p e s m args below meth c s₁ B hml hv
  obtain ⟨rfl, hsz, hP, hK, hD0, hE⟩ := hv
  have hx := B.exec
  have hb := B.bytes
  have hr := B.returns
  have hts := atoms_spec (ws := w_Z_setTaker) B.pre
  have hk : ∀ w ∈ zB, w.before _ s = true := fun w h => hts w (List.mem_cons_of_mem _ h)
  have hown : s.vm.findClass "ZoneHeap" = some m.cls := findClass_of_methodNamed B.named
  have hlocks := B.notSynchronized
  subst hsz
  have hD := hD0.self (sz := s.heap.size)
  generalize hAe : va_A (zW t0 g z) s.heap.size = A at hD hE ⊢
  have hA : ∀ q : Nat, s.heap.size ≤ q → A q := fun q h => by rw [← hAe]; exact Or.inr h
  have hS : va_S A s.heap s.heap [] := va_S.rf
  have hl := lv_entry ([.ref (g_h g), .ref b, .ref t]) (n := 6) (Nat.le_of_ble_eq_true rfl)
  rw [lg_entry_eq]
  generalize (lg_sl ([.ref (g_h g), .ref b, .ref t]) ++ List.replicate (6 - (lg_sl ([.ref (g_h g), .ref b, .ref t])).length) Slot.unset).toArray = ls at hl ⊢
  have hl : lv_has ls 6 [(0, .ref (g_h g)), (1, .ref b), (2, .ref t)] := hl
  refine lv_aload_n hx hb d_Z_setTaker_0 rfl (lv_at hl 1 rfl) ?_
  obtain ⟨k9, hk9⟩ := zpool (t0 := t0) (g := g) (z := z) hb0
  refine va_getN (D := D) (ci := 1) (v := .int (nI (z_bs z b))) (C := RB) (T := TB) (N := 4) hx hb hk inB hown hK hP k9 hk9 rfl 0 (by decide) (va_Nw.use rfl (hE.1.1 _ zn232)) (fun _ h9 => h9) rfl d_Z_setTaker_1 ?_
  refine zh_t (show nI (z_bs z b) = nI (16 * fc) from by rw [h1]) ?_
  refine lv_bipush (v := nI 16) hx hb d_Z_setTaker_4 (by decide) ?_
  refine lv_idiv hx hb d_Z_setTaker_6 (by decide) ?_
  refine zh_t (show (nI (16 * fc) / nI 16) = nI ((16 * fc) / 16) from pk_div (by omega) (by decide) (by decide)) ?_
  refine zh_t (show nI ((16 * fc) / 16) = nI fc from congrArg nI (by omega)) ?_
  refine lv_istore_n (lv' := [(3, .int (nI fc)), (0, .ref (g_h g)), (1, .ref b), (2, .ref t)]) hx hb d_Z_setTaker_7 rfl hl (by decide) rfl (fun ls hl => ?_)
  refine lv_iload_n hx hb d_Z_setTaker_8 rfl (lv_at hl 0 rfl) ?_
  refine lv_aload_n hx hb d_Z_setTaker_9 rfl (lv_at hl 2 rfl) ?_
  obtain ⟨k9, hk9⟩ := zpool (t0 := t0) (g := g) (z := z) hb0
  refine va_getN (D := D) (ci := 1) (v := .int (nI (z_bz z b))) (C := RB) (T := TB) (N := 4) hx hb hk inB hown hK hP k9 hk9 rfl 1 (by decide) (va_Nw.use rfl (hE.1.1 _ zn234)) (fun _ h9 => h9) rfl d_Z_setTaker_10 ?_
  refine vp_callSi (zrS (n := 1) (As := [.int (nI (z_bz z b))]) (rest := [.int (nI fc)]) ⟨hx, hb, hml, hown, hk⟩ (c_Z_cellsFor_ok l D t0 (zT g z) (zW t0 g z) s.heap.size (z_bz z b) h4) zk217 zk218 zk1 kc_Z_cellsFor ⟨by decide, by decide, by decide⟩ rfl rfl ⟨Nat.le_of_ble_eq_true rfl, Nat.le_of_ble_eq_true rfl⟩ ⟨hP, hK, hD, hS, hA, hE⟩ rfl hl.1 rfl (Nat.le_of_ble_eq_true rfl) d_Z_setTaker_13 ⟨Nat.le_of_ble_eq_true rfl, Nat.le_of_ble_eq_true rfl⟩).run (fun r hr1 => ?_)
  rw [← h2] at hr1
  subst hr1
  refine lv_iadd hx hb d_Z_setTaker_16 ?_
  refine zh_t (show (nI fc + nI d) = nI (fc + d) from nI_add _ _) ?_
  refine lv_istore (lv' := [(4, .int (nI (fc + d))), (3, .int (nI fc)), (0, .ref (g_h g)), (1, .ref b), (2, .ref t)]) hx hb d_Z_setTaker_17 hl (by decide) rfl (fun ls hl => ?_)
  refine lv_iload_n hx hb d_Z_setTaker_19 rfl (lv_at hl 1 rfl) ?_
  refine lv_istore (lv' := [(5, .int (nI fc)), (4, .int (nI (fc + d))), (3, .int (nI fc)), (0, .ref (g_h g)), (1, .ref b), (2, .ref t)]) hx hb d_Z_setTaker_20 hl (by decide) rfl (fun ls hl => ?_)
  refine zh_loopH (A := Nat) (fun q H locs ls => lv_has ls 6 [(0, .ref (g_h g)), (2, .ref t), (4, .int (nI (fc + d))), (5, .int (nI (fc + q)))] ∧ va_P D zcl (zW t0 g (zu_tk z (zt_set (z_tk z) fc q (some t)))) H ∧ va_K D zcl (zT g (zu_tk z (zt_set (z_tk z) fc q (some t)))) s ∧ va_D A (zW t0 g (zu_tk z (zt_set (z_tk z) fc q (some t)))) ∧ va_S A s.heap H locs ∧ (q ≤ d)) (fun q => d - q) ?_ 0 ⟨lv_sub hl [3, 5, 1, 0] rfl, by rw [zt_set_0]; exact hP, hK, by rw [zt_set_0]; exact hD, hS, Nat.zero_le _⟩
  rintro j H locs ls ⟨hl, hP, hK, hD, hS, hj⟩ ih
  have hl : lv_has ls 6 [(0, .ref (g_h g)), (2, .ref t), (4, .int (nI (fc + d))), (5, .int (nI (fc + j)))] := hl
  have hP : va_P D zcl (zW t0 g (zu_tk z (zt_set (z_tk z) fc j (some t)))) H := hP
  have hK : va_K D zcl (zT g (zu_tk z (zt_set (z_tk z) fc j (some t)))) s := hK
  have hD : va_D A (zW t0 g (zu_tk z (zt_set (z_tk z) fc j (some t)))) := hD
  have hj : j ≤ d := hj
  refine lv_iload hx hb d_Z_setTaker_22 (lv_at hl 3 rfl) ?_
  refine lv_iload hx hb d_Z_setTaker_24 (lv_at hl 2 rfl) ?_
  refine lv_icmp_ge (tgt := 51) hx hb d_Z_setTaker_26 (by decide) (fun h => ?_) (fun h => ?_)
  · rw [nI_leI (by omega) (by omega)] at h
    have hjd : j = d := by omega
    subst hjd
    exact W.vret hx hb hr (fun t ht hW => ⟨⟨_, rfl, rfl, by rw [ht]; exact hP, va_K.moved hW.alike hK, hD⟩, hS.F ht⟩) hS.2.2 d_Z_setTaker_51
  rw [nI_leI (by omega) (by omega)] at h
  refine lv_iload hx hb d_Z_setTaker_29 (lv_at hl 3 rfl) ?_
  refine lv_sipush (v := nI 512) hx hb d_Z_setTaker_31 (by decide) ?_
  refine lv_icmp_ge (tgt := 51) hx hb d_Z_setTaker_34 (by decide) (fun h => ?_) (fun h => ?_)
  · rw [nI_leI (by omega) (by omega)] at h
    exact absurd h (by omega)
  rw [nI_leI (by omega) (by omega)] at h
  refine lv_aload_n hx hb d_Z_setTaker_37 rfl (lv_at hl 0 rfl) ?_
  refine va_get (D := D) (ci := 0) (v := .ref (g_aT g)) (C := RZ) (T := TZ) (N := 11) hx hb hk inZ hown hK hP 0 rfl rfl 1 (by decide) (hk _ zk57) (fun _ h9 => h9) rfl d_Z_setTaker_38 ?_
  refine lv_iload hx hb d_Z_setTaker_41 (lv_at hl 3 rfl) ?_
  refine lv_aload_n hx hb d_Z_setTaker_43 rfl (lv_at hl 1 rfl) ?_
  obtain ⟨k9, hk9⟩ := zpool (t0 := t0) (g := g) (z := (zmk (z_oct z) (zt_set (z_tk z) fc j (some t)) (z_ko z) (z_lb z) (z_lo z) (z_mb z) (z_rb z) (z_rn z) (z_lf z) (z_ln z) (z_md z) (z_cE z) (z_aE z) (z_cap z) (z_kl z) (z_LB z) (z_bs z) (z_bz z) (z_kp z) (z_rc z))) (show t ∈ z_LB (zu_tk z (zt_set (z_tk z) fc j (some t))) from ht)
  refine va_astq (r := (RB, TB, 4)) hx hb hK hP hD hS 2 1 k9 1 rfl rfl hk9 rfl (vp_in_nI (by omega) (by decide)) d_Z_setTaker_44 (fun H locs hP hD hS => ?_)
  rw [nI_clamp (by omega)] at hP hD
  have hP : va_P D zcl (zW t0 g (zmk (z_oct z) (va_up (zt_set (z_tk z) fc j (some t)) (fc + j) (some t)) (z_ko z) (z_lb z) (z_lo z) (z_mb z) (z_rb z) (z_rn z) (z_lf z) (z_ln z) (z_md z) (z_cE z) (z_aE z) (z_cap z) (z_kl z) (z_LB z) (z_bs z) (z_bz z) (z_kp z) (z_rc z))) H := hP
  have hD : va_D A (zW t0 g (zmk (z_oct z) (va_up (zt_set (z_tk z) fc j (some t)) (fc + j) (some t)) (z_ko z) (z_lb z) (z_lo z) (z_mb z) (z_rb z) (z_rn z) (z_lf z) (z_ln z) (z_md z) (z_cE z) (z_aE z) (z_cap z) (z_kl z) (z_LB z) (z_bs z) (z_bz z) (z_kp z) (z_rc z))) := hD
  refine lv_iinc (lv' := [(5, .int (nI (fc + j + 1))), (0, .ref (g_h g)), (2, .ref t), (4, .int (nI (fc + d)))]) (v := nI (fc + j + 1)) hx hb d_Z_setTaker_45 hl (k := 3) rfl (nI_add _ _) (by decide) rfl (fun ls hl => ?_)
  refine lv_goto (tgt := 22) hx hb d_Z_setTaker_48 (by decide) ?_
  rw [zt_set_s] at hP hD
  exact ih (j + 1) H locs ls ⟨lv_sub hl [1, 2, 3, 0] rfl, hP, hK, hD, hS, by omega⟩ (by show _ < _; (try dsimp only); omega)
set_option maxHeartbeats 1000000 in
set_option maxRecDepth 100000 in
theorem c_Z_setTaker_none (l : Launch) (D : va_G) (t0 : Nat) (g : ZG) (z : ZT) (sz : Nat) (b fc d : Nat) (hb0 : b ∈ z_LB z) (h1 : z_bs z b = 16 * fc) (h2 : d = zc (z_bz z b)) (h3 : fc + d ≤ 511) (h4 : z_bz z b ≤ 2048) : Met l y_Z_setTaker w_Z_setTaker ({ frames := 2, cells := 0, slots := 0, locals := 80 }) (zPre D t0 (zT g z) (zW t0 g z) sz [.ref (g_h g), .ref b, .null]) (va_Qv (fun u => u = zu_tk z (zt_set (z_tk z) fc d (none))) (fun (u : ZT) t => zPost D (zT g u) (va_A (zW t0 g z) sz) (zW t0 g u) t) (va_A (zW t0 g z) sz)) 0 0 (va_A (zW t0 g z) sz) := by
  refine Met.ofW (cc := c_Z_setTaker) (maxL := 6) (ret := none) (by decide) rfl ?_
  intro p e s m args below meth c s₁ B hml hv
  obtain ⟨rfl, hsz, hP, hK, hD0, hE⟩ := hv
  have hx := B.exec
  have hb := B.bytes
  have hr := B.returns
  have hts := atoms_spec (ws := w_Z_setTaker) B.pre
  have hk : ∀ w ∈ zB, w.before _ s = true := fun w h => hts w (List.mem_cons_of_mem _ h)
  have hown : s.vm.findClass "ZoneHeap" = some m.cls := findClass_of_methodNamed B.named
  have hlocks := B.notSynchronized
  subst hsz
  have hD := hD0.self (sz := s.heap.size)
  generalize hAe : va_A (zW t0 g z) s.heap.size = A at hD hE ⊢
  have hA : ∀ q : Nat, s.heap.size ≤ q → A q := fun q h => by rw [← hAe]; exact Or.inr h
  have hS : va_S A s.heap s.heap [] := va_S.rf
  have hl := lv_entry ([.ref (g_h g), .ref b, .null]) (n := 6) (Nat.le_of_ble_eq_true rfl)
  rw [lg_entry_eq]
  generalize (lg_sl ([.ref (g_h g), .ref b, .null]) ++ List.replicate (6 - (lg_sl ([.ref (g_h g), .ref b, .null])).length) Slot.unset).toArray = ls at hl ⊢
  have hl : lv_has ls 6 [(0, .ref (g_h g)), (1, .ref b), (2, .null)] := hl
  refine lv_aload_n hx hb d_Z_setTaker_0 rfl (lv_at hl 1 rfl) ?_
  obtain ⟨k9, hk9⟩ := zpool (t0 := t0) (g := g) (z := z) hb0
  refine va_getN (D := D) (ci := 1) (v := .int (nI (z_bs z b))) (C := RB) (T := TB) (N := 4) hx hb hk inB hown hK hP k9 hk9 rfl 0 (by decide) (va_Nw.use rfl (hE.1.1 _ zn232)) (fun _ h9 => h9) rfl d_Z_setTaker_1 ?_
  refine zh_t (show nI (z_bs z b) = nI (16 * fc) from by rw [h1]) ?_
  refine lv_bipush (v := nI 16) hx hb d_Z_setTaker_4 (by decide) ?_
  refine lv_idiv hx hb d_Z_setTaker_6 (by decide) ?_
  refine zh_t (show (nI (16 * fc) / nI 16) = nI ((16 * fc) / 16) from pk_div (by omega) (by decide) (by decide)) ?_
  refine zh_t (show nI ((16 * fc) / 16) = nI fc from congrArg nI (by omega)) ?_
  refine lv_istore_n (lv' := [(3, .int (nI fc)), (0, .ref (g_h g)), (1, .ref b), (2, .null)]) hx hb d_Z_setTaker_7 rfl hl (by decide) rfl (fun ls hl => ?_)
  refine lv_iload_n hx hb d_Z_setTaker_8 rfl (lv_at hl 0 rfl) ?_
  refine lv_aload_n hx hb d_Z_setTaker_9 rfl (lv_at hl 2 rfl) ?_
  obtain ⟨k9, hk9⟩ := zpool (t0 := t0) (g := g) (z := z) hb0
  refine va_getN (D := D) (ci := 1) (v := .int (nI (z_bz z b))) (C := RB) (T := TB) (N := 4) hx hb hk inB hown hK hP k9 hk9 rfl 1 (by decide) (va_Nw.use rfl (hE.1.1 _ zn234)) (fun _ h9 => h9) rfl d_Z_setTaker_10 ?_
  refine vp_callSi (zrS (n := 1) (As := [.int (nI (z_bz z b))]) (rest := [.int (nI fc)]) ⟨hx, hb, hml, hown, hk⟩ (c_Z_cellsFor_ok l D t0 (zT g z) (zW t0 g z) s.heap.size (z_bz z b) h4) zk217 zk218 zk1 kc_Z_cellsFor ⟨by decide, by decide, by decide⟩ rfl rfl ⟨Nat.le_of_ble_eq_true rfl, Nat.le_of_ble_eq_true rfl⟩ ⟨hP, hK, hD, hS, hA, hE⟩ rfl hl.1 rfl (Nat.le_of_ble_eq_true rfl) d_Z_setTaker_13 ⟨Nat.le_of_ble_eq_true rfl, Nat.le_of_ble_eq_true rfl⟩).run (fun r hr1 => ?_)
  rw [← h2] at hr1
  subst hr1
  refine lv_iadd hx hb d_Z_setTaker_16 ?_
  refine zh_t (show (nI fc + nI d) = nI (fc + d) from nI_add _ _) ?_
  refine lv_istore (lv' := [(4, .int (nI (fc + d))), (3, .int (nI fc)), (0, .ref (g_h g)), (1, .ref b), (2, .null)]) hx hb d_Z_setTaker_17 hl (by decide) rfl (fun ls hl => ?_)
  refine lv_iload_n hx hb d_Z_setTaker_19 rfl (lv_at hl 1 rfl) ?_
  refine lv_istore (lv' := [(5, .int (nI fc)), (4, .int (nI (fc + d))), (3, .int (nI fc)), (0, .ref (g_h g)), (1, .ref b), (2, .null)]) hx hb d_Z_setTaker_20 hl (by decide) rfl (fun ls hl => ?_)
  refine zh_loopH (A := Nat) (fun q H locs ls => lv_has ls 6 [(0, .ref (g_h g)), (2, .null), (4, .int (nI (fc + d))), (5, .int (nI (fc + q)))] ∧ va_P D zcl (zW t0 g (zu_tk z (zt_set (z_tk z) fc q (none)))) H ∧ va_K D zcl (zT g (zu_tk z (zt_set (z_tk z) fc q (none)))) s ∧ va_D A (zW t0 g (zu_tk z (zt_set (z_tk z) fc q (none)))) ∧ va_S A s.heap H locs ∧ (q ≤ d)) (fun q => d - q) ?_ 0 ⟨lv_sub hl [3, 5, 1, 0] rfl, by rw [zt_set_0]; exact hP, hK, by rw [zt_set_0]; exact hD, hS, Nat.zero_le _⟩
  rintro j H locs ls ⟨hl, hP, hK, hD, hS, hj⟩ ih
  have hl : lv_has ls 6 [(0, .ref (g_h g)), (2, .null), (4, .int (nI (fc + d))), (5, .int (nI (fc + j)))] := hl
  have hP : va_P D zcl (zW t0 g (zu_tk z (zt_set (z_tk z) fc j (none)))) H := hP
  have hK : va_K D zcl (zT g (zu_tk z (zt_set (z_tk z) fc j (none)))) s := hK
  have hD : va_D A (zW t0 g (zu_tk z (zt_set (z_tk z) fc j (none)))) := hD
  have hj : j ≤ d := hj
  refine lv_iload hx hb d_Z_setTaker_22 (lv_at hl 3 rfl) ?_
  refine lv_iload hx hb d_Z_setTaker_24 (lv_at hl 2 rfl) ?_
  refine lv_icmp_ge (tgt := 51) hx hb d_Z_setTaker_26 (by decide) (fun h => ?_) (fun h => ?_)
  · rw [nI_leI (by omega) (by omega)] at h
    have hjd : j = d := by omega
    subst hjd
    exact W.vret hx hb hr (fun t ht hW => ⟨⟨_, rfl, rfl, by rw [ht]; exact hP, va_K.moved hW.alike hK, hD⟩, hS.F ht⟩) hS.2.2 d_Z_setTaker_51
  rw [nI_leI (by omega) (by omega)] at h
  refine lv_iload hx hb d_Z_setTaker_29 (lv_at hl 3 rfl) ?_
  refine lv_sipush (v := nI 512) hx hb d_Z_setTaker_31 (by decide) ?_
  refine lv_icmp_ge (tgt := 51) hx hb d_Z_setTaker_34 (by decide) (fun h => ?_) (fun h => ?_)
  · rw [nI_leI (by omega) (by omega)] at h
    exact absurd h (by omega)
  rw [nI_leI (by omega) (by omega)] at h
  refine lv_aload_n hx hb d_Z_setTaker_37 rfl (lv_at hl 0 rfl) ?_
  refine va_get (D := D) (ci := 0) (v := .ref (g_aT g)) (C := RZ) (T := TZ) (N := 11) hx hb hk inZ hown hK hP 0 rfl rfl 1 (by decide) (hk _ zk57) (fun _ h9 => h9) rfl d_Z_setTaker_38 ?_
  refine lv_iload hx hb d_Z_setTaker_41 (lv_at hl 3 rfl) ?_
  refine lv_aload_nN hx hb d_Z_setTaker_43 rfl (lv_at hl 1 rfl) ?_
  refine va_astqN hx hb hK hP hD hS 2 1 rfl rfl (vp_in_nI (by omega) (by decide)) d_Z_setTaker_44 (fun H locs hP hD hS => ?_)
  rw [nI_clamp (by omega)] at hP hD
  have hP : va_P D zcl (zW t0 g (zmk (z_oct z) (va_up (zt_set (z_tk z) fc j (none)) (fc + j) none) (z_ko z) (z_lb z) (z_lo z) (z_mb z) (z_rb z) (z_rn z) (z_lf z) (z_ln z) (z_md z) (z_cE z) (z_aE z) (z_cap z) (z_kl z) (z_LB z) (z_bs z) (z_bz z) (z_kp z) (z_rc z))) H := hP
  have hD : va_D A (zW t0 g (zmk (z_oct z) (va_up (zt_set (z_tk z) fc j (none)) (fc + j) none) (z_ko z) (z_lb z) (z_lo z) (z_mb z) (z_rb z) (z_rn z) (z_lf z) (z_ln z) (z_md z) (z_cE z) (z_aE z) (z_cap z) (z_kl z) (z_LB z) (z_bs z) (z_bz z) (z_kp z) (z_rc z))) := hD
  refine lv_iinc (lv' := [(5, .int (nI (fc + j + 1))), (0, .ref (g_h g)), (2, .null), (4, .int (nI (fc + d)))]) (v := nI (fc + j + 1)) hx hb d_Z_setTaker_45 hl (k := 3) rfl (nI_add _ _) (by decide) rfl (fun ls hl => ?_)
  refine lv_goto (tgt := 22) hx hb d_Z_setTaker_48 (by decide) ?_
  rw [zt_set_s] at hP hD
  exact ih (j + 1) H locs ls ⟨lv_sub hl [1, 2, 3, 0] rfl, hP, hK, hD, hS, by omega⟩ (by show _ < _; (try dsimp only); omega)
