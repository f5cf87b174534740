theorem zupL {f : Nat → Int64} {x : Int64} : vp_updL f (nI 0).toNatClampNeg x 0 = x := by
  unfold vp_updL
  rw [nI_clamp (by decide), if_pos rfl]
set_option maxHeartbeats 1000000 in
set_option maxRecDepth 100000 in
theorem c_L_get_ok (l : Launch) (D : va_G) (t0 : Nat) (g : ZG) (z : ZT) (sz ao : Nat) (co : ClassId) (f : Nat → Int64) (v : Int32) (hz : zOK z) (hst : l.stackTraces = false) : Met l y_L_get w_L_get ({ frames := 8, cells := 2, slots := 10, locals := 180 }) (zPre D t0 ((co, .long) :: zT g z) ((ao, .inl (co, 1, .inr (.inl f))) :: zW t0 g z) sz [.ref (g_h g), .int v, .ref ao]) (va_Qi (fun k9 (u9 : ZT × (Nat → Int64)) => (k9 = nI 0 ∧ ∃ x : Int32, u9.2 0 = x.toInt64 ∧ (fun (x : Int32) (u : ZT) => (0 ≤ v.toInt ∧ v.toInt ≤ 2048) ∧ ∃ k : Nat, zr_room (zt_gap (z_tk z) (zc v.toInt.toNat)) (zc v.toInt.toNat) k ∧ x = nI (16 * k) ∧ ((k = 0 ∧ u = z) ∨ (k ≠ 0 ∧ ∃ q : Nat, q ∉ z_LB z ∧ u = zq_make z q k v.toInt.toNat))) x u9.1) ∨ (k9 = nI 1 ∧ ¬ (0 ≤ v.toInt ∧ v.toInt ≤ 2048) ∧ u9 = (z, f))) (fun (u : ZT × (Nat → Int64)) t => zPost D ((co, .long) :: zT g u.1) (va_A ((ao, .inl (co, 1, .inr (.inl f))) :: zW t0 g z) sz) ((ao, .inl (co, 1, .inr (.inl u.2))) :: zW t0 g u.1) t) (va_A ((ao, .inl (co, 1, .inr (.inl f))) :: zW t0 g z) sz)) 2 10 (va_A ((ao, .inl (co, 1, .inr (.inl f))) :: zW t0 g z) sz) := by
  refine va_MetW (cc := c_L_get) (maxL := 4) (ret := (some .int)) (hh := [((0), (9), (12), (13))]) (by decide) rfl ?_
  intro p e s m args below meth c s₁ B hml hv
  obtain ⟨rfl, hsz, hP, hK, hD0, hE⟩ := hv
  have hx := B.exec
  have hb := B.bytes
  have hr := B.returns
  have hts := atoms_spec (ws := w_L_get) B.pre
  have htab := vx_table (x := y_L_get) B (hts _ List.mem_cons_self)
  have hk : ∀ w ∈ zB, w.before _ s = true := fun w h => hts w (List.mem_cons_of_mem _ h)
  have hown : s.vm.findClass "ZoneHeapLaw" = some m.cls := findClass_of_methodNamed B.named
  have hlocks := B.notSynchronized
  subst hsz
  have hD := hD0.self (sz := s.heap.size)
  generalize hAe : va_A ((ao, .inl (co, 1, .inr (.inl f))) :: zW t0 g z) s.heap.size = A at hD hE ⊢
  have hA : ∀ q : Nat, s.heap.size ≤ q → A q := fun q h => by rw [← hAe]; exact Or.inr h
  have hS : va_S A s.heap s.heap [] := va_S.rf
  have hl := lv_entry ([.ref (g_h g), .int v, .ref ao]) (n := 4) (Nat.le_of_ble_eq_true rfl)
  rw [lg_entry_eq]
  generalize (lg_sl ([.ref (g_h g), .int v, .ref ao]) ++ List.replicate (4 - (lg_sl ([.ref (g_h g), .int v, .ref ao])).length) Slot.unset).toArray = ls at hl ⊢
  have hl : lv_has ls 4 [(0, .ref (g_h g)), (1, .int v), (2, .ref ao)] := hl
  have hKo : va_K D zcl [(co, .long)] s := hK.sub [0] rfl
  have hKz : va_K D zcl (zT g z) s := ⟨hK.1, fun k9 q9 h9 => hK.2 (k9 + 1) q9 h9⟩
  have hPo : va_P D zcl [(ao, .inl (co, 1, .inr (.inl f)))] s.heap := zP_l (r := [(ao, .inl (co, 1, .inr (.inl f)))]) hP
  have hPz : va_P D zcl (zW t0 g z) s.heap := zP_r (r := [(ao, .inl (co, 1, .inr (.inl f)))]) hP
  have hwZ : zHere D t0 (zT g z) (zW t0 g z) A s s.heap [] := ⟨hPz, hKz, zD_r (r := [(ao, .inl (co, 1, .inr (.inl f)))]) hD, hS, hA, hE⟩
  refine lv_aload_n hx hb d_L_get_0 rfl (lv_at hl 2 rfl) ?_
  refine lv_iconst (v := nI 0) hx hb d_L_get_1 (by decide) ?_
  refine lv_aload_n hx hb d_L_get_2 rfl (lv_at hl 0 rfl) ?_
  refine lv_iload_n hx hb d_L_get_3 rfl (lv_at hl 1 rfl) ?_
  refine zxciF (zxV (n := 1) (As := [.int v]) (rest := [.int (nI 0), .ref ao]) ⟨hx, hb, hml, hown, hk⟩ (c_Z_get_ok l D t0 g z s.heap.size v hz hst) zk139 zk140 zk141 zk1 kc_Z_get ⟨rfl, by decide, by decide, by decide⟩ rfl rfl ⟨Nat.le_of_ble_eq_true rfl, Nat.le_of_ble_eq_true rfl⟩ hwZ (va_recv hKz hPz (ci := 0) (q0 := 0) rfl rfl) rfl hl.1 rfl (Nat.le_of_ble_eq_true rfl) d_L_get_4 ⟨Nat.le_of_ble_eq_true rfl, Nat.le_of_ble_eq_true rfl⟩) hwZ hPo hD (fun E ce q9 H locs hEX hPo hPz hD hS hce hcv hcl => ?_) (fun x u H locs hu hPo hPz hKu hD hS => ?_)
  · obtain ⟨rfl, hcnd⟩ := hEX
    refine vx_catch (name := "java/lang/IllegalArgumentException") hown [] ⟨0, 9, 12, 13⟩ [] htab (fun z9 h9 => absurd h9 List.not_mem_nil) (by decide) (by decide) (hk _ zk138) (va_Nw.use rfl (hE.1.1 _ zn148)) hce hcv hcl ?_
    refine lv_astore_n (lv' := [(3, .ref q9), (0, .ref (g_h g)), (1, .int v), (2, .ref ao)]) hx hb d_L_get_12 rfl hl (by decide) rfl (fun ls hl => ?_)
    refine lv_iconst (v := nI 1) hx hb d_L_get_13 (by decide) ?_
    have hP : va_P D zcl ((ao, .inl (co, 1, .inr (.inl f))) :: zW t0 g z) H := zP_app (r := [(ao, .inl (co, 1, .inr (.inl f)))]) hPo hPz
    exact W.iret hx hb hr (fun t ht hW => ⟨⟨_, (z, f), rfl, Or.inr (⟨rfl, hcnd, rfl⟩), by rw [ht]; exact hP, va_K.moved hW.alike hK, hD⟩, hS.F ht⟩) hS.2.2 d_L_get_14
  have hP : va_P D zcl ((ao, .inl (co, 1, .inr (.inl f))) :: zW t0 g u) H := zP_app (r := [(ao, .inl (co, 1, .inr (.inl f)))]) hPo hPz
  have hK : va_K D zcl ((co, .long) :: zT g u) s := hKo.app hKu
  have hD : va_D A ((ao, .inl (co, 1, .inr (.inl f))) :: zW t0 g u) := hD
  refine lv_i2l hx hb d_L_get_7 rfl ?_
  refine va_last hx hb hK hP hD hS 0 0 rfl rfl (vp_in_nI (by decide) (by decide)) d_L_get_8 (fun H locs hP hD hS => ?_)
  have hP : va_P D zcl ((ao, .inl (co, 1, .inr (.inl (vp_updL f (nI 0).toNatClampNeg x.toInt64)))) :: zW t0 g u) H := hP
  have hD : va_D A ((ao, .inl (co, 1, .inr (.inl (vp_updL f (nI 0).toNatClampNeg x.toInt64)))) :: zW t0 g u) := hD
  refine lv_goto (tgt := 15) hx hb d_L_get_9 (by decide) ?_
  refine lv_iconst (v := nI 0) hx hb d_L_get_15 (by decide) ?_
  exact W.iret hx hb hr (fun t ht hW => ⟨⟨_, (u, vp_updL f (nI 0).toNatClampNeg x.toInt64), rfl, Or.inl ⟨rfl, x, zupL (f := f) (x := x.toInt64), hu⟩, by rw [ht]; exact hP, va_K.moved hW.alike hK, hD⟩, hS.F ht⟩) hS.2.2 d_L_get_16
set_option maxHeartbeats 1000000 in
set_option maxRecDepth 100000 in
theorem c_L_back_ok (l : Launch) (D : va_G) (t0 : Nat) (g : ZG) (z : ZT) (sz ao : Nat) (co : ClassId) (f : Nat → Int64) (v : Int32) (hz : zOK z) (hh : ∀ a : Nat, zq_st z v = some a → z_kp z a = false → 1 ≤ z_lb z ∧ z_bz z a ≤ z_lo z ∧ (z_kl z).length < 255) (hko : z_ko z = zkso (z_bz z) (z_kl z)) (hst : l.stackTraces = false) : Met l y_L_back w_L_back ({ frames := 9, cells := 2, slots := 1006, locals := 330 }) (zPre D t0 ((co, .long) :: zT g z) ((ao, .inl (co, 1, .inr (.inl f))) :: zW t0 g z) sz [.ref (g_h g), .int v, .ref ao]) (va_Qi (fun k9 (u9 : ZT × (Nat → Int64)) => (k9 = nI 0 ∧ ∃ x : Int32, u9.2 0 = x.toInt64 ∧ (fun (x : Int32) (u : ZT) => zq_ls z v = 0 ∧ ∃ (a : Nat) (cE : ClassId) (aE cap : Nat), zq_st z v = some a ∧ z_kp z a = false ∧ u = zq_run ((z_kl z).length + 1) (zq_gb z a cE aE cap) ∧ ((z_kl z).length + 1 ≤ cap ∧ 2 ≤ cap ∧ cap < 1000) ∧ x = nI (z_bz z a)) x u9.1) ∨ (k9 = nI 1 ∧ zq_ls z v = 1 ∧ u9 = (z, f)) ∨ (k9 = nI 2 ∧ zq_ls z v = 2 ∧ u9 = (z, f))) (fun (u : ZT × (Nat → Int64)) t => zPost D ((co, .long) :: zT g u.1) (va_A ((ao, .inl (co, 1, .inr (.inl f))) :: zW t0 g z) sz) ((ao, .inl (co, 1, .inr (.inl u.2))) :: zW t0 g u.1) t) (va_A ((ao, .inl (co, 1, .inr (.inl f))) :: zW t0 g z) sz)) 2 1006 (va_A ((ao, .inl (co, 1, .inr (.inl f))) :: zW t0 g z) sz) := by
  refine va_MetW (cc := c_L_back) (maxL := 4) (ret := (some .int)) (hh := [((0), (9), (12), (13)), ((0), (9), (15), (18))]) (by decide) rfl ?_
  intro p e s m args below meth c s₁ B hml hv
  obtain ⟨rfl, hsz, hP, hK, hD0, hE⟩ := hv
  have hx := B.exec
  have hb := B.bytes
  have hr := B.returns
  have hts := atoms_spec (ws := w_L_back) B.pre
  have htab := vx_table (x := y_L_back) B (hts _ List.mem_cons_self)
  have hk : ∀ w ∈ zB, w.before _ s = true := fun w h => hts w (List.mem_cons_of_mem _ h)
  have hown : s.vm.findClass "ZoneHeapLaw" = some m.cls := findClass_of_methodNamed B.named
  have hlocks := B.notSynchronized
  subst hsz
  have hD := hD0.self (sz := s.heap.size)
  generalize hAe : va_A ((ao, .inl (co, 1, .inr (.inl f))) :: zW t0 g z) s.heap.size = A at hD hE ⊢
  have hA : ∀ q : Nat, s.heap.size ≤ q → A q := fun q h => by rw [← hAe]; exact Or.inr h
  have hS : va_S A s.heap s.heap [] := va_S.rf
  have hl := lv_entry ([.ref (g_h g), .int v, .ref ao]) (n := 4) (Nat.le_of_ble_eq_true rfl)
  rw [lg_entry_eq]
  generalize (lg_sl ([.ref (g_h g), .int v, .ref ao]) ++ List.replicate (4 - (lg_sl ([.ref (g_h g), .int v, .ref ao])).length) Slot.unset).toArray = ls at hl ⊢
  have hl : lv_has ls 4 [(0, .ref (g_h g)), (1, .int v), (2, .ref ao)] := hl
  have hKo : va_K D zcl [(co, .long)] s := hK.sub [0] rfl
  have hKz : va_K D zcl (zT g z) s := ⟨hK.1, fun k9 q9 h9 => hK.2 (k9 + 1) q9 h9⟩
  have hPo : va_P D zcl [(ao, .inl (co, 1, .inr (.inl f)))] s.heap := zP_l (r := [(ao, .inl (co, 1, .inr (.inl f)))]) hP
  have hPz : va_P D zcl (zW t0 g z) s.heap := zP_r (r := [(ao, .inl (co, 1, .inr (.inl f)))]) hP
  have hwZ : zHere D t0 (zT g z) (zW t0 g z) A s s.heap [] := ⟨hPz, hKz, zD_r (r := [(ao, .inl (co, 1, .inr (.inl f)))]) hD, hS, hA, hE⟩
  refine lv_aload_n hx hb d_L_back_0 rfl (lv_at hl 2 rfl) ?_
  refine lv_iconst (v := nI 0) hx hb d_L_back_1 (by decide) ?_
  refine lv_aload_n hx hb d_L_back_2 rfl (lv_at hl 0 rfl) ?_
  refine lv_iload_n hx hb d_L_back_3 rfl (lv_at hl 1 rfl) ?_
  refine zxciF (zxV (n := 1) (As := [.int v]) (rest := [.int (nI 0), .ref ao]) ⟨hx, hb, hml, hown, hk⟩ (c_Z_back_ok l D t0 g z s.heap.size v hz hh hko hst) zk256 zk257 zk258 zk1 kc_Z_back ⟨rfl, by decide, by decide, by decide⟩ rfl rfl ⟨Nat.le_of_ble_eq_true rfl, Nat.le_of_ble_eq_true rfl⟩ hwZ (va_recv hKz hPz (ci := 0) (q0 := 0) rfl rfl) rfl hl.1 rfl (Nat.le_of_ble_eq_true rfl) d_L_back_4 ⟨Nat.le_of_ble_eq_true rfl, Nat.le_of_ble_eq_true rfl⟩) hwZ hPo hD (fun E ce q9 H locs hEX hPo hPz hD hS hce hcv hcl => ?_) (fun x u H locs hu hPo hPz hKu hD hS => ?_)
  · rcases hEX with ⟨rfl, hcnd⟩ | ⟨rfl, hcnd⟩
    · refine vx_catch (name := "java/lang/IllegalArgumentException") hown [] ⟨0, 9, 12, 13⟩ [⟨0, 9, 15, 18⟩] htab (fun z9 h9 => absurd h9 List.not_mem_nil) (by decide) (by decide) (hk _ zk138) (va_Nw.use rfl (hE.1.1 _ zn148)) hce hcv hcl ?_
      refine lv_astore_n (lv' := [(3, .ref q9), (0, .ref (g_h g)), (1, .int v), (2, .ref ao)]) hx hb d_L_back_12 rfl hl (by decide) rfl (fun ls hl => ?_)
      refine lv_iconst (v := nI 1) hx hb d_L_back_13 (by decide) ?_
      have hP : va_P D zcl ((ao, .inl (co, 1, .inr (.inl f))) :: zW t0 g z) H := zP_app (r := [(ao, .inl (co, 1, .inr (.inl f)))]) hPo hPz
      exact W.iret hx hb hr (fun t ht hW => ⟨⟨_, (z, f), rfl, Or.inr (Or.inl ⟨rfl, hcnd, rfl⟩), by rw [ht]; exact hP, va_K.moved hW.alike hK, hD⟩, hS.F ht⟩) hS.2.2 d_L_back_14
    · refine vx_catch (name := "java/lang/IllegalStateException") hown [⟨0, 9, 12, 13⟩] ⟨0, 9, 15, 18⟩ [] htab (fun z9 h9 => by rw [List.mem_singleton.mp h9]; exact Or.inr ⟨by decide, _, hk _ zk138, hE.1.2.2.2.2.2.1⟩) (by decide) (by decide) (hk _ zk255) (va_Nw.use rfl (hE.1.1 _ zn267)) hce hcv hcl ?_
      refine lv_astore_n (lv' := [(3, .ref q9), (0, .ref (g_h g)), (1, .int v), (2, .ref ao)]) hx hb d_L_back_15 rfl hl (by decide) rfl (fun ls hl => ?_)
      refine lv_iconst (v := nI 2) hx hb d_L_back_16 (by decide) ?_
      have hP : va_P D zcl ((ao, .inl (co, 1, .inr (.inl f))) :: zW t0 g z) H := zP_app (r := [(ao, .inl (co, 1, .inr (.inl f)))]) hPo hPz
      exact W.iret hx hb hr (fun t ht hW => ⟨⟨_, (z, f), rfl, Or.inr (Or.inr ⟨rfl, hcnd, rfl⟩), by rw [ht]; exact hP, va_K.moved hW.alike hK, hD⟩, hS.F ht⟩) hS.2.2 d_L_back_17
  have hP : va_P D zcl ((ao, .inl (co, 1, .inr (.inl f))) :: zW t0 g u) H := zP_app (r := [(ao, .inl (co, 1, .inr (.inl f)))]) hPo hPz
  have hK : va_K D zcl ((co, .long) :: zT g u) s := hKo.app hKu
  have hD : va_D A ((ao, .inl (co, 1, .inr (.inl f))) :: zW t0 g u) := hD
  refine lv_i2l hx hb d_L_back_7 rfl ?_
  refine va_last hx hb hK hP hD hS 0 0 rfl rfl (vp_in_nI (by decide) (by decide)) d_L_back_8 (fun H locs hP hD hS => ?_)
  have hP : va_P D zcl ((ao, .inl (co, 1, .inr (.inl (vp_updL f (nI 0).toNatClampNeg x.toInt64)))) :: zW t0 g u) H := hP
  have hD : va_D A ((ao, .inl (co, 1, .inr (.inl (vp_updL f (nI 0).toNatClampNeg x.toInt64)))) :: zW t0 g u) := hD
  refine lv_goto (tgt := 18) hx hb d_L_back_9 (by decide) ?_
  refine lv_iconst (v := nI 0) hx hb d_L_back_18 (by decide) ?_
  exact W.iret hx hb hr (fun t ht hW => ⟨⟨_, (u, vp_updL f (nI 0).toNatClampNeg x.toInt64), rfl, Or.inl ⟨rfl, x, zupL (f := f) (x := x.toInt64), hu⟩, by rw [ht]; exact hP, va_K.moved hW.alike hK, hD⟩, hS.F ht⟩) hS.2.2 d_L_back_19
set_option maxHeartbeats 1000000 in
set_option maxRecDepth 100000 in
theorem c_L_again_ok (l : Launch) (D : va_G) (t0 : Nat) (g : ZG) (z : ZT) (sz ao : Nat) (co : ClassId) (f : Nat → Int64) (v v2 : Int32) (hz : zOK z) (hh : ∀ a : Nat, zq_st z v = some a → z_kp z a = false → 1 ≤ z_lb z ∧ z_bz z a ≤ z_lo z ∧ (z_kl z).length < 255) (hko : z_ko z = zkso (z_bz z) (z_kl z)) (hst : l.stackTraces = false) : Met l y_L_again w_L_again ({ frames := 9, cells := 4, slots := 1016, locals := 360 }) (zPre D t0 ((co, .long) :: zT g z) ((ao, .inl (co, 1, .inr (.inl f))) :: zW t0 g z) sz [.ref (g_h g), .int v, .int v2, .ref ao]) (va_Qi (fun k9 (u9 : ZT × (Nat → Int64)) => (k9 = nI 0 ∧ ∃ x : Int32, u9.2 0 = x.toInt64 ∧ (fun (x : Int32) (u : ZT) => (0 ≤ v2.toInt ∧ v2.toInt ≤ 2048) ∧ zq_ls z v = 0 ∧ ∃ (a k : Nat), zq_st z v = some a ∧ z_kp z a = false ∧ zr_room (zt_gap (z_tk z) (zc v2.toInt.toNat)) (zc v2.toInt.toNat) k ∧ x = nI (16 * k) ∧ ((k = 0 ∧ u = z) ∨ (k ≠ 0 ∧ ∃ (q : Nat) (cE : ClassId) (aE cap : Nat), q ∉ z_LB z ∧ u = zq_run ((z_kl z).length + 1) (zq_gb (zu_oct (zq_make z q k v2.toInt.toNat) (va_cpy (z_oct z) (z_oct z) (z_bs z a) (16 * k) (min (z_bz z a) v2.toInt.toNat))) a cE aE cap) ∧ ((z_kl z).length + 1 ≤ cap ∧ 2 ≤ cap ∧ cap < 1000)))) x u9.1) ∨ (k9 = nI 1 ∧ (¬ (0 ≤ v2.toInt ∧ v2.toInt ≤ 2048) ∨ ((0 ≤ v2.toInt ∧ v2.toInt ≤ 2048) ∧ zq_ls z v = 1)) ∧ u9 = (z, f)) ∨ (k9 = nI 2 ∧ ((0 ≤ v2.toInt ∧ v2.toInt ≤ 2048) ∧ zq_ls z v = 2) ∧ u9 = (z, f))) (fun (u : ZT × (Nat → Int64)) t => zPost D ((co, .long) :: zT g u.1) (va_A ((ao, .inl (co, 1, .inr (.inl f))) :: zW t0 g z) sz) ((ao, .inl (co, 1, .inr (.inl u.2))) :: zW t0 g u.1) t) (va_A ((ao, .inl (co, 1, .inr (.inl f))) :: zW t0 g z) sz)) 4 1016 (va_A ((ao, .inl (co, 1, .inr (.inl f))) :: zW t0 g z) sz) := by
  refine va_MetW (cc := c_L_again) (maxL := 5) (ret := (some .int)) (hh := [((0), (10), (13), (13)), ((0), (10), (17), (18))]) (by decide) rfl ?_
  intro p e s m args below meth c s₁ B hml hv
  obtain ⟨rfl, hsz, hP, hK, hD0, hE⟩ := hv
  have hx := B.exec
  have hb := B.bytes
  have hr := B.returns
  have hts := atoms_spec (ws := w_L_again) B.pre
  have htab := vx_table (x := y_L_again) B (hts _ List.mem_cons_self)
  have hk : ∀ w ∈ zB, w.before _ s = true := fun w h => hts w (List.mem_cons_of_mem _ h)
  have hown : s.vm.findClass "ZoneHeapLaw" = some m.cls := findClass_of_methodNamed B.named
  have hlocks := B.notSynchronized
  subst hsz
  have hD := hD0.self (sz := s.heap.size)
  generalize hAe : va_A ((ao, .inl (co, 1, .inr (.inl f))) :: zW t0 g z) s.heap.size = A at hD hE ⊢
  have hA : ∀ q : Nat, s.heap.size ≤ q → A q := fun q h => by rw [← hAe]; exact Or.inr h
  have hS : va_S A s.heap s.heap [] := va_S.rf
  have hl := lv_entry ([.ref (g_h g), .int v, .int v2, .ref ao]) (n := 5) (Nat.le_of_ble_eq_true rfl)
  rw [lg_entry_eq]
  generalize (lg_sl ([.ref (g_h g), .int v, .int v2, .ref ao]) ++ List.replicate (5 - (lg_sl ([.ref (g_h g), .int v, .int v2, .ref ao])).length) Slot.unset).toArray = ls at hl ⊢
  have hl : lv_has ls 5 [(0, .ref (g_h g)), (1, .int v), (2, .int v2), (3, .ref ao)] := hl
  have hKo : va_K D zcl [(co, .long)] s := hK.sub [0] rfl
  have hKz : va_K D zcl (zT g z) s := ⟨hK.1, fun k9 q9 h9 => hK.2 (k9 + 1) q9 h9⟩
  have hPo : va_P D zcl [(ao, .inl (co, 1, .inr (.inl f)))] s.heap := zP_l (r := [(ao, .inl (co, 1, .inr (.inl f)))]) hP
  have hPz : va_P D zcl (zW t0 g z) s.heap := zP_r (r := [(ao, .inl (co, 1, .inr (.inl f)))]) hP
  have hwZ : zHere D t0 (zT g z) (zW t0 g z) A s s.heap [] := ⟨hPz, hKz, zD_r (r := [(ao, .inl (co, 1, .inr (.inl f)))]) hD, hS, hA, hE⟩
  refine lv_aload_n hx hb d_L_again_0 rfl (lv_at hl 3 rfl) ?_
  refine lv_iconst (v := nI 0) hx hb d_L_again_1 (by decide) ?_
  refine lv_aload_n hx hb d_L_again_2 rfl (lv_at hl 0 rfl) ?_
  refine lv_iload_n hx hb d_L_again_3 rfl (lv_at hl 1 rfl) ?_
  refine lv_iload_n hx hb d_L_again_4 rfl (lv_at hl 2 rfl) ?_
  refine zxciF (zxV (n := 2) (As := [.int v, .int v2]) (rest := [.int (nI 0), .ref ao]) ⟨hx, hb, hml, hown, hk⟩ (c_Z_again_ok l D t0 g z s.heap.size v v2 hz hh hko hst) zk367 zk368 zk369 zk1 kc_Z_again ⟨rfl, by decide, by decide, by decide⟩ rfl rfl ⟨Nat.le_of_ble_eq_true rfl, Nat.le_of_ble_eq_true rfl⟩ hwZ (va_recv hKz hPz (ci := 0) (q0 := 0) rfl rfl) rfl hl.1 rfl (Nat.le_of_ble_eq_true rfl) d_L_again_5 ⟨Nat.le_of_ble_eq_true rfl, Nat.le_of_ble_eq_true rfl⟩) hwZ hPo hD (fun E ce q9 H locs hEX hPo hPz hD hS hce hcv hcl => ?_) (fun x u H locs hu hPo hPz hKu hD hS => ?_)
  · have hEX : (E = "java/lang/IllegalArgumentException" ∧ (¬ (0 ≤ v2.toInt ∧ v2.toInt ≤ 2048) ∨ ((0 ≤ v2.toInt ∧ v2.toInt ≤ 2048) ∧ zq_ls z v = 1))) ∨ (E = "java/lang/IllegalStateException" ∧ ((0 ≤ v2.toInt ∧ v2.toInt ≤ 2048) ∧ zq_ls z v = 2)) := by
      rcases hEX with ⟨h1, h2⟩ | ⟨h1, ⟨h2, h3⟩ | ⟨h2, h3⟩⟩
      · exact Or.inl ⟨h1, Or.inl h2⟩
      · exact Or.inl ⟨h2, Or.inr ⟨h1, h3⟩⟩
      · exact Or.inr ⟨h2, h1, h3⟩
    rcases hEX with ⟨rfl, hcnd⟩ | ⟨rfl, hcnd⟩
    · refine vx_catch (name := "java/lang/IllegalArgumentException") hown [] ⟨0, 10, 13, 13⟩ [⟨0, 10, 17, 18⟩] htab (fun z9 h9 => absurd h9 List.not_mem_nil) (by decide) (by decide) (hk _ zk138) (va_Nw.use rfl (hE.1.1 _ zn148)) hce hcv hcl ?_
      refine lv_astore (lv' := [(4, .ref q9), (0, .ref (g_h g)), (1, .int v), (2, .int v2), (3, .ref ao)]) hx hb d_L_again_13 hl (by decide) rfl (fun ls hl => ?_)
      refine lv_iconst (v := nI 1) hx hb d_L_again_15 (by decide) ?_
      have hP : va_P D zcl ((ao, .inl (co, 1, .inr (.inl f))) :: zW t0 g z) H := zP_app (r := [(ao, .inl (co, 1, .inr (.inl f)))]) hPo hPz
      exact W.iret hx hb hr (fun t ht hW => ⟨⟨_, (z, f), rfl, Or.inr (Or.inl ⟨rfl, hcnd, rfl⟩), by rw [ht]; exact hP, va_K.moved hW.alike hK, hD⟩, hS.F ht⟩) hS.2.2 d_L_again_16
    · refine vx_catch (name := "java/lang/IllegalStateException") hown [⟨0, 10, 13, 13⟩] ⟨0, 10, 17, 18⟩ [] htab (fun z9 h9 => by rw [List.mem_singleton.mp h9]; exact Or.inr ⟨by decide, _, hk _ zk138, hE.1.2.2.2.2.2.1⟩) (by decide) (by decide) (hk _ zk255) (va_Nw.use rfl (hE.1.1 _ zn267)) hce hcv hcl ?_
      refine lv_astore (lv' := [(4, .ref q9), (0, .ref (g_h g)), (1, .int v), (2, .int v2), (3, .ref ao)]) hx hb d_L_again_17 hl (by decide) rfl (fun ls hl => ?_)
      refine lv_iconst (v := nI 2) hx hb d_L_again_19 (by decide) ?_
      have hP : va_P D zcl ((ao, .inl (co, 1, .inr (.inl f))) :: zW t0 g z) H := zP_app (r := [(ao, .inl (co, 1, .inr (.inl f)))]) hPo hPz
      exact W.iret hx hb hr (fun t ht hW => ⟨⟨_, (z, f), rfl, Or.inr (Or.inr ⟨rfl, hcnd, rfl⟩), by rw [ht]; exact hP, va_K.moved hW.alike hK, hD⟩, hS.F ht⟩) hS.2.2 d_L_again_20
  have hP : va_P D zcl ((ao, .inl (co, 1, .inr (.inl f))) :: zW t0 g u) H := zP_app (r := [(ao, .inl (co, 1, .inr (.inl f)))]) hPo hPz
  have hK : va_K D zcl ((co, .long) :: zT g u) s := hKo.app hKu
  have hD : va_D A ((ao, .inl (co, 1, .inr (.inl f))) :: zW t0 g u) := hD
  refine lv_i2l hx hb d_L_again_8 rfl ?_
  refine va_last hx hb hK hP hD hS 0 0 rfl rfl (vp_in_nI (by decide) (by decide)) d_L_again_9 (fun H locs hP hD hS => ?_)
  have hP : va_P D zcl ((ao, .inl (co, 1, .inr (.inl (vp_updL f (nI 0).toNatClampNeg x.toInt64)))) :: zW t0 g u) H := hP
  have hD : va_D A ((ao, .inl (co, 1, .inr (.inl (vp_updL f (nI 0).toNatClampNeg x.toInt64)))) :: zW t0 g u) := hD
  refine lv_goto (tgt := 21) hx hb d_L_again_10 (by decide) ?_
  refine lv_iconst (v := nI 0) hx hb d_L_again_21 (by decide) ?_
  exact W.iret hx hb hr (fun t ht hW => ⟨⟨_, (u, vp_updL f (nI 0).toNatClampNeg x.toInt64), rfl, Or.inl ⟨rfl, x, zupL (f := f) (x := x.toInt64), hu⟩, by rw [ht]; exact hP, va_K.moved hW.alike hK, hD⟩, hS.F ht⟩) hS.2.2 d_L_again_22
set_option maxHeartbeats 1000000 in
set_option maxRecDepth 100000 in
theorem c_L_kind_ok (l : Launch) (D : va_G) (t0 : Nat) (g : ZG) (z : ZT) (sz ao : Nat) (co : ClassId) (f : Nat → Int64) (v : Int32) (hz : zOK z) (hst : l.stackTraces = false) : Met l y_L_kind w_L_kind ({ frames := 8, cells := 1, slots := 6, locals := 160 }) (zPre D t0 ((co, .long) :: zT g z) ((ao, .inl (co, 1, .inr (.inl f))) :: zW t0 g z) sz [.ref (g_h g), .int v, .ref ao]) (va_Qi (fun k9 (u9 : ZT × (Nat → Int64)) => (k9 = nI 0 ∧ ∃ x : Int32, u9.2 0 = x.toInt64 ∧ (fun (x : Int32) (u : ZT) => u = z ∧ ∃ y : Nat, zq_at v = some y ∧ x = nI (zq_kind z y)) x u9.1) ∨ (k9 = nI 1 ∧ zq_at v = none ∧ u9 = (z, f))) (fun (u : ZT × (Nat → Int64)) t => zPost D ((co, .long) :: zT g u.1) (va_A ((ao, .inl (co, 1, .inr (.inl f))) :: zW t0 g z) sz) ((ao, .inl (co, 1, .inr (.inl u.2))) :: zW t0 g u.1) t) (va_A ((ao, .inl (co, 1, .inr (.inl f))) :: zW t0 g z) sz)) 1 6 (va_A ((ao, .inl (co, 1, .inr (.inl f))) :: zW t0 g z) sz) := by
  refine va_MetW (cc := c_L_kind) (maxL := 4) (ret := (some .int)) (hh := [((0), (9), (12), (27))]) (by decide) rfl ?_
  intro p e s m args below meth c s₁ B hml hv
  obtain ⟨rfl, hsz, hP, hK, hD0, hE⟩ := hv
  have hx := B.exec
  have hb := B.bytes
  have hr := B.returns
  have hts := atoms_spec (ws := w_L_kind) B.pre
  have htab := vx_table (x := y_L_kind) B (hts _ List.mem_cons_self)
  have hk : ∀ w ∈ zB, w.before _ s = true := fun w h => hts w (List.mem_cons_of_mem _ h)
  have hown : s.vm.findClass "ZoneHeapLaw" = some m.cls := findClass_of_methodNamed B.named
  have hlocks := B.notSynchronized
  subst hsz
  have hD := hD0.self (sz := s.heap.size)
  generalize hAe : va_A ((ao, .inl (co, 1, .inr (.inl f))) :: zW t0 g z) s.heap.size = A at hD hE ⊢
  have hA : ∀ q : Nat, s.heap.size ≤ q → A q := fun q h => by rw [← hAe]; exact Or.inr h
  have hS : va_S A s.heap s.heap [] := va_S.rf
  have hl := lv_entry ([.ref (g_h g), .int v, .ref ao]) (n := 4) (Nat.le_of_ble_eq_true rfl)
  rw [lg_entry_eq]
  generalize (lg_sl ([.ref (g_h g), .int v, .ref ao]) ++ List.replicate (4 - (lg_sl ([.ref (g_h g), .int v, .ref ao])).length) Slot.unset).toArray = ls at hl ⊢
  have hl : lv_has ls 4 [(0, .ref (g_h g)), (1, .int v), (2, .ref ao)] := hl
  have hKo : va_K D zcl [(co, .long)] s := hK.sub [0] rfl
  have hKz : va_K D zcl (zT g z) s := ⟨hK.1, fun k9 q9 h9 => hK.2 (k9 + 1) q9 h9⟩
  have hPo : va_P D zcl [(ao, .inl (co, 1, .inr (.inl f)))] s.heap := zP_l (r := [(ao, .inl (co, 1, .inr (.inl f)))]) hP
  have hPz : va_P D zcl (zW t0 g z) s.heap := zP_r (r := [(ao, .inl (co, 1, .inr (.inl f)))]) hP
  have hwZ : zHere D t0 (zT g z) (zW t0 g z) A s s.heap [] := ⟨hPz, hKz, zD_r (r := [(ao, .inl (co, 1, .inr (.inl f)))]) hD, hS, hA, hE⟩
  refine lv_aload_n hx hb d_L_kind_0 rfl (lv_at hl 2 rfl) ?_
  refine lv_iconst (v := nI 0) hx hb d_L_kind_1 (by decide) ?_
  refine lv_aload_n hx hb d_L_kind_2 rfl (lv_at hl 0 rfl) ?_
  refine lv_iload_n hx hb d_L_kind_3 rfl (lv_at hl 1 rfl) ?_
  refine zxciF (zxV (n := 1) (As := [.int v]) (rest := [.int (nI 0), .ref ao]) ⟨hx, hb, hml, hown, hk⟩ (c_Z_kind_ok l D t0 g z s.heap.size v hz hst) zk377 zk378 zk379 zk1 kc_Z_kind ⟨rfl, by decide, by decide, by decide⟩ rfl rfl ⟨Nat.le_of_ble_eq_true rfl, Nat.le_of_ble_eq_true rfl⟩ hwZ (va_recv hKz hPz (ci := 0) (q0 := 0) rfl rfl) rfl hl.1 rfl (Nat.le_of_ble_eq_true rfl) d_L_kind_4 ⟨Nat.le_of_ble_eq_true rfl, Nat.le_of_ble_eq_true rfl⟩) hwZ hPo hD (fun E ce q9 H locs hEX hPo hPz hD hS hce hcv hcl => ?_) (fun x u H locs hu hPo hPz hKu hD hS => ?_)
  · obtain ⟨rfl, hcnd⟩ := hEX
    refine vx_catch (name := "java/lang/IndexOutOfBoundsException") hown [] ⟨0, 9, 12, 27⟩ [] htab (fun z9 h9 => absurd h9 List.not_mem_nil) (by decide) (by decide) (hk _ zk376) (va_Nw.use rfl (hE.1.1 _ zn386)) hce hcv hcl ?_
    refine lv_astore_n (lv' := [(3, .ref q9), (0, .ref (g_h g)), (1, .int v), (2, .ref ao)]) hx hb d_L_kind_12 rfl hl (by decide) rfl (fun ls hl => ?_)
    refine lv_iconst (v := nI 1) hx hb d_L_kind_13 (by decide) ?_
    have hP : va_P D zcl ((ao, .inl (co, 1, .inr (.inl f))) :: zW t0 g z) H := zP_app (r := [(ao, .inl (co, 1, .inr (.inl f)))]) hPo hPz
    exact W.iret hx hb hr (fun t ht hW => ⟨⟨_, (z, f), rfl, Or.inr (⟨rfl, hcnd, rfl⟩), by rw [ht]; exact hP, va_K.moved hW.alike hK, hD⟩, hS.F ht⟩) hS.2.2 d_L_kind_14
  have hP : va_P D zcl ((ao, .inl (co, 1, .inr (.inl f))) :: zW t0 g z) H := zP_app (r := [(ao, .inl (co, 1, .inr (.inl f)))]) hPo hPz
  have hK : va_K D zcl ((co, .long) :: zT g z) s := hKo.app hKu
  have hD : va_D A ((ao, .inl (co, 1, .inr (.inl f))) :: zW t0 g z) := hD
  refine lv_i2l hx hb d_L_kind_7 rfl ?_
  refine va_last hx hb hK hP hD hS 0 0 rfl rfl (vp_in_nI (by decide) (by decide)) d_L_kind_8 (fun H locs hP hD hS => ?_)
  have hP : va_P D zcl ((ao, .inl (co, 1, .inr (.inl (vp_updL f (nI 0).toNatClampNeg x.toInt64)))) :: zW t0 g z) H := hP
  have hD : va_D A ((ao, .inl (co, 1, .inr (.inl (vp_updL f (nI 0).toNatClampNeg x.toInt64)))) :: zW t0 g z) := hD
  refine lv_goto (tgt := 15) hx hb d_L_kind_9 (by decide) ?_
  refine lv_iconst (v := nI 0) hx hb d_L_kind_15 (by decide) ?_
  exact W.iret hx hb hr (fun t ht hW => ⟨⟨_, (z, vp_updL f (nI 0).toNatClampNeg x.toInt64), rfl, Or.inl ⟨rfl, x, zupL (f := f) (x := x.toInt64), ⟨rfl, hu⟩⟩, by rw [ht]; exact hP, va_K.moved hW.alike hK, hD⟩, hS.F ht⟩) hS.2.2 d_L_kind_16
set_option maxHeartbeats 1000000 in
set_option maxRecDepth 100000 in
theorem c_L_block_ok (l : Launch) (D : va_G) (t0 : Nat) (g : ZG) (z : ZT) (sz ao : Nat) (co : ClassId) (f : Nat → Int64) (v : Int32) (hz : zOK z) (hst : l.stackTraces = false) : Met l y_L_block w_L_block ({ frames := 8, cells := 1, slots := 6, locals := 160 }) (zPre D t0 ((co, .long) :: zT g z) ((ao, .inl (co, 1, .inr (.inl f))) :: zW t0 g z) sz [.ref (g_h g), .int v, .ref ao]) (va_Qi (fun k9 (u9 : ZT × (Nat → Int64)) => (k9 = nI 0 ∧ ∃ x : Int32, u9.2 0 = x.toInt64 ∧ (fun (x : Int32) (u : ZT) => u = z ∧ (∃ y : Nat, zq_at v = some y) ∧ x = (match zq_hv z v with | none => -1 | some a => nI (z_bs z a))) x u9.1) ∨ (k9 = nI 1 ∧ zq_at v = none ∧ u9 = (z, f))) (fun (u : ZT × (Nat → Int64)) t => zPost D ((co, .long) :: zT g u.1) (va_A ((ao, .inl (co, 1, .inr (.inl f))) :: zW t0 g z) sz) ((ao, .inl (co, 1, .inr (.inl u.2))) :: zW t0 g u.1) t) (va_A ((ao, .inl (co, 1, .inr (.inl f))) :: zW t0 g z) sz)) 1 6 (va_A ((ao, .inl (co, 1, .inr (.inl f))) :: zW t0 g z) sz) := by
  refine va_MetW (cc := c_L_block) (maxL := 4) (ret := (some .int)) (hh := [((0), (9), (12), (27))]) (by decide) rfl ?_
  intro p e s m args below meth c s₁ B hml hv
  obtain ⟨rfl, hsz, hP, hK, hD0, hE⟩ := hv
  have hx := B.exec
  have hb := B.bytes
  have hr := B.returns
  have hts := atoms_spec (ws := w_L_block) B.pre
  have htab := vx_table (x := y_L_block) B (hts _ List.mem_cons_self)
  have hk : ∀ w ∈ zB, w.before _ s = true := fun w h => hts w (List.mem_cons_of_mem _ h)
  have hown : s.vm.findClass "ZoneHeapLaw" = some m.cls := findClass_of_methodNamed B.named
  have hlocks := B.notSynchronized
  subst hsz
  have hD := hD0.self (sz := s.heap.size)
  generalize hAe : va_A ((ao, .inl (co, 1, .inr (.inl f))) :: zW t0 g z) s.heap.size = A at hD hE ⊢
  have hA : ∀ q : Nat, s.heap.size ≤ q → A q := fun q h => by rw [← hAe]; exact Or.inr h
  have hS : va_S A s.heap s.heap [] := va_S.rf
  have hl := lv_entry ([.ref (g_h g), .int v, .ref ao]) (n := 4) (Nat.le_of_ble_eq_true rfl)
  rw [lg_entry_eq]
  generalize (lg_sl ([.ref (g_h g), .int v, .ref ao]) ++ List.replicate (4 - (lg_sl ([.ref (g_h g), .int v, .ref ao])).length) Slot.unset).toArray = ls at hl ⊢
  have hl : lv_has ls 4 [(0, .ref (g_h g)), (1, .int v), (2, .ref ao)] := hl
  have hKo : va_K D zcl [(co, .long)] s := hK.sub [0] rfl
  have hKz : va_K D zcl (zT g z) s := ⟨hK.1, fun k9 q9 h9 => hK.2 (k9 + 1) q9 h9⟩
  have hPo : va_P D zcl [(ao, .inl (co, 1, .inr (.inl f)))] s.heap := zP_l (r := [(ao, .inl (co, 1, .inr (.inl f)))]) hP
  have hPz : va_P D zcl (zW t0 g z) s.heap := zP_r (r := [(ao, .inl (co, 1, .inr (.inl f)))]) hP
  have hwZ : zHere D t0 (zT g z) (zW t0 g z) A s s.heap [] := ⟨hPz, hKz, zD_r (r := [(ao, .inl (co, 1, .inr (.inl f)))]) hD, hS, hA, hE⟩
  refine lv_aload_n hx hb d_L_block_0 rfl (lv_at hl 2 rfl) ?_
  refine lv_iconst (v := nI 0) hx hb d_L_block_1 (by decide) ?_
  refine lv_aload_n hx hb d_L_block_2 rfl (lv_at hl 0 rfl) ?_
  refine lv_iload_n hx hb d_L_block_3 rfl (lv_at hl 1 rfl) ?_
  refine zxciF (zxV (n := 1) (As := [.int v]) (rest := [.int (nI 0), .ref ao]) ⟨hx, hb, hml, hown, hk⟩ (c_Z_block_ok l D t0 g z s.heap.size v hz hst) zk407 zk408 zk409 zk1 kc_Z_block ⟨rfl, by decide, by decide, by decide⟩ rfl rfl ⟨Nat.le_of_ble_eq_true rfl, Nat.le_of_ble_eq_true rfl⟩ hwZ (va_recv hKz hPz (ci := 0) (q0 := 0) rfl rfl) rfl hl.1 rfl (Nat.le_of_ble_eq_true rfl) d_L_block_4 ⟨Nat.le_of_ble_eq_true rfl, Nat.le_of_ble_eq_true rfl⟩) hwZ hPo hD (fun E ce q9 H locs hEX hPo hPz hD hS hce hcv hcl => ?_) (fun x u H locs hu hPo hPz hKu hD hS => ?_)
  · obtain ⟨rfl, hcnd⟩ := hEX
    refine vx_catch (name := "java/lang/IndexOutOfBoundsException") hown [] ⟨0, 9, 12, 27⟩ [] htab (fun z9 h9 => absurd h9 List.not_mem_nil) (by decide) (by decide) (hk _ zk376) (va_Nw.use rfl (hE.1.1 _ zn386)) hce hcv hcl ?_
    refine lv_astore_n (lv' := [(3, .ref q9), (0, .ref (g_h g)), (1, .int v), (2, .ref ao)]) hx hb d_L_block_12 rfl hl (by decide) rfl (fun ls hl => ?_)
    refine lv_iconst (v := nI 1) hx hb d_L_block_13 (by decide) ?_
    have hP : va_P D zcl ((ao, .inl (co, 1, .inr (.inl f))) :: zW t0 g z) H := zP_app (r := [(ao, .inl (co, 1, .inr (.inl f)))]) hPo hPz
    exact W.iret hx hb hr (fun t ht hW => ⟨⟨_, (z, f), rfl, Or.inr (⟨rfl, hcnd, rfl⟩), by rw [ht]; exact hP, va_K.moved hW.alike hK, hD⟩, hS.F ht⟩) hS.2.2 d_L_block_14
  have hP : va_P D zcl ((ao, .inl (co, 1, .inr (.inl f))) :: zW t0 g z) H := zP_app (r := [(ao, .inl (co, 1, .inr (.inl f)))]) hPo hPz
  have hK : va_K D zcl ((co, .long) :: zT g z) s := hKo.app hKu
  have hD : va_D A ((ao, .inl (co, 1, .inr (.inl f))) :: zW t0 g z) := hD
  refine lv_i2l hx hb d_L_block_7 rfl ?_
  refine va_last hx hb hK hP hD hS 0 0 rfl rfl (vp_in_nI (by decide) (by decide)) d_L_block_8 (fun H locs hP hD hS => ?_)
  have hP : va_P D zcl ((ao, .inl (co, 1, .inr (.inl (vp_updL f (nI 0).toNatClampNeg x.toInt64)))) :: zW t0 g z) H := hP
  have hD : va_D A ((ao, .inl (co, 1, .inr (.inl (vp_updL f (nI 0).toNatClampNeg x.toInt64)))) :: zW t0 g z) := hD
  refine lv_goto (tgt := 15) hx hb d_L_block_9 (by decide) ?_
  refine lv_iconst (v := nI 0) hx hb d_L_block_15 (by decide) ?_
  exact W.iret hx hb hr (fun t ht hW => ⟨⟨_, (z, vp_updL f (nI 0).toNatClampNeg x.toInt64), rfl, Or.inl ⟨rfl, x, zupL (f := f) (x := x.toInt64), ⟨rfl, hu⟩⟩, by rw [ht]; exact hP, va_K.moved hW.alike hK, hD⟩, hS.F ht⟩) hS.2.2 d_L_block_16
set_option maxHeartbeats 1000000 in
set_option maxRecDepth 100000 in
theorem c_L_write_ok (l : Launch) (D : va_G) (t0 : Nat) (g : ZG) (z : ZT) (sz ao : Nat) (co : ClassId) (f : Nat → Int64) (v v2 : Int32) (hz : zOK z) (hst : l.stackTraces = false) : Met l y_L_write w_L_write ({ frames := 8, cells := 1, slots := 6, locals := 160 }) (zPre D t0 ((co, .long) :: zT g z) ((ao, .inl (co, 1, .inr (.inl f))) :: zW t0 g z) sz [.ref (g_h g), .int v, .int v2]) (va_Qi (fun k9 (u9 : ZT × (Nat → Int64)) => (k9 = nI 0 ∧ u9.2 = f ∧ (fun (u : ZT) => zq_rw z v = 0 ∧ u = zu_oct z (zq_wr (z_oct z) v.toInt.toNat v2.toBitVec.toNat)) u9.1) ∨ (k9 = nI 1 ∧ zq_rw z v = 1 ∧ u9 = (z, f)) ∨ (k9 = nI 2 ∧ zq_rw z v = 2 ∧ u9 = (z, f))) (fun (u : ZT × (Nat → Int64)) t => zPost D ((co, .long) :: zT g u.1) (va_A ((ao, .inl (co, 1, .inr (.inl f))) :: zW t0 g z) sz) ((ao, .inl (co, 1, .inr (.inl u.2))) :: zW t0 g u.1) t) (va_A ((ao, .inl (co, 1, .inr (.inl f))) :: zW t0 g z) sz)) 1 6 (va_A ((ao, .inl (co, 1, .inr (.inl f))) :: zW t0 g z) sz) := by
  refine va_MetW (cc := c_L_write) (maxL := 4) (ret := (some .int)) (hh := [((0), (6), (9), (27)), ((0), (6), (12), (18))]) (by decide) rfl ?_
  intro p e s m args below meth c s₁ B hml hv
  obtain ⟨rfl, hsz, hP, hK, hD0, hE⟩ := hv
  have hx := B.exec
  have hb := B.bytes
  have hr := B.returns
  have hts := atoms_spec (ws := w_L_write) B.pre
  have htab := vx_table (x := y_L_write) B (hts _ List.mem_cons_self)
  have hk : ∀ w ∈ zB, w.before _ s = true := fun w h => hts w (List.mem_cons_of_mem _ h)
  have hown : s.vm.findClass "ZoneHeapLaw" = some m.cls := findClass_of_methodNamed B.named
  have hlocks := B.notSynchronized
  subst hsz
  have hD := hD0.self (sz := s.heap.size)
  generalize hAe : va_A ((ao, .inl (co, 1, .inr (.inl f))) :: zW t0 g z) s.heap.size = A at hD hE ⊢
  have hA : ∀ q : Nat, s.heap.size ≤ q → A q := fun q h => by rw [← hAe]; exact Or.inr h
  have hS : va_S A s.heap s.heap [] := va_S.rf
  have hl := lv_entry ([.ref (g_h g), .int v, .int v2]) (n := 4) (Nat.le_of_ble_eq_true rfl)
  rw [lg_entry_eq]
  generalize (lg_sl ([.ref (g_h g), .int v, .int v2]) ++ List.replicate (4 - (lg_sl ([.ref (g_h g), .int v, .int v2])).length) Slot.unset).toArray = ls at hl ⊢
  have hl : lv_has ls 4 [(0, .ref (g_h g)), (1, .int v), (2, .int v2)] := hl
  have hKo : va_K D zcl [(co, .long)] s := hK.sub [0] rfl
  have hKz : va_K D zcl (zT g z) s := ⟨hK.1, fun k9 q9 h9 => hK.2 (k9 + 1) q9 h9⟩
  have hPo : va_P D zcl [(ao, .inl (co, 1, .inr (.inl f)))] s.heap := zP_l (r := [(ao, .inl (co, 1, .inr (.inl f)))]) hP
  have hPz : va_P D zcl (zW t0 g z) s.heap := zP_r (r := [(ao, .inl (co, 1, .inr (.inl f)))]) hP
  have hwZ : zHere D t0 (zT g z) (zW t0 g z) A s s.heap [] := ⟨hPz, hKz, zD_r (r := [(ao, .inl (co, 1, .inr (.inl f)))]) hD, hS, hA, hE⟩
  refine lv_aload_n hx hb d_L_write_0 rfl (lv_at hl 0 rfl) ?_
  refine lv_iload_n hx hb d_L_write_1 rfl (lv_at hl 1 rfl) ?_
  refine lv_iload_n hx hb d_L_write_2 rfl (lv_at hl 2 rfl) ?_
  refine zxcvF (zxV (n := 2) (As := [.int v, .int v2]) (rest := []) ⟨hx, hb, hml, hown, hk⟩ (c_Z_write_ok l D t0 g z s.heap.size v v2 hz hst) zk414 zk415 zk416 zk1 kc_Z_write ⟨rfl, by decide, by decide, by decide⟩ rfl rfl ⟨Nat.le_of_ble_eq_true rfl, Nat.le_of_ble_eq_true rfl⟩ hwZ (va_recv hKz hPz (ci := 0) (q0 := 0) rfl rfl) rfl hl.1 rfl (Nat.le_of_ble_eq_true rfl) d_L_write_3 ⟨Nat.le_of_ble_eq_true rfl, Nat.le_of_ble_eq_true rfl⟩) hwZ hPo hD (fun E ce q9 H locs hEX hPo hPz hD hS hce hcv hcl => ?_) (fun u H locs hu hPo hPz hKu hD hS => ?_)
  · rcases hEX with ⟨rfl, hcnd⟩ | ⟨rfl, hcnd⟩
    · refine vx_catch (name := "java/lang/IndexOutOfBoundsException") hown [] ⟨0, 6, 9, 27⟩ [⟨0, 6, 12, 18⟩] htab (fun z9 h9 => absurd h9 List.not_mem_nil) (by decide) (by decide) (hk _ zk376) (va_Nw.use rfl (hE.1.1 _ zn386)) hce hcv hcl ?_
      refine lv_astore_n (lv' := [(3, .ref q9), (0, .ref (g_h g)), (1, .int v), (2, .int v2)]) hx hb d_L_write_9 rfl hl (by decide) rfl (fun ls hl => ?_)
      refine lv_iconst (v := nI 1) hx hb d_L_write_10 (by decide) ?_
      have hP : va_P D zcl ((ao, .inl (co, 1, .inr (.inl f))) :: zW t0 g z) H := zP_app (r := [(ao, .inl (co, 1, .inr (.inl f)))]) hPo hPz
      exact W.iret hx hb hr (fun t ht hW => ⟨⟨_, (z, f), rfl, Or.inr (Or.inl ⟨rfl, hcnd, rfl⟩), by rw [ht]; exact hP, va_K.moved hW.alike hK, hD⟩, hS.F ht⟩) hS.2.2 d_L_write_11
    · refine vx_catch (name := "java/lang/IllegalStateException") hown [⟨0, 6, 9, 27⟩] ⟨0, 6, 12, 18⟩ [] htab (fun z9 h9 => by rw [List.mem_singleton.mp h9]; exact Or.inr ⟨by decide, _, hk _ zk376, hE.1.2.2.2.2.2.2⟩) (by decide) (by decide) (hk _ zk255) (va_Nw.use rfl (hE.1.1 _ zn267)) hce hcv hcl ?_
      refine lv_astore_n (lv' := [(3, .ref q9), (0, .ref (g_h g)), (1, .int v), (2, .int v2)]) hx hb d_L_write_12 rfl hl (by decide) rfl (fun ls hl => ?_)
      refine lv_iconst (v := nI 2) hx hb d_L_write_13 (by decide) ?_
      have hP : va_P D zcl ((ao, .inl (co, 1, .inr (.inl f))) :: zW t0 g z) H := zP_app (r := [(ao, .inl (co, 1, .inr (.inl f)))]) hPo hPz
      exact W.iret hx hb hr (fun t ht hW => ⟨⟨_, (z, f), rfl, Or.inr (Or.inr ⟨rfl, hcnd, rfl⟩), by rw [ht]; exact hP, va_K.moved hW.alike hK, hD⟩, hS.F ht⟩) hS.2.2 d_L_write_14
  refine lv_goto (tgt := 15) hx hb d_L_write_6 (by decide) ?_
  refine lv_iconst (v := nI 0) hx hb d_L_write_15 (by decide) ?_
  have hP : va_P D zcl ((ao, .inl (co, 1, .inr (.inl f))) :: zW t0 g u) H := zP_app (r := [(ao, .inl (co, 1, .inr (.inl f)))]) hPo hPz
  have hK : va_K D zcl ((co, .long) :: zT g u) s := hKo.app hKu
  exact W.iret hx hb hr (fun t ht hW => ⟨⟨_, (u, f), rfl, Or.inl ⟨rfl, rfl, hu⟩, by rw [ht]; exact hP, va_K.moved hW.alike hK, hD⟩, hS.F ht⟩) hS.2.2 d_L_write_16
set_option maxHeartbeats 1000000 in
set_option maxRecDepth 100000 in
theorem c_L_read_ok (l : Launch) (D : va_G) (t0 : Nat) (g : ZG) (z : ZT) (sz ao : Nat) (co : ClassId) (f : Nat → Int64) (v : Int32) (hz : zOK z) (hst : l.stackTraces = false) : Met l y_L_read w_L_read ({ frames := 8, cells := 1, slots := 6, locals := 160 }) (zPre D t0 ((co, .long) :: zT g z) ((ao, .inl (co, 1, .inr (.inl f))) :: zW t0 g z) sz [.ref (g_h g), .int v, .ref ao]) (va_Qi (fun k9 (u9 : ZT × (Nat → Int64)) => (k9 = nI 0 ∧ ∃ x : Int32, u9.2 0 = x.toInt64 ∧ (fun (x : Int32) (u : ZT) => u = z ∧ zq_rw z v = 0 ∧ x = nI (zwd (z_oct z) v.toInt.toNat)) x u9.1) ∨ (k9 = nI 1 ∧ zq_rw z v = 1 ∧ u9 = (z, f)) ∨ (k9 = nI 2 ∧ zq_rw z v = 2 ∧ u9 = (z, f))) (fun (u : ZT × (Nat → Int64)) t => zPost D ((co, .long) :: zT g u.1) (va_A ((ao, .inl (co, 1, .inr (.inl f))) :: zW t0 g z) sz) ((ao, .inl (co, 1, .inr (.inl u.2))) :: zW t0 g u.1) t) (va_A ((ao, .inl (co, 1, .inr (.inl f))) :: zW t0 g z) sz)) 1 6 (va_A ((ao, .inl (co, 1, .inr (.inl f))) :: zW t0 g z) sz) := by
  refine va_MetW (cc := c_L_read) (maxL := 4) (ret := (some .int)) (hh := [((0), (9), (12), (27)), ((0), (9), (15), (18))]) (by decide) rfl ?_
  intro p e s m args below meth c s₁ B hml hv
  obtain ⟨rfl, hsz, hP, hK, hD0, hE⟩ := hv
  have hx := B.exec
  have hb := B.bytes
  have hr := B.returns
  have hts := atoms_spec (ws := w_L_read) B.pre
  have htab := vx_table (x := y_L_read) B (hts _ List.mem_cons_self)
  have hk : ∀ w ∈ zB, w.before _ s = true := fun w h => hts w (List.mem_cons_of_mem _ h)
  have hown : s.vm.findClass "ZoneHeapLaw" = some m.cls := findClass_of_methodNamed B.named
  have hlocks := B.notSynchronized
  subst hsz
  have hD := hD0.self (sz := s.heap.size)
  generalize hAe : va_A ((ao, .inl (co, 1, .inr (.inl f))) :: zW t0 g z) s.heap.size = A at hD hE ⊢
  have hA : ∀ q : Nat, s.heap.size ≤ q → A q := fun q h => by rw [← hAe]; exact Or.inr h
  have hS : va_S A s.heap s.heap [] := va_S.rf
  have hl := lv_entry ([.ref (g_h g), .int v, .ref ao]) (n := 4) (Nat.le_of_ble_eq_true rfl)
  rw [lg_entry_eq]
  generalize (lg_sl ([.ref (g_h g), .int v, .ref ao]) ++ List.replicate (4 - (lg_sl ([.ref (g_h g), .int v, .ref ao])).length) Slot.unset).toArray = ls at hl ⊢
  have hl : lv_has ls 4 [(0, .ref (g_h g)), (1, .int v), (2, .ref ao)] := hl
  have hKo : va_K D zcl [(co, .long)] s := hK.sub [0] rfl
  have hKz : va_K D zcl (zT g z) s := ⟨hK.1, fun k9 q9 h9 => hK.2 (k9 + 1) q9 h9⟩
  have hPo : va_P D zcl [(ao, .inl (co, 1, .inr (.inl f)))] s.heap := zP_l (r := [(ao, .inl (co, 1, .inr (.inl f)))]) hP
  have hPz : va_P D zcl (zW t0 g z) s.heap := zP_r (r := [(ao, .inl (co, 1, .inr (.inl f)))]) hP
  have hwZ : zHere D t0 (zT g z) (zW t0 g z) A s s.heap [] := ⟨hPz, hKz, zD_r (r := [(ao, .inl (co, 1, .inr (.inl f)))]) hD, hS, hA, hE⟩
  refine lv_aload_n hx hb d_L_read_0 rfl (lv_at hl 2 rfl) ?_
  refine lv_iconst (v := nI 0) hx hb d_L_read_1 (by decide) ?_
  refine lv_aload_n hx hb d_L_read_2 rfl (lv_at hl 0 rfl) ?_
  refine lv_iload_n hx hb d_L_read_3 rfl (lv_at hl 1 rfl) ?_
  refine zxciF (zxV (n := 1) (As := [.int v]) (rest := [.int (nI 0), .ref ao]) ⟨hx, hb, hml, hown, hk⟩ (c_Z_read_ok l D t0 g z s.heap.size v hz hst) zk427 zk428 zk429 zk1 kc_Z_read ⟨rfl, by decide, by decide, by decide⟩ rfl rfl ⟨Nat.le_of_ble_eq_true rfl, Nat.le_of_ble_eq_true rfl⟩ hwZ (va_recv hKz hPz (ci := 0) (q0 := 0) rfl rfl) rfl hl.1 rfl (Nat.le_of_ble_eq_true rfl) d_L_read_4 ⟨Nat.le_of_ble_eq_true rfl, Nat.le_of_ble_eq_true rfl⟩) hwZ hPo hD (fun E ce q9 H locs hEX hPo hPz hD hS hce hcv hcl => ?_) (fun x u H locs hu hPo hPz hKu hD hS => ?_)
  · rcases hEX with ⟨rfl, hcnd⟩ | ⟨rfl, hcnd⟩
    · refine vx_catch (name := "java/lang/IndexOutOfBoundsException") hown [] ⟨0, 9, 12, 27⟩ [⟨0, 9, 15, 18⟩] htab (fun z9 h9 => absurd h9 List.not_mem_nil) (by decide) (by decide) (hk _ zk376) (va_Nw.use rfl (hE.1.1 _ zn386)) hce hcv hcl ?_
      refine lv_astore_n (lv' := [(3, .ref q9), (0, .ref (g_h g)), (1, .int v), (2, .ref ao)]) hx hb d_L_read_12 rfl hl (by decide) rfl (fun ls hl => ?_)
      refine lv_iconst (v := nI 1) hx hb d_L_read_13 (by decide) ?_
      have hP : va_P D zcl ((ao, .inl (co, 1, .inr (.inl f))) :: zW t0 g z) H := zP_app (r := [(ao, .inl (co, 1, .inr (.inl f)))]) hPo hPz
      exact W.iret hx hb hr (fun t ht hW => ⟨⟨_, (z, f), rfl, Or.inr (Or.inl ⟨rfl, hcnd, rfl⟩), by rw [ht]; exact hP, va_K.moved hW.alike hK, hD⟩, hS.F ht⟩) hS.2.2 d_L_read_14
    · refine vx_catch (name := "java/lang/IllegalStateException") hown [⟨0, 9, 12, 27⟩] ⟨0, 9, 15, 18⟩ [] htab (fun z9 h9 => by rw [List.mem_singleton.mp h9]; exact Or.inr ⟨by decide, _, hk _ zk376, hE.1.2.2.2.2.2.2⟩) (by decide) (by decide) (hk _ zk255) (va_Nw.use rfl (hE.1.1 _ zn267)) hce hcv hcl ?_
      refine lv_astore_n (lv' := [(3, .ref q9), (0, .ref (g_h g)), (1, .int v), (2, .ref ao)]) hx hb d_L_read_15 rfl hl (by decide) rfl (fun ls hl => ?_)
      refine lv_iconst (v := nI 2) hx hb d_L_read_16 (by decide) ?_
      have hP : va_P D zcl ((ao, .inl (co, 1, .inr (.inl f))) :: zW t0 g z) H := zP_app (r := [(ao, .inl (co, 1, .inr (.inl f)))]) hPo hPz
      exact W.iret hx hb hr (fun t ht hW => ⟨⟨_, (z, f), rfl, Or.inr (Or.inr ⟨rfl, hcnd, rfl⟩), by rw [ht]; exact hP, va_K.moved hW.alike hK, hD⟩, hS.F ht⟩) hS.2.2 d_L_read_17
  have hP : va_P D zcl ((ao, .inl (co, 1, .inr (.inl f))) :: zW t0 g z) H := zP_app (r := [(ao, .inl (co, 1, .inr (.inl f)))]) hPo hPz
  have hK : va_K D zcl ((co, .long) :: zT g z) s := hKo.app hKu
  have hD : va_D A ((ao, .inl (co, 1, .inr (.inl f))) :: zW t0 g z) := hD
  refine lv_i2l hx hb d_L_read_7 rfl ?_
  refine va_last hx hb hK hP hD hS 0 0 rfl rfl (vp_in_nI (by decide) (by decide)) d_L_read_8 (fun H locs hP hD hS => ?_)
  have hP : va_P D zcl ((ao, .inl (co, 1, .inr (.inl (vp_updL f (nI 0).toNatClampNeg x.toInt64)))) :: zW t0 g z) H := hP
  have hD : va_D A ((ao, .inl (co, 1, .inr (.inl (vp_updL f (nI 0).toNatClampNeg x.toInt64)))) :: zW t0 g z) := hD
  refine lv_goto (tgt := 18) hx hb d_L_read_9 (by decide) ?_
  refine lv_iconst (v := nI 0) hx hb d_L_read_18 (by decide) ?_
  exact W.iret hx hb hr (fun t ht hW => ⟨⟨_, (z, vp_updL f (nI 0).toNatClampNeg x.toInt64), rfl, Or.inl ⟨rfl, x, zupL (f := f) (x := x.toInt64), ⟨rfl, hu⟩⟩, by rw [ht]; exact hP, va_K.moved hW.alike hK, hD⟩, hS.F ht⟩) hS.2.2 d_L_read_19
set_option maxHeartbeats 1000000 in
set_option maxRecDepth 100000 in
theorem c_L_lostAt_ok (l : Launch) (D : va_G) (t0 : Nat) (g : ZG) (z : ZT) (sz ao : Nat) (co : ClassId) (f : Nat → Int64) (v : Int32) (hz : zOK z) (hst : l.stackTraces = false) : Met l y_L_lostAt w_L_lostAt ({ frames := 7, cells := 1, slots := 6, locals := 120 }) (zPre D t0 ((co, .long) :: zT g z) ((ao, .inl (co, 1, .inr (.inl f))) :: zW t0 g z) sz [.ref (g_h g), .int v, .ref ao]) (va_Qi (fun k9 (u9 : ZT × (Nat → Int64)) => (k9 = nI 0 ∧ ∃ x : Int32, u9.2 0 = x.toInt64 ∧ (fun (x : Int32) (u : ZT) => u = z ∧ (0 ≤ v.toInt ∧ v.toInt < z_ln z) ∧ x = nI (z_lf z v.toInt.toNat)) x u9.1) ∨ (k9 = nI 1 ∧ ¬ (0 ≤ v.toInt ∧ v.toInt < z_ln z) ∧ u9 = (z, f))) (fun (u : ZT × (Nat → Int64)) t => zPost D ((co, .long) :: zT g u.1) (va_A ((ao, .inl (co, 1, .inr (.inl f))) :: zW t0 g z) sz) ((ao, .inl (co, 1, .inr (.inl u.2))) :: zW t0 g u.1) t) (va_A ((ao, .inl (co, 1, .inr (.inl f))) :: zW t0 g z) sz)) 1 6 (va_A ((ao, .inl (co, 1, .inr (.inl f))) :: zW t0 g z) sz) := by
  refine va_MetW (cc := c_L_lostAt) (maxL := 4) (ret := (some .int)) (hh := [((0), (9), (12), (27))]) (by decide) rfl ?_
  intro p e s m args below meth c s₁ B hml hv
  obtain ⟨rfl, hsz, hP, hK, hD0, hE⟩ := hv
  have hx := B.exec
  have hb := B.bytes
  have hr := B.returns
  have hts := atoms_spec (ws := w_L_lostAt) B.pre
  have htab := vx_table (x := y_L_lostAt) B (hts _ List.mem_cons_self)
  have hk : ∀ w ∈ zB, w.before _ s = true := fun w h => hts w (List.mem_cons_of_mem _ h)
  have hown : s.vm.findClass "ZoneHeapLaw" = some m.cls := findClass_of_methodNamed B.named
  have hlocks := B.notSynchronized
  subst hsz
  have hD := hD0.self (sz := s.heap.size)
  generalize hAe : va_A ((ao, .inl (co, 1, .inr (.inl f))) :: zW t0 g z) s.heap.size = A at hD hE ⊢
  have hA : ∀ q : Nat, s.heap.size ≤ q → A q := fun q h => by rw [← hAe]; exact Or.inr h
  have hS : va_S A s.heap s.heap [] := va_S.rf
  have hl := lv_entry ([.ref (g_h g), .int v, .ref ao]) (n := 4) (Nat.le_of_ble_eq_true rfl)
  rw [lg_entry_eq]
  generalize (lg_sl ([.ref (g_h g), .int v, .ref ao]) ++ List.replicate (4 - (lg_sl ([.ref (g_h g), .int v, .ref ao])).length) Slot.unset).toArray = ls at hl ⊢
  have hl : lv_has ls 4 [(0, .ref (g_h g)), (1, .int v), (2, .ref ao)] := hl
  have hKo : va_K D zcl [(co, .long)] s := hK.sub [0] rfl
  have hKz : va_K D zcl (zT g z) s := ⟨hK.1, fun k9 q9 h9 => hK.2 (k9 + 1) q9 h9⟩
  have hPo : va_P D zcl [(ao, .inl (co, 1, .inr (.inl f)))] s.heap := zP_l (r := [(ao, .inl (co, 1, .inr (.inl f)))]) hP
  have hPz : va_P D zcl (zW t0 g z) s.heap := zP_r (r := [(ao, .inl (co, 1, .inr (.inl f)))]) hP
  have hwZ : zHere D t0 (zT g z) (zW t0 g z) A s s.heap [] := ⟨hPz, hKz, zD_r (r := [(ao, .inl (co, 1, .inr (.inl f)))]) hD, hS, hA, hE⟩
  refine lv_aload_n hx hb d_L_lostAt_0 rfl (lv_at hl 2 rfl) ?_
  refine lv_iconst (v := nI 0) hx hb d_L_lostAt_1 (by decide) ?_
  refine lv_aload_n hx hb d_L_lostAt_2 rfl (lv_at hl 0 rfl) ?_
  refine lv_iload_n hx hb d_L_lostAt_3 rfl (lv_at hl 1 rfl) ?_
  refine zxciF (zxV (n := 1) (As := [.int v]) (rest := [.int (nI 0), .ref ao]) ⟨hx, hb, hml, hown, hk⟩ (c_Z_lostAt_ok l D t0 g z s.heap.size v hz hst) zk434 zk435 zk436 zk1 kc_Z_lostAt ⟨rfl, by decide, by decide, by decide⟩ rfl rfl ⟨Nat.le_of_ble_eq_true rfl, Nat.le_of_ble_eq_true rfl⟩ hwZ (va_recv hKz hPz (ci := 0) (q0 := 0) rfl rfl) rfl hl.1 rfl (Nat.le_of_ble_eq_true rfl) d_L_lostAt_4 ⟨Nat.le_of_ble_eq_true rfl, Nat.le_of_ble_eq_true rfl⟩) hwZ hPo hD (fun E ce q9 H locs hEX hPo hPz hD hS hce hcv hcl => ?_) (fun x u H locs hu hPo hPz hKu hD hS => ?_)
  · obtain ⟨rfl, hcnd⟩ := hEX
    refine vx_catch (name := "java/lang/IndexOutOfBoundsException") hown [] ⟨0, 9, 12, 27⟩ [] htab (fun z9 h9 => absurd h9 List.not_mem_nil) (by decide) (by decide) (hk _ zk376) (va_Nw.use rfl (hE.1.1 _ zn386)) hce hcv hcl ?_
    refine lv_astore_n (lv' := [(3, .ref q9), (0, .ref (g_h g)), (1, .int v), (2, .ref ao)]) hx hb d_L_lostAt_12 rfl hl (by decide) rfl (fun ls hl => ?_)
    refine lv_iconst (v := nI 1) hx hb d_L_lostAt_13 (by decide) ?_
    have hP : va_P D zcl ((ao, .inl (co, 1, .inr (.inl f))) :: zW t0 g z) H := zP_app (r := [(ao, .inl (co, 1, .inr (.inl f)))]) hPo hPz
    exact W.iret hx hb hr (fun t ht hW => ⟨⟨_, (z, f), rfl, Or.inr (⟨rfl, hcnd, rfl⟩), by rw [ht]; exact hP, va_K.moved hW.alike hK, hD⟩, hS.F ht⟩) hS.2.2 d_L_lostAt_14
  have hP : va_P D zcl ((ao, .inl (co, 1, .inr (.inl f))) :: zW t0 g z) H := zP_app (r := [(ao, .inl (co, 1, .inr (.inl f)))]) hPo hPz
  have hK : va_K D zcl ((co, .long) :: zT g z) s := hKo.app hKu
  have hD : va_D A ((ao, .inl (co, 1, .inr (.inl f))) :: zW t0 g z) := hD
  refine lv_i2l hx hb d_L_lostAt_7 rfl ?_
  refine va_last hx hb hK hP hD hS 0 0 rfl rfl (vp_in_nI (by decide) (by decide)) d_L_lostAt_8 (fun H locs hP hD hS => ?_)
  have hP : va_P D zcl ((ao, .inl (co, 1, .inr (.inl (vp_updL f (nI 0).toNatClampNeg x.toInt64)))) :: zW t0 g z) H := hP
  have hD : va_D A ((ao, .inl (co, 1, .inr (.inl (vp_updL f (nI 0).toNatClampNeg x.toInt64)))) :: zW t0 g z) := hD
  refine lv_goto (tgt := 15) hx hb d_L_lostAt_9 (by decide) ?_
  refine lv_iconst (v := nI 0) hx hb d_L_lostAt_15 (by decide) ?_
  exact W.iret hx hb hr (fun t ht hW => ⟨⟨_, (z, vp_updL f (nI 0).toNatClampNeg x.toInt64), rfl, Or.inl ⟨rfl, x, zupL (f := f) (x := x.toInt64), ⟨rfl, hu⟩⟩, by rw [ht]; exact hP, va_K.moved hW.alike hK, hD⟩, hS.F ht⟩) hS.2.2 d_L_lostAt_16
set_option maxHeartbeats 1000000 in
set_option maxRecDepth 100000 in
theorem c_L_count_ok (l : Launch) (D : va_G) (t0 : Nat) (g : ZG) (z : ZT) (sz ao : Nat) (co : ClassId) (f : Nat → Int64) (v : Int32)  (hst : l.stackTraces = false) : Met l y_L_count w_L_count ({ frames := 7, cells := 1, slots := 6, locals := 120 }) (zPre D t0 ((co, .long) :: zT g z) ((ao, .inl (co, 1, .inr (.inl f))) :: zW t0 g z) sz [.ref (g_h g), .int v, .ref ao]) (va_Qi (fun k9 (u9 : ZT × (Nat → Int64)) => (k9 = nI 0 ∧ ∃ x : Int32, u9.2 0 = x.toInt64 ∧ (fun (x : Int32) (u : ZT) => u = z ∧ (0 ≤ v.toInt ∧ v.toInt ≤ 4) ∧ x = nI (zcount z v.toInt.toNat)) x u9.1) ∨ (k9 = nI 1 ∧ ¬ (0 ≤ v.toInt ∧ v.toInt ≤ 4) ∧ u9 = (z, f))) (fun (u : ZT × (Nat → Int64)) t => zPost D ((co, .long) :: zT g u.1) (va_A ((ao, .inl (co, 1, .inr (.inl f))) :: zW t0 g z) sz) ((ao, .inl (co, 1, .inr (.inl u.2))) :: zW t0 g u.1) t) (va_A ((ao, .inl (co, 1, .inr (.inl f))) :: zW t0 g z) sz)) 1 6 (va_A ((ao, .inl (co, 1, .inr (.inl f))) :: zW t0 g z) sz) := by
  refine va_MetW (cc := c_L_count) (maxL := 4) (ret := (some .int)) (hh := [((0), (9), (12), (13))]) (by decide) rfl ?_
  intro p e s m args below meth c s₁ B hml hv
  obtain ⟨rfl, hsz, hP, hK, hD0, hE⟩ := hv
  have hx := B.exec
  have hb := B.bytes
  have hr := B.returns
  have hts := atoms_spec (ws := w_L_count) B.pre
  have htab := vx_table (x := y_L_count) B (hts _ List.mem_cons_self)
  have hk : ∀ w ∈ zB, w.before _ s = true := fun w h => hts w (List.mem_cons_of_mem _ h)
  have hown : s.vm.findClass "ZoneHeapLaw" = some m.cls := findClass_of_methodNamed B.named
  have hlocks := B.notSynchronized
  subst hsz
  have hD := hD0.self (sz := s.heap.size)
  generalize hAe : va_A ((ao, .inl (co, 1, .inr (.inl f))) :: zW t0 g z) s.heap.size = A at hD hE ⊢
  have hA : ∀ q : Nat, s.heap.size ≤ q → A q := fun q h => by rw [← hAe]; exact Or.inr h
  have hS : va_S A s.heap s.heap [] := va_S.rf
  have hl := lv_entry ([.ref (g_h g), .int v, .ref ao]) (n := 4) (Nat.le_of_ble_eq_true rfl)
  rw [lg_entry_eq]
  generalize (lg_sl ([.ref (g_h g), .int v, .ref ao]) ++ List.replicate (4 - (lg_sl ([.ref (g_h g), .int v, .ref ao])).length) Slot.unset).toArray = ls at hl ⊢
  have hl : lv_has ls 4 [(0, .ref (g_h g)), (1, .int v), (2, .ref ao)] := hl
  have hKo : va_K D zcl [(co, .long)] s := hK.sub [0] rfl
  have hKz : va_K D zcl (zT g z) s := ⟨hK.1, fun k9 q9 h9 => hK.2 (k9 + 1) q9 h9⟩
  have hPo : va_P D zcl [(ao, .inl (co, 1, .inr (.inl f)))] s.heap := zP_l (r := [(ao, .inl (co, 1, .inr (.inl f)))]) hP
  have hPz : va_P D zcl (zW t0 g z) s.heap := zP_r (r := [(ao, .inl (co, 1, .inr (.inl f)))]) hP
  have hwZ : zHere D t0 (zT g z) (zW t0 g z) A s s.heap [] := ⟨hPz, hKz, zD_r (r := [(ao, .inl (co, 1, .inr (.inl f)))]) hD, hS, hA, hE⟩
  refine lv_aload_n hx hb d_L_count_0 rfl (lv_at hl 2 rfl) ?_
  refine lv_iconst (v := nI 0) hx hb d_L_count_1 (by decide) ?_
  refine lv_aload_n hx hb d_L_count_2 rfl (lv_at hl 0 rfl) ?_
  refine lv_iload_n hx hb d_L_count_3 rfl (lv_at hl 1 rfl) ?_
  refine zxciF (zxV (n := 1) (As := [.int v]) (rest := [.int (nI 0), .ref ao]) ⟨hx, hb, hml, hown, hk⟩ (c_Z_count_ok l D t0 g z s.heap.size v hst) zk442 zk443 zk444 zk1 kc_Z_count ⟨rfl, by decide, by decide, by decide⟩ rfl rfl ⟨Nat.le_of_ble_eq_true rfl, Nat.le_of_ble_eq_true rfl⟩ hwZ (va_recv hKz hPz (ci := 0) (q0 := 0) rfl rfl) rfl hl.1 rfl (Nat.le_of_ble_eq_true rfl) d_L_count_4 ⟨Nat.le_of_ble_eq_true rfl, Nat.le_of_ble_eq_true rfl⟩) hwZ hPo hD (fun E ce q9 H locs hEX hPo hPz hD hS hce hcv hcl => ?_) (fun x u H locs hu hPo hPz hKu hD hS => ?_)
  · obtain ⟨rfl, hcnd⟩ := hEX
    refine vx_catch (name := "java/lang/IllegalArgumentException") hown [] ⟨0, 9, 12, 13⟩ [] htab (fun z9 h9 => absurd h9 List.not_mem_nil) (by decide) (by decide) (hk _ zk138) (va_Nw.use rfl (hE.1.1 _ zn148)) hce hcv hcl ?_
    refine lv_astore_n (lv' := [(3, .ref q9), (0, .ref (g_h g)), (1, .int v), (2, .ref ao)]) hx hb d_L_count_12 rfl hl (by decide) rfl (fun ls hl => ?_)
    refine lv_iconst (v := nI 1) hx hb d_L_count_13 (by decide) ?_
    have hP : va_P D zcl ((ao, .inl (co, 1, .inr (.inl f))) :: zW t0 g z) H := zP_app (r := [(ao, .inl (co, 1, .inr (.inl f)))]) hPo hPz
    exact W.iret hx hb hr (fun t ht hW => ⟨⟨_, (z, f), rfl, Or.inr (⟨rfl, hcnd, rfl⟩), by rw [ht]; exact hP, va_K.moved hW.alike hK, hD⟩, hS.F ht⟩) hS.2.2 d_L_count_14
  have hP : va_P D zcl ((ao, .inl (co, 1, .inr (.inl f))) :: zW t0 g z) H := zP_app (r := [(ao, .inl (co, 1, .inr (.inl f)))]) hPo hPz
  have hK : va_K D zcl ((co, .long) :: zT g z) s := hKo.app hKu
  have hD : va_D A ((ao, .inl (co, 1, .inr (.inl f))) :: zW t0 g z) := hD
  refine lv_i2l hx hb d_L_count_7 rfl ?_
  refine va_last hx hb hK hP hD hS 0 0 rfl rfl (vp_in_nI (by decide) (by decide)) d_L_count_8 (fun H locs hP hD hS => ?_)
  have hP : va_P D zcl ((ao, .inl (co, 1, .inr (.inl (vp_updL f (nI 0).toNatClampNeg x.toInt64)))) :: zW t0 g z) H := hP
  have hD : va_D A ((ao, .inl (co, 1, .inr (.inl (vp_updL f (nI 0).toNatClampNeg x.toInt64)))) :: zW t0 g z) := hD
  refine lv_goto (tgt := 15) hx hb d_L_count_9 (by decide) ?_
  refine lv_iconst (v := nI 0) hx hb d_L_count_15 (by decide) ?_
  exact W.iret hx hb hr (fun t ht hW => ⟨⟨_, (z, vp_updL f (nI 0).toNatClampNeg x.toInt64), rfl, Or.inl ⟨rfl, x, zupL (f := f) (x := x.toInt64), ⟨rfl, hu⟩⟩, by rw [ht]; exact hP, va_K.moved hW.alike hK, hD⟩, hS.F ht⟩) hS.2.2 d_L_count_16
