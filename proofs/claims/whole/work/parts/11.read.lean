set_option maxHeartbeats 1000000 in
set_option maxRecDepth 100000 in
theorem c_Z_isOctet_ok (l : Launch) (D : va_G) (t0 : Nat) (tys : List (ClassId × FieldType)) (w : va_W) (sz : Nat) (v : Int32) : Met l y_Z_isOctet w_Z_isOctet ({ frames := 0, cells := 0, slots := 0, locals := 0 }) (zPre D t0 (tys) (w) sz [.int v]) (vp_Si (fun r => r = zb (zq_at v).isSome)) 0 0 (fun _ => False) := by
  refine Met.ofW (cc := c_Z_isOctet) (maxL := 1) (ret := (some .boolean)) (by decide) rfl ?_
  intro p e s m args below meth c s₁ B hml hv
  obtain ⟨rfl, hsz, hP, hK, hD0, hE⟩ := hv
  have hx := B.exec
  have hb := B.bytes
  have hr := B.returns
  have hts := atoms_spec (ws := w_Z_isOctet) B.pre
  have hk : ∀ w ∈ zB, w.before _ s = true := fun w h => hts w (List.mem_cons_of_mem _ h)
  have hown : s.vm.findClass "ZoneHeap" = some m.cls := findClass_of_methodNamed B.named
  have hlocks := B.notSynchronized
  subst hsz
  have hD := hD0.self (sz := s.heap.size)
  generalize hAe : va_A (w) s.heap.size = A at hD hE
  have hA : ∀ q : Nat, s.heap.size ≤ q → A q := fun q h => by rw [← hAe]; exact Or.inr h
  have hS : va_S A s.heap s.heap [] := va_S.rf
  have hl := lv_entry ([.int v]) (n := 1) (Nat.le_of_ble_eq_true rfl)
  rw [lg_entry_eq]
  generalize (lg_sl ([.int v]) ++ List.replicate (1 - (lg_sl ([.int v])).length) Slot.unset).toArray = ls at hl ⊢
  have hl : lv_has ls 1 [(0, .int v)] := hl
  refine lv_iload_n hx hb d_Z_isOctet_0 rfl (lv_at hl 0 rfl) ?_
  refine lv_if_lt (tgt := 15) hx hb d_Z_isOctet_1 (by decide) (fun h => ?_) (fun h => ?_)
  · refine lv_iconst (v := nI 0) hx hb d_Z_isOctet_15 (by decide) ?_
    exact W.zret hx hb hr rfl (fun t ht hW => ⟨_, rfl, by rw [zq_at_neg h]; rfl, ht⟩) (fun q h => absurd h List.not_mem_nil) d_Z_isOctet_16
  obtain ⟨x, hx31, rfl⟩ := nI_of h
  refine lv_iload_n hx hb d_Z_isOctet_4 rfl (lv_at hl 0 rfl) ?_
  refine lv_sipush (v := nI 8192) hx hb d_Z_isOctet_5 (by decide) ?_
  refine lv_icmp_ge (tgt := 15) hx hb d_Z_isOctet_8 (by decide) (fun h => ?_) (fun h => ?_)
  · rw [nI_leI (by omega) (by omega)] at h
    refine lv_iconst (v := nI 0) hx hb d_Z_isOctet_15 (by decide) ?_
    exact W.zret hx hb hr rfl (fun t ht hW => ⟨_, rfl, by rw [zq_at_big hx31 h]; rfl, ht⟩) (fun q h => absurd h List.not_mem_nil) d_Z_isOctet_16
  rw [nI_leI (by omega) (by omega)] at h
  refine lv_iconst (v := nI 1) hx hb d_Z_isOctet_11 (by decide) ?_
  refine lv_goto (tgt := 16) hx hb d_Z_isOctet_12 (by decide) ?_
  exact W.zret hx hb hr rfl (fun t ht hW => ⟨_, rfl, by rw [zq_at_some (by omega)]; rfl, ht⟩) (fun q h => absurd h List.not_mem_nil) d_Z_isOctet_16
set_option maxHeartbeats 1000000 in
set_option maxRecDepth 100000 in
theorem c_Z_isTaken_ok (l : Launch) (D : va_G) (t0 : Nat) (g : ZG) (z : ZT) (sz : Nat) (v : Int32) : Met l y_Z_isTaken w_Z_isTaken ({ frames := 0, cells := 0, slots := 0, locals := 0 }) (zPre D t0 (zT g z) (zW t0 g z) sz [.ref (g_h g), .int v]) (vp_Si (fun r => r = zb (decide (0 ≤ v.toInt ∧ v.toInt < 512 ∧ z_tk z v.toInt.toNat ≠ none)))) 0 0 (fun _ => False) := by
  refine Met.ofW (cc := c_Z_isTaken) (maxL := 2) (ret := (some .boolean)) (by decide) rfl ?_
  intro p e s m args below meth c s₁ B hml hv
  obtain ⟨rfl, hsz, hP, hK, hD0, hE⟩ := hv
  have hx := B.exec
  have hb := B.bytes
  have hr := B.returns
  have hts := atoms_spec (ws := w_Z_isTaken) B.pre
  have hk : ∀ w ∈ zB, w.before _ s = true := fun w h => hts w (List.mem_cons_of_mem _ h)
  have hown : s.vm.findClass "ZoneHeap" = some m.cls := findClass_of_methodNamed B.named
  have hlocks := B.notSynchronized
  subst hsz
  have hD := hD0.self (sz := s.heap.size)
  generalize hAe : va_A (zW t0 g z) s.heap.size = A at hD hE
  have hA : ∀ q : Nat, s.heap.size ≤ q → A q := fun q h => by rw [← hAe]; exact Or.inr h
  have hS : va_S A s.heap s.heap [] := va_S.rf
  have hl := lv_entry ([.ref (g_h g), .int v]) (n := 2) (Nat.le_of_ble_eq_true rfl)
  rw [lg_entry_eq]
  generalize (lg_sl ([.ref (g_h g), .int v]) ++ List.replicate (2 - (lg_sl ([.ref (g_h g), .int v])).length) Slot.unset).toArray = ls at hl ⊢
  have hl : lv_has ls 2 [(0, .ref (g_h g)), (1, .int v)] := hl
  refine lv_iload_n hx hb d_Z_isTaken_0 rfl (lv_at hl 1 rfl) ?_
  refine lv_if_lt (tgt := 24) hx hb d_Z_isTaken_1 (by decide) (fun h => ?_) (fun h => ?_)
  · refine lv_iconst (v := nI 0) hx hb d_Z_isTaken_24 (by decide) ?_
    exact W.zret hx hb hr rfl (fun t ht hW => ⟨_, rfl, by rw [decide_eq_false (by have := zi_lt0 h; omega)]; rfl, ht⟩) (fun q h => absurd h List.not_mem_nil) d_Z_isTaken_25
  obtain ⟨x, hx31, rfl⟩ := nI_of h
  refine lv_iload_n hx hb d_Z_isTaken_4 rfl (lv_at hl 1 rfl) ?_
  refine lv_sipush (v := nI 512) hx hb d_Z_isTaken_5 (by decide) ?_
  refine lv_icmp_ge (tgt := 24) hx hb d_Z_isTaken_8 (by decide) (fun h => ?_) (fun h => ?_)
  · rw [nI_leI (by omega) (by omega)] at h
    refine lv_iconst (v := nI 0) hx hb d_Z_isTaken_24 (by decide) ?_
    exact W.zret hx hb hr rfl (fun t ht hW => ⟨_, rfl, by rw [decide_eq_false (by rw [nI_toInt hx31]; omega)]; rfl, ht⟩) (fun q h => absurd h List.not_mem_nil) d_Z_isTaken_25
  rw [nI_leI (by omega) (by omega)] at h
  refine lv_aload_n hx hb d_Z_isTaken_11 rfl (lv_at hl 0 rfl) ?_
  refine va_get (D := D) (ci := 0) (v := .ref (g_aT g)) (C := RZ) (T := TZ) (N := 11) hx hb hk inZ hown hK hP 0 rfl rfl 1 (by decide) (hk _ zk57) (fun _ h9 => h9) rfl d_Z_isTaken_12 ?_
  refine lv_iload_n hx hb d_Z_isTaken_15 rfl (lv_at hl 1 rfl) ?_
  refine va_aldq hx hb hK hP 2 1 rfl rfl (vp_in_nI (by omega) (by decide)) d_Z_isTaken_16 ?_
  refine zh_v (show va_rf (z_tk z (nI x).toNatClampNeg) = va_rf (z_tk z x) from by rw [nI_clamp (by omega)]) ?_
  rcases zopt (z_tk z x) with htk | ⟨a, htk⟩
  · refine zh_v (show va_rf (z_tk z x) = .null from by rw [htk]; rfl) ?_
    refine lv_ifnullN (tgt := 24) hx hb d_Z_isTaken_17 (by decide) ?_
    refine lv_iconst (v := nI 0) hx hb d_Z_isTaken_24 (by decide) ?_
    exact W.zret hx hb hr rfl (fun t ht hW => ⟨_, rfl, by rw [decide_eq_false (by rw [nI_toInt hx31]; rintro ⟨-, -, q⟩; exact q htk)]; rfl, ht⟩) (fun q h => absurd h List.not_mem_nil) d_Z_isTaken_25
  refine zh_v (show va_rf (z_tk z x) = .ref a from by rw [htk]; rfl) ?_
  refine lv_ifnull hx hb d_Z_isTaken_17 ?_
  refine lv_iconst (v := nI 1) hx hb d_Z_isTaken_20 (by decide) ?_
  refine lv_goto (tgt := 25) hx hb d_Z_isTaken_21 (by decide) ?_
  exact W.zret hx hb hr rfl (fun t ht hW => ⟨_, rfl, by rw [decide_eq_true (by rw [nI_toInt hx31]; exact ⟨by omega, by omega, fun q => by rw [show ((x : Int)).toNat = x from rfl, htk] at q; cases q⟩)]; rfl, ht⟩) (fun q h => absurd h List.not_mem_nil) d_Z_isTaken_25
set_option maxHeartbeats 1000000 in
set_option maxRecDepth 100000 in
theorem c_B_has_ok (l : Launch) (D : va_G) (t0 : Nat) (g : ZG) (z : ZT) (sz : Nat) (a x : Nat) (ha : a ∈ z_LB z) (hz : zOK z) (hx : x < 8192) : Met l y_B_has w_B_has ({ frames := 0, cells := 0, slots := 0, locals := 0 }) (zPre D t0 (zT g z) (zW t0 g z) sz [.ref a, .int (nI x)]) (vp_Si (fun r => r = zb (decide (z_bs z a ≤ x ∧ x < z_bs z a + z_bz z a)))) 0 0 (fun _ => False) := by
  have hbk := hz.blk ha
  refine Met.ofW (cc := c_B_has) (maxL := 2) (ret := (some .boolean)) (by decide) rfl ?_
  intro p e s m args below meth c s₁ B hml hv
  obtain ⟨rfl, hsz, hP, hK, hD0, hE⟩ := hv
  have hx := B.exec
  have hb := B.bytes
  have hr := B.returns
  have hts := atoms_spec (ws := w_B_has) B.pre
  have hk : ∀ w ∈ zB, w.before _ s = true := fun w h => hts w (List.mem_cons_of_mem _ h)
  have hown : s.vm.findClass "ZoneHeap$Block" = some m.cls := findClass_of_methodNamed B.named
  have hlocks := B.notSynchronized
  subst hsz
  have hD := hD0.self (sz := s.heap.size)
  generalize hAe : va_A (zW t0 g z) s.heap.size = A at hD hE
  have hA : ∀ q : Nat, s.heap.size ≤ q → A q := fun q h => by rw [← hAe]; exact Or.inr h
  have hS : va_S A s.heap s.heap [] := va_S.rf
  have hl := lv_entry ([.ref a, .int (nI x)]) (n := 2) (Nat.le_of_ble_eq_true rfl)
  rw [lg_entry_eq]
  generalize (lg_sl ([.ref a, .int (nI x)]) ++ List.replicate (2 - (lg_sl ([.ref a, .int (nI x)])).length) Slot.unset).toArray = ls at hl ⊢
  have hl : lv_has ls 2 [(0, .ref a), (1, .int (nI x))] := hl
  refine lv_iload_n hx hb d_B_has_0 rfl (lv_at hl 1 rfl) ?_
  refine lv_aload_n hx hb d_B_has_1 rfl (lv_at hl 0 rfl) ?_
  obtain ⟨k9, hk9⟩ := zpool (t0 := t0) (g := g) (z := z) ha
  refine va_get (D := D) (ci := 1) (v := .int (nI (z_bs z a))) (C := RB) (T := TB) (N := 4) hx hb hk inB hown hK hP k9 hk9 rfl 0 (by decide) (hk _ zk231) (fun _ h9 => h9) rfl d_B_has_2 ?_
  refine lv_icmp_lt (tgt := 25) hx hb d_B_has_5 (by decide) (fun h => ?_) (fun h => ?_)
  · rw [nI_ltI (by omega) (by omega)] at h
    refine lv_iconst (v := nI 0) hx hb d_B_has_25 (by decide) ?_
    exact W.zret hx hb hr rfl (fun t ht hW => ⟨_, rfl, by rw [decide_eq_false (by omega)]; rfl, ht⟩) (fun q h => absurd h List.not_mem_nil) d_B_has_26
  rw [nI_ltI (by omega) (by omega)] at h
  refine lv_iload_n hx hb d_B_has_8 rfl (lv_at hl 1 rfl) ?_
  refine lv_aload_n hx hb d_B_has_9 rfl (lv_at hl 0 rfl) ?_
  obtain ⟨k9, hk9⟩ := zpool (t0 := t0) (g := g) (z := z) ha
  refine va_get (D := D) (ci := 1) (v := .int (nI (z_bs z a))) (C := RB) (T := TB) (N := 4) hx hb hk inB hown hK hP k9 hk9 rfl 0 (by decide) (hk _ zk231) (fun _ h9 => h9) rfl d_B_has_10 ?_
  refine lv_isub hx hb d_B_has_13 ?_
  refine zh_t (show (nI x - nI (z_bs z a)) = nI (x - (z_bs z a)) from pk_sub (by omega)) ?_
  refine lv_aload_n hx hb d_B_has_14 rfl (lv_at hl 0 rfl) ?_
  obtain ⟨k9, hk9⟩ := zpool (t0 := t0) (g := g) (z := z) ha
  refine va_get (D := D) (ci := 1) (v := .int (nI (z_bz z a))) (C := RB) (T := TB) (N := 4) hx hb hk inB hown hK hP k9 hk9 rfl 1 (by decide) (hk _ zk233) (fun _ h9 => h9) rfl d_B_has_15 ?_
  refine lv_icmp_ge (tgt := 25) hx hb d_B_has_18 (by decide) (fun h => ?_) (fun h => ?_)
  · rw [nI_leI (by omega) (by omega)] at h
    refine lv_iconst (v := nI 0) hx hb d_B_has_25 (by decide) ?_
    exact W.zret hx hb hr rfl (fun t ht hW => ⟨_, rfl, by rw [decide_eq_false (by omega)]; rfl, ht⟩) (fun q h => absurd h List.not_mem_nil) d_B_has_26
  rw [nI_leI (by omega) (by omega)] at h
  refine lv_iconst (v := nI 1) hx hb d_B_has_21 (by decide) ?_
  refine lv_goto (tgt := 26) hx hb d_B_has_22 (by decide) ?_
  exact W.zret hx hb hr rfl (fun t ht hW => ⟨_, rfl, by rw [decide_eq_true (by omega)]; rfl, ht⟩) (fun q h => absurd h List.not_mem_nil) d_B_has_26
set_option maxHeartbeats 1000000 in
set_option maxRecDepth 100000 in
theorem c_Z_cellsFor_ok (l : Launch) (D : va_G) (t0 : Nat) (tys : List (ClassId × FieldType)) (w : va_W) (sz : Nat) (n : Nat) (hn : n ≤ 2048) : Met l y_Z_cellsFor w_Z_cellsFor ({ frames := 1, cells := 0, slots := 0, locals := 40 }) (zPre D t0 (tys) (w) sz [.int (nI n)]) (vp_Si (fun r => r = nI (zc n))) 0 0 (fun _ => False) := by
  refine Met.ofW (cc := c_Z_cellsFor) (maxL := 1) (ret := (some .int)) (by decide) rfl ?_
  intro p e s m args below meth c s₁ B hml hv
  obtain ⟨rfl, hsz, hP, hK, hD0, hE⟩ := hv
  have hx := B.exec
  have hb := B.bytes
  have hr := B.returns
  have hts := atoms_spec (ws := w_Z_cellsFor) B.pre
  have hk : ∀ w ∈ zB, w.before _ s = true := fun w h => hts w (List.mem_cons_of_mem _ h)
  have hown : s.vm.findClass "ZoneHeap" = some m.cls := findClass_of_methodNamed B.named
  have hlocks := B.notSynchronized
  subst hsz
  have hD := hD0.self (sz := s.heap.size)
  generalize hAe : va_A (w) s.heap.size = A at hD hE
  have hA : ∀ q : Nat, s.heap.size ≤ q → A q := fun q h => by rw [← hAe]; exact Or.inr h
  have hS : va_S A s.heap s.heap [] := va_S.rf
  have hl := lv_entry ([.int (nI n)]) (n := 1) (Nat.le_of_ble_eq_true rfl)
  rw [lg_entry_eq]
  generalize (lg_sl ([.int (nI n)]) ++ List.replicate (1 - (lg_sl ([.int (nI n)])).length) Slot.unset).toArray = ls at hl ⊢
  have hl : lv_has ls 1 [(0, .int (nI n))] := hl
  refine lv_iconst (v := nI 1) hx hb d_Z_cellsFor_0 (by decide) ?_
  refine lv_iload_n hx hb d_Z_cellsFor_1 rfl (lv_at hl 0 rfl) ?_
  refine lv_bipush (v := nI 16) hx hb d_Z_cellsFor_2 (by decide) ?_
  refine lv_iadd hx hb d_Z_cellsFor_4 ?_
  refine zh_t (show (nI n + nI 16) = nI (n + 16) from nI_add _ _) ?_
  refine lv_iconst (v := nI 1) hx hb d_Z_cellsFor_5 (by decide) ?_
  refine lv_isub hx hb d_Z_cellsFor_6 ?_
  refine zh_t (show (nI (n + 16) - nI 1) = nI (n + 16 - 1) from pk_sub (by omega)) ?_
  refine lv_bipush (v := nI 16) hx hb d_Z_cellsFor_7 (by decide) ?_
  refine lv_idiv hx hb d_Z_cellsFor_9 (by decide) ?_
  refine zh_t (show (nI (n + 16 - 1) / nI 16) = nI ((n + 16 - 1) / 16) from pk_div (by omega) (by decide) (by decide)) ?_
  refine va_mmax hx hb (hml.trans hl.1.symm) hown (hk _ zk220) (hk _ zk221) (hk _ zk10) (hk _ kc_Mt_max) (Nat.le_of_ble_eq_true rfl) (Nat.le_of_ble_eq_true rfl) (Nat.le_refl _) (Nat.le_refl _) d_Z_cellsFor_10 ?_
  exact W.iret hx hb hr (fun t ht hW => ⟨_, rfl, zc_max hn, ht⟩) (fun q h => absurd h List.not_mem_nil) d_Z_cellsFor_13
set_option maxHeartbeats 1000000 in
set_option maxRecDepth 100000 in
theorem c_Z_standingAt_ok (l : Launch) (D : va_G) (t0 : Nat) (g : ZG) (z : ZT) (sz : Nat) (v : Int32) (hz : zOK z) : Met l y_Z_standingAt w_Z_standingAt ({ frames := 1, cells := 0, slots := 0, locals := 20 }) (zPre D t0 (zT g z) (zW t0 g z) sz [.ref (g_h g), .int v]) (va_Sq (fun r => r = zq_st z v)) 0 0 (fun _ => False) := by
  refine Met.ofW (cc := c_Z_standingAt) (maxL := 3) (ret := (some (.object "ZoneHeap$Block"))) (by decide) rfl ?_
  intro p e s m args below meth c s₁ B hml hv
  obtain ⟨rfl, hsz, hP, hK, hD0, hE⟩ := hv
  have hx := B.exec
  have hb := B.bytes
  have hr := B.returns
  have hts := atoms_spec (ws := w_Z_standingAt) B.pre
  have hk : ∀ w ∈ zB, w.before _ s = true := fun w h => hts w (List.mem_cons_of_mem _ h)
  have hown : s.vm.findClass "ZoneHeap" = some m.cls := findClass_of_methodNamed B.named
  have hlocks := B.notSynchronized
  subst hsz
  have hD := hD0.self (sz := s.heap.size)
  generalize hAe : va_A (zW t0 g z) s.heap.size = A at hD hE
  have hA : ∀ q : Nat, s.heap.size ≤ q → A q := fun q h => by rw [← hAe]; exact Or.inr h
  have hS : va_S A s.heap s.heap [] := va_S.rf
  have hl := lv_entry ([.ref (g_h g), .int v]) (n := 3) (Nat.le_of_ble_eq_true rfl)
  rw [lg_entry_eq]
  generalize (lg_sl ([.ref (g_h g), .int v]) ++ List.replicate (3 - (lg_sl ([.ref (g_h g), .int v])).length) Slot.unset).toArray = ls at hl ⊢
  have hl : lv_has ls 3 [(0, .ref (g_h g)), (1, .int v)] := hl
  refine lv_iload_n hx hb d_Z_standingAt_0 rfl (lv_at hl 1 rfl) ?_
  refine vp_callSi (zrS (n := 1) (As := [.int v]) (rest := []) ⟨hx, hb, hml, hown, hk⟩ (c_Z_isOctet_ok l D t0 (zT g z) (zW t0 g z) s.heap.size v) zk111 zk112 zk1 kc_Z_isOctet ⟨by decide, by decide, by decide⟩ rfl rfl ⟨Nat.le_of_ble_eq_true rfl, Nat.le_of_ble_eq_true rfl⟩ ⟨hP, hK, hD, hS, hA, hE⟩ rfl hl.1 rfl (Nat.le_of_ble_eq_true rfl) d_Z_standingAt_1 ⟨Nat.le_of_ble_eq_true rfl, Nat.le_of_ble_eq_true rfl⟩).run (fun r hr => ?_)
  subst hr
  refine lv_if_ne (tgt := 9) hx hb d_Z_standingAt_4 (by decide) (fun h => ?_) (fun h => ?_)
  rotate_left 1
  · rw [zh_zb] at h
    refine lv_null hx hb d_Z_standingAt_7 ?_
    rcases hq : zq_at v with _ | x
    · exact W.aret (v := va_rf (none)) hx hb hr (Or.inl ⟨_, rfl⟩) (va_rf_or _) (fun t ht hW => ⟨none, rfl, by unfold zq_st; rw [hq]; rfl, ht⟩) (fun q h => absurd h List.not_mem_nil) d_Z_standingAt_8
    rw [hq] at h
    cases h
  rw [zh_zb] at h
  rcases hq : zq_at v with _ | x
  · rw [hq] at h
    exact absurd rfl h
  obtain ⟨hx8, rfl⟩ := zq_at_of hq
  refine lv_aload_n hx hb d_Z_standingAt_9 rfl (lv_at hl 0 rfl) ?_
  refine va_get (D := D) (ci := 0) (v := .ref (g_aT g)) (C := RZ) (T := TZ) (N := 11) hx hb hk inZ hown hK hP 0 rfl rfl 1 (by decide) (hk _ zk57) (fun _ h9 => h9) rfl d_Z_standingAt_10 ?_
  refine lv_iload_n hx hb d_Z_standingAt_13 rfl (lv_at hl 1 rfl) ?_
  refine lv_bipush (v := nI 16) hx hb d_Z_standingAt_14 (by decide) ?_
  refine lv_idiv hx hb d_Z_standingAt_16 (by decide) ?_
  refine zh_t (show (nI x / nI 16) = nI (x / 16) from pk_div (by omega) (by decide) (by decide)) ?_
  refine va_aldq hx hb hK hP 2 1 rfl rfl (vp_in_nI (by omega) (by decide)) d_Z_standingAt_17 ?_
  refine zh_v (show va_rf (z_tk z (nI (x / 16)).toNatClampNeg) = va_rf (z_tk z (x / 16)) from by rw [nI_clamp (by omega)]) ?_
  rcases zopt (z_tk z (x / 16)) with htk | ⟨a, htk⟩
  · refine zh_v (show va_rf (z_tk z (x / 16)) = .null from by rw [htk]; rfl) ?_
    refine lv_astore_nN (lv' := [(2, .null), (0, .ref (g_h g)), (1, .int (nI x))]) hx hb d_Z_standingAt_18 rfl hl (by decide) rfl (fun ls hl => ?_)
    refine lv_aload_nN hx hb d_Z_standingAt_19 rfl (lv_at hl 0 rfl) ?_
    refine lv_ifnullN (tgt := 35) hx hb d_Z_standingAt_20 (by decide) ?_
    refine lv_null hx hb d_Z_standingAt_35 ?_
    exact W.aret (v := va_rf (none)) hx hb hr (Or.inl ⟨_, rfl⟩) (va_rf_or _) (fun t ht hW => ⟨none, rfl, by unfold zq_st; rw [hq]; show none = (z_tk z (x / 16)).bind _; rw [htk]; rfl, ht⟩) (fun q h => absurd h List.not_mem_nil) d_Z_standingAt_36
  refine zh_v (show va_rf (z_tk z (x / 16)) = .ref a from by rw [htk]; rfl) ?_
  have ha : a ∈ z_LB z := hz.1 _ a (by omega) htk
  have hbk := hz.blk ha
  refine lv_astore_n (lv' := [(2, .ref a), (0, .ref (g_h g)), (1, .int (nI x))]) hx hb d_Z_standingAt_18 rfl hl (by decide) rfl (fun ls hl => ?_)
  refine lv_aload_n hx hb d_Z_standingAt_19 rfl (lv_at hl 0 rfl) ?_
  refine lv_ifnull hx hb d_Z_standingAt_20 ?_
  refine lv_aload_n hx hb d_Z_standingAt_23 rfl (lv_at hl 0 rfl) ?_
  obtain ⟨k9, hk9⟩ := zpool (t0 := t0) (g := g) (z := z) ha
  refine va_getN (D := D) (ci := 1) (v := .int (nI (z_bs z a))) (C := RB) (T := TB) (N := 4) hx hb hk inB hown hK hP k9 hk9 rfl 0 (by decide) (va_Nw.use rfl (hE.1.1 _ zn232)) (fun _ h9 => h9) rfl d_Z_standingAt_24 ?_
  refine lv_iload_n hx hb d_Z_standingAt_27 rfl (lv_at hl 2 rfl) ?_
  refine lv_icmp_ne (tgt := 35) hx hb d_Z_standingAt_28 (by decide) (fun h => ?_) (fun h => ?_)
  · rw [nI_eq (by omega) (by omega)] at h
    refine lv_null hx hb d_Z_standingAt_35 ?_
    exact W.aret (v := va_rf (none)) hx hb hr (Or.inl ⟨_, rfl⟩) (va_rf_or _) (fun t ht hW => ⟨none, rfl, by unfold zq_st; rw [hq]; show none = (z_tk z (x / 16)).bind _; rw [htk]; show none = if z_bs z a = x then some a else none; rw [if_neg h], ht⟩) (fun q h => absurd h List.not_mem_nil) d_Z_standingAt_36
  rw [nI_eq (by omega) (by omega)] at h
  refine lv_aload_n hx hb d_Z_standingAt_31 rfl (lv_at hl 0 rfl) ?_
  refine lv_goto (tgt := 36) hx hb d_Z_standingAt_32 (by decide) ?_
  exact W.aret (v := va_rf (some a)) hx hb hr (Or.inl ⟨_, rfl⟩) (va_rf_or _) (fun t ht hW => ⟨some a, rfl, by unfold zq_st; rw [hq]; show some a = (z_tk z (x / 16)).bind _; rw [htk]; show some a = if z_bs z a = x then some a else none; rw [if_pos h], ht⟩) (fun q h => absurd h List.not_mem_nil) d_Z_standingAt_36
set_option maxHeartbeats 1000000 in
set_option maxRecDepth 100000 in
theorem c_Z_liveHaving_ok (l : Launch) (D : va_G) (t0 : Nat) (g : ZG) (z : ZT) (sz : Nat) (v : Int32) (hz : zOK z) : Met l y_Z_liveHaving w_Z_liveHaving ({ frames := 1, cells := 0, slots := 0, locals := 24 }) (zPre D t0 (zT g z) (zW t0 g z) sz [.ref (g_h g), .int v]) (va_Sq (fun r => r = zq_hv z v)) 0 0 (fun _ => False) := by
  refine Met.ofW (cc := c_Z_liveHaving) (maxL := 3) (ret := (some (.object "ZoneHeap$Block"))) (by decide) rfl ?_
  intro p e s m args below meth c s₁ B hml hv
  obtain ⟨rfl, hsz, hP, hK, hD0, hE⟩ := hv
  have hx := B.exec
  have hb := B.bytes
  have hr := B.returns
  have hts := atoms_spec (ws := w_Z_liveHaving) B.pre
  have hk : ∀ w ∈ zB, w.before _ s = true := fun w h => hts w (List.mem_cons_of_mem _ h)
  have hown : s.vm.findClass "ZoneHeap" = some m.cls := findClass_of_methodNamed B.named
  have hlocks := B.notSynchronized
  subst hsz
  have hD := hD0.self (sz := s.heap.size)
  generalize hAe : va_A (zW t0 g z) s.heap.size = A at hD hE
  have hA : ∀ q : Nat, s.heap.size ≤ q → A q := fun q h => by rw [← hAe]; exact Or.inr h
  have hS : va_S A s.heap s.heap [] := va_S.rf
  have hl := lv_entry ([.ref (g_h g), .int v]) (n := 3) (Nat.le_of_ble_eq_true rfl)
  rw [lg_entry_eq]
  generalize (lg_sl ([.ref (g_h g), .int v]) ++ List.replicate (3 - (lg_sl ([.ref (g_h g), .int v])).length) Slot.unset).toArray = ls at hl ⊢
  have hl : lv_has ls 3 [(0, .ref (g_h g)), (1, .int v)] := hl
  refine lv_iload_n hx hb d_Z_liveHaving_0 rfl (lv_at hl 1 rfl) ?_
  refine vp_callSi (zrS (n := 1) (As := [.int v]) (rest := []) ⟨hx, hb, hml, hown, hk⟩ (c_Z_isOctet_ok l D t0 (zT g z) (zW t0 g z) s.heap.size v) zk111 zk112 zk1 kc_Z_isOctet ⟨by decide, by decide, by decide⟩ rfl rfl ⟨Nat.le_of_ble_eq_true rfl, Nat.le_of_ble_eq_true rfl⟩ ⟨hP, hK, hD, hS, hA, hE⟩ rfl hl.1 rfl (Nat.le_of_ble_eq_true rfl) d_Z_liveHaving_1 ⟨Nat.le_of_ble_eq_true rfl, Nat.le_of_ble_eq_true rfl⟩).run (fun r hr => ?_)
  subst hr
  refine lv_if_ne (tgt := 9) hx hb d_Z_liveHaving_4 (by decide) (fun h => ?_) (fun h => ?_)
  rotate_left 1
  · rw [zh_zb] at h
    refine lv_null hx hb d_Z_liveHaving_7 ?_
    rcases hq : zq_at v with _ | x
    · exact W.aret (v := va_rf (none)) hx hb hr (Or.inl ⟨_, rfl⟩) (va_rf_or _) (fun t ht hW => ⟨none, rfl, by unfold zq_hv; rw [hq]; rfl, ht⟩) (fun q h => absurd h List.not_mem_nil) d_Z_liveHaving_8
    rw [hq] at h
    cases h
  rw [zh_zb] at h
  rcases hq : zq_at v with _ | x
  · rw [hq] at h
    exact absurd rfl h
  obtain ⟨hx8, rfl⟩ := zq_at_of hq
  refine lv_aload_n hx hb d_Z_liveHaving_9 rfl (lv_at hl 0 rfl) ?_
  refine va_get (D := D) (ci := 0) (v := .ref (g_aT g)) (C := RZ) (T := TZ) (N := 11) hx hb hk inZ hown hK hP 0 rfl rfl 1 (by decide) (hk _ zk57) (fun _ h9 => h9) rfl d_Z_liveHaving_10 ?_
  refine lv_iload_n hx hb d_Z_liveHaving_13 rfl (lv_at hl 1 rfl) ?_
  refine lv_bipush (v := nI 16) hx hb d_Z_liveHaving_14 (by decide) ?_
  refine lv_idiv hx hb d_Z_liveHaving_16 (by decide) ?_
  refine zh_t (show (nI x / nI 16) = nI (x / 16) from pk_div (by omega) (by decide) (by decide)) ?_
  refine va_aldq hx hb hK hP 2 1 rfl rfl (vp_in_nI (by omega) (by decide)) d_Z_liveHaving_17 ?_
  refine zh_v (show va_rf (z_tk z (nI (x / 16)).toNatClampNeg) = va_rf (z_tk z (x / 16)) from by rw [nI_clamp (by omega)]) ?_
  rcases zopt (z_tk z (x / 16)) with htk | ⟨a, htk⟩
  · refine zh_v (show va_rf (z_tk z (x / 16)) = .null from by rw [htk]; rfl) ?_
    refine lv_astore_nN (lv' := [(2, .null), (0, .ref (g_h g)), (1, .int (nI x))]) hx hb d_Z_liveHaving_18 rfl hl (by decide) rfl (fun ls hl => ?_)
    refine lv_aload_nN hx hb d_Z_liveHaving_19 rfl (lv_at hl 0 rfl) ?_
    refine lv_ifnullN (tgt := 42) hx hb d_Z_liveHaving_20 (by decide) ?_
    refine lv_null hx hb d_Z_liveHaving_42 ?_
    exact W.aret (v := va_rf (none)) hx hb hr (Or.inl ⟨_, rfl⟩) (va_rf_or _) (fun t ht hW => ⟨none, rfl, by unfold zq_hv; rw [hq]; show none = (z_tk z (x / 16)).bind _; rw [htk]; rfl, ht⟩) (fun q h => absurd h List.not_mem_nil) d_Z_liveHaving_43
  refine zh_v (show va_rf (z_tk z (x / 16)) = .ref a from by rw [htk]; rfl) ?_
  have ha : a ∈ z_LB z := hz.1 _ a (by omega) htk
  have hbk := hz.blk ha
  refine lv_astore_n (lv' := [(2, .ref a), (0, .ref (g_h g)), (1, .int (nI x))]) hx hb d_Z_liveHaving_18 rfl hl (by decide) rfl (fun ls hl => ?_)
  refine lv_aload_n hx hb d_Z_liveHaving_19 rfl (lv_at hl 0 rfl) ?_
  refine lv_ifnull hx hb d_Z_liveHaving_20 ?_
  refine lv_aload_n hx hb d_Z_liveHaving_23 rfl (lv_at hl 0 rfl) ?_
  obtain ⟨k9, hk9⟩ := zpool (t0 := t0) (g := g) (z := z) ha
  refine va_getN (D := D) (ci := 1) (v := .int (zb (z_kp z a))) (C := RB) (T := TB) (N := 4) hx hb hk inB hown hK hP k9 hk9 rfl 2 (by decide) (va_Nw.use rfl (hE.1.1 _ zn236)) (fun _ h9 => h9) rfl d_Z_liveHaving_24 ?_
  refine lv_if_ne (tgt := 42) hx hb d_Z_liveHaving_27 (by decide) (fun h => ?_) (fun h => ?_)
  · rw [zh_zb] at h
    refine lv_null hx hb d_Z_liveHaving_42 ?_
    exact W.aret (v := va_rf (none)) hx hb hr (Or.inl ⟨_, rfl⟩) (va_rf_or _) (fun t ht hW => ⟨none, rfl, by unfold zq_hv; rw [hq]; show none = (z_tk z (x / 16)).bind _; rw [htk]; show none = if z_kp z a = false ∧ z_bs z a ≤ x ∧ x < z_bs z a + z_bz z a then some a else none; rw [if_neg (fun q => h q.1)], ht⟩) (fun q h => absurd h List.not_mem_nil) d_Z_liveHaving_43
  rw [zh_zb] at h
  have hkp := h
  refine lv_aload_n hx hb d_Z_liveHaving_30 rfl (lv_at hl 0 rfl) ?_
  refine lv_iload_n hx hb d_Z_liveHaving_31 rfl (lv_at hl 2 rfl) ?_
  refine vp_callSi (zrVN (n := 1) (As := [.int (nI x)]) (rest := []) ⟨hx, hb, hml, hown, hk⟩ (c_B_has_ok l D t0 g z s.heap.size a x ha hz hx8) zn118 zk120 ks_B_has zk11 kc_B_has ⟨by decide, by decide, by decide⟩ rfl rfl ⟨Nat.le_of_ble_eq_true rfl, Nat.le_of_ble_eq_true rfl⟩ ⟨hP, hK, hD, hS, hA, hE⟩ (by obtain ⟨k9, hk9⟩ := zpool (t0 := t0) (g := g) (z := z) ha; exact va_recv hK hP (ci := 1) rfl hk9) rfl hl.1 rfl (Nat.le_of_ble_eq_true rfl) d_Z_liveHaving_32 ⟨Nat.le_of_ble_eq_true rfl, Nat.le_of_ble_eq_true rfl⟩).run (fun r hr => ?_)
  subst hr
  refine lv_if_eq (tgt := 42) hx hb d_Z_liveHaving_35 (by decide) (fun h => ?_) (fun h => ?_)
  · rw [zh_zb] at h
    refine lv_null hx hb d_Z_liveHaving_42 ?_
    exact W.aret (v := va_rf (none)) hx hb hr (Or.inl ⟨_, rfl⟩) (va_rf_or _) (fun t ht hW => ⟨none, rfl, by unfold zq_hv; rw [hq]; show none = (z_tk z (x / 16)).bind _; rw [htk]; show none = if z_kp z a = false ∧ z_bs z a ≤ x ∧ x < z_bs z a + z_bz z a then some a else none; rw [if_neg (fun q => (of_decide_eq_false h) q.2)], ht⟩) (fun q h => absurd h List.not_mem_nil) d_Z_liveHaving_43
  rw [zh_zb] at h
  refine lv_aload_n hx hb d_Z_liveHaving_38 rfl (lv_at hl 0 rfl) ?_
  refine lv_goto (tgt := 43) hx hb d_Z_liveHaving_39 (by decide) ?_
  exact W.aret (v := va_rf (some a)) hx hb hr (Or.inl ⟨_, rfl⟩) (va_rf_or _) (fun t ht hW => ⟨some a, rfl, by unfold zq_hv; rw [hq]; show some a = (z_tk z (x / 16)).bind _; rw [htk]; show some a = if z_kp z a = false ∧ z_bs z a ≤ x ∧ x < z_bs z a + z_bz z a then some a else none; rw [if_pos ⟨hkp, of_decide_eq_true (ts_nf h)⟩], ht⟩) (fun q h => absurd h List.not_mem_nil) d_Z_liveHaving_43
set_option maxHeartbeats 1000000 in
set_option maxRecDepth 100000 in
theorem c_Z_ledToBy_ok (l : Launch) (D : va_G) (t0 : Nat) (g : ZG) (z : ZT) (sz : Nat) (v : Int32) (hz : zOK z) : Met l y_Z_ledToBy w_Z_ledToBy ({ frames := 2, cells := 0, slots := 0, locals := 60 }) (zPre D t0 (zT g z) (zW t0 g z) sz [.ref (g_h g), .int v]) (va_Sq (fun r => r = zq_led z v)) 0 0 (fun _ => False) := by
  refine Met.ofW (cc := c_Z_ledToBy) (maxL := 3) (ret := (some (.object "ZoneHeap$Block"))) (by decide) rfl ?_
  intro p e s m args below meth c s₁ B hml hv
  obtain ⟨rfl, hsz, hP, hK, hD0, hE⟩ := hv
  have hx := B.exec
  have hb := B.bytes
  have hr0 := B.returns
  have hts := atoms_spec (ws := w_Z_ledToBy) B.pre
  have hk : ∀ w ∈ zB, w.before _ s = true := fun w h => hts w (List.mem_cons_of_mem _ h)
  have hown : s.vm.findClass "ZoneHeap" = some m.cls := findClass_of_methodNamed B.named
  have hlocks := B.notSynchronized
  subst hsz
  have hD := hD0.self (sz := s.heap.size)
  generalize hAe : va_A (zW t0 g z) s.heap.size = A at hD hE
  have hA : ∀ q : Nat, s.heap.size ≤ q → A q := fun q h => by rw [← hAe]; exact Or.inr h
  have hS : va_S A s.heap s.heap [] := va_S.rf
  have hl := lv_entry ([.ref (g_h g), .int v]) (n := 3) (Nat.le_of_ble_eq_true rfl)
  rw [lg_entry_eq]
  generalize (lg_sl ([.ref (g_h g), .int v]) ++ List.replicate (3 - (lg_sl ([.ref (g_h g), .int v])).length) Slot.unset).toArray = ls at hl ⊢
  have hl : lv_has ls 3 [(0, .ref (g_h g)), (1, .int v)] := hl
  refine lv_aload_n hx hb d_Z_ledToBy_0 rfl (lv_at hl 0 rfl) ?_
  refine lv_iload_n hx hb d_Z_ledToBy_1 rfl (lv_at hl 1 rfl) ?_
  refine va_csq (zrV (n := 1) (As := [.int v]) (rest := []) ⟨hx, hb, hml, hown, hk⟩ (c_Z_standingAt_ok l D t0 g z s.heap.size v hz) zk107 zk109 ks_Z_standingAt zk1 kc_Z_standingAt ⟨rfl, by decide, by decide, by decide⟩ rfl rfl ⟨Nat.le_of_ble_eq_true rfl, Nat.le_of_ble_eq_true rfl⟩ ⟨hP, hK, hD, hS, hA, hE⟩ (va_recv hK hP (ci := 0) (q0 := 0) rfl rfl) rfl hl.1 rfl (Nat.le_of_ble_eq_true rfl) d_Z_ledToBy_2 ⟨Nat.le_of_ble_eq_true rfl, Nat.le_of_ble_eq_true rfl⟩).run (fun r hr => ?_)
  rcases zopt (r) with hro | ⟨a, hro⟩
  · refine zh_v (show va_rf (r) = .null from by rw [hro]; rfl) ?_
    refine lv_astore_nN (lv' := [(2, .null), (0, .ref (g_h g)), (1, .int v)]) hx hb d_Z_ledToBy_5 rfl hl (by decide) rfl (fun ls hl => ?_)
    refine lv_aload_nN hx hb d_Z_ledToBy_6 rfl (lv_at hl 0 rfl) ?_
    refine lv_ifnullN (tgt := 19) hx hb d_Z_ledToBy_7 (by decide) ?_
    refine lv_aload_n hx hb d_Z_ledToBy_19 rfl (lv_at hl 1 rfl) ?_
    refine lv_iload_n hx hb d_Z_ledToBy_20 rfl (lv_at hl 2 rfl) ?_
    refine va_csq (zrV (n := 1) (As := [.int v]) (rest := []) ⟨hx, hb, hml, hown, hk⟩ (c_Z_liveHaving_ok l D t0 g z s.heap.size v hz) zk114 zk116 ks_Z_liveHaving zk1 kc_Z_liveHaving ⟨rfl, by decide, by decide, by decide⟩ rfl rfl ⟨Nat.le_of_ble_eq_true rfl, Nat.le_of_ble_eq_true rfl⟩ ⟨hP, hK, hD, hS, hA, hE⟩ (va_recv hK hP (ci := 0) (q0 := 0) rfl rfl) rfl hl.1 rfl (Nat.le_of_ble_eq_true rfl) d_Z_ledToBy_21 ⟨Nat.le_of_ble_eq_true rfl, Nat.le_of_ble_eq_true rfl⟩).run (fun r2 hr2 => ?_)
    exact W.aret hx hb hr0 (Or.inl ⟨_, rfl⟩) (va_rf_or _) (fun t ht hW => ⟨r2, rfl, by unfold zq_led; rw [← hr, hro]; exact hr2, ht⟩) (fun q h => absurd h List.not_mem_nil) d_Z_ledToBy_24
  refine zh_v (show va_rf (r) = .ref a from by rw [hro]; rfl) ?_
  have ha : a ∈ z_LB z := zq_st_in hz (by rw [← hr, hro])
  refine lv_astore_n (lv' := [(2, .ref a), (0, .ref (g_h g)), (1, .int v)]) hx hb d_Z_ledToBy_5 rfl hl (by decide) rfl (fun ls hl => ?_)
  refine lv_aload_n hx hb d_Z_ledToBy_6 rfl (lv_at hl 0 rfl) ?_
  refine lv_ifnull hx hb d_Z_ledToBy_7 ?_
  refine lv_aload_n hx hb d_Z_ledToBy_10 rfl (lv_at hl 0 rfl) ?_
  obtain ⟨k9, hk9⟩ := zpool (t0 := t0) (g := g) (z := z) ha
  refine va_getN (D := D) (ci := 1) (v := .int (zb (z_kp z a))) (C := RB) (T := TB) (N := 4) hx hb hk inB hown hK hP k9 hk9 rfl 2 (by decide) (va_Nw.use rfl (hE.1.1 _ zn236)) (fun _ h9 => h9) rfl d_Z_ledToBy_11 ?_
  refine lv_if_ne (tgt := 19) hx hb d_Z_ledToBy_14 (by decide) (fun h => ?_) (fun h => ?_)
  · rw [zh_zb] at h
    refine lv_aload_n hx hb d_Z_ledToBy_19 rfl (lv_at hl 1 rfl) ?_
    refine lv_iload_n hx hb d_Z_ledToBy_20 rfl (lv_at hl 2 rfl) ?_
    refine va_csq (zrV (n := 1) (As := [.int v]) (rest := []) ⟨hx, hb, hml, hown, hk⟩ (c_Z_liveHaving_ok l D t0 g z s.heap.size v hz) zk114 zk116 ks_Z_liveHaving zk1 kc_Z_liveHaving ⟨rfl, by decide, by decide, by decide⟩ rfl rfl ⟨Nat.le_of_ble_eq_true rfl, Nat.le_of_ble_eq_true rfl⟩ ⟨hP, hK, hD, hS, hA, hE⟩ (va_recv hK hP (ci := 0) (q0 := 0) rfl rfl) rfl hl.1 rfl (Nat.le_of_ble_eq_true rfl) d_Z_ledToBy_21 ⟨Nat.le_of_ble_eq_true rfl, Nat.le_of_ble_eq_true rfl⟩).run (fun r2 hr2 => ?_)
    exact W.aret hx hb hr0 (Or.inl ⟨_, rfl⟩) (va_rf_or _) (fun t ht hW => ⟨r2, rfl, by unfold zq_led; rw [← hr, hro]; show r2 = if z_kp z a = false then some a else zq_hv z v; rw [if_neg h]; exact hr2, ht⟩) (fun q h => absurd h List.not_mem_nil) d_Z_ledToBy_24
  rw [zh_zb] at h
  refine lv_aload_n hx hb d_Z_ledToBy_17 rfl (lv_at hl 0 rfl) ?_
  exact W.aret (v := va_rf (some a)) hx hb hr0 (Or.inl ⟨_, rfl⟩) (va_rf_or _) (fun t ht hW => ⟨some a, rfl, by unfold zq_led; rw [← hr, hro]; show some a = if z_kp z a = false then some a else zq_hv z v; rw [if_pos h], ht⟩) (fun q h => absurd h List.not_mem_nil) d_Z_ledToBy_18
set_option maxHeartbeats 1000000 in
set_option maxRecDepth 100000 in
theorem c_Z_wordAt_ok (l : Launch) (D : va_G) (t0 : Nat) (g : ZG) (z : ZT) (sz : Nat) (x : Nat) (hz : zOK z) (hx4 : x + 4 ≤ 8192) : Met l y_Z_wordAt w_Z_wordAt ({ frames := 0, cells := 0, slots := 0, locals := 0 }) (zPre D t0 (zT g z) (zW t0 g z) sz [.ref (g_h g), .int (nI x)]) (vp_Si (fun r => r = nI (zwd (z_oct z) x))) 0 0 (fun _ => False) := by
  refine Met.ofW (cc := c_Z_wordAt) (maxL := 4) (ret := (some .int)) (by decide) rfl ?_
  intro p e s m args below meth c s₁ B hml hv
  obtain ⟨rfl, hsz, hP, hK, hD0, hE⟩ := hv
  have hx := B.exec
  have hb := B.bytes
  have hr := B.returns
  have hts := atoms_spec (ws := w_Z_wordAt) B.pre
  have hk : ∀ w ∈ zB, w.before _ s = true := fun w h => hts w (List.mem_cons_of_mem _ h)
  have hown : s.vm.findClass "ZoneHeap" = some m.cls := findClass_of_methodNamed B.named
  have hlocks := B.notSynchronized
  subst hsz
  have hD := hD0.self (sz := s.heap.size)
  generalize hAe : va_A (zW t0 g z) s.heap.size = A at hD hE
  have hA : ∀ q : Nat, s.heap.size ≤ q → A q := fun q h => by rw [← hAe]; exact Or.inr h
  have hS : va_S A s.heap s.heap [] := va_S.rf
  have hl := lv_entry ([.ref (g_h g), .int (nI x)]) (n := 4) (Nat.le_of_ble_eq_true rfl)
  rw [lg_entry_eq]
  generalize (lg_sl ([.ref (g_h g), .int (nI x)]) ++ List.replicate (4 - (lg_sl ([.ref (g_h g), .int (nI x)])).length) Slot.unset).toArray = ls at hl ⊢
  have hl : lv_has ls 4 [(0, .ref (g_h g)), (1, .int (nI x))] := hl
  refine lv_iconst (v := nI 0) hx hb d_Z_wordAt_0 (by decide) ?_
  refine lv_istore_n (lv' := [(2, .int (nI 0)), (0, .ref (g_h g)), (1, .int (nI x))]) hx hb d_Z_wordAt_1 rfl hl (by decide) rfl (fun ls hl => ?_)
  refine lv_iconst (v := nI 0) hx hb d_Z_wordAt_2 (by decide) ?_
  refine lv_istore_n (lv' := [(3, .int (nI 0)), (2, .int (nI 0)), (0, .ref (g_h g)), (1, .int (nI x))]) hx hb d_Z_wordAt_3 rfl hl (by decide) rfl (fun ls hl => ?_)
  refine lv_iload_n hx hb d_Z_wordAt_4 rfl (lv_at hl 0 rfl) ?_
  refine lv_iconst (v := nI 4) hx hb d_Z_wordAt_5 (by decide) ?_
  refine lv_icmp_ge (tgt := 35) hx hb d_Z_wordAt_6 (by decide) (fun h => ?_) (fun h => ?_)
  · rw [nI_leI (by omega) (by omega)] at h
    exact absurd h (by omega)
  rw [nI_leI (by omega) (by omega)] at h
  refine lv_iload_n hx hb d_Z_wordAt_9 rfl (lv_at hl 1 rfl) ?_
  refine lv_aload_n hx hb d_Z_wordAt_10 rfl (lv_at hl 2 rfl) ?_
  refine va_get (D := D) (ci := 0) (v := .ref (g_aO g)) (C := RZ) (T := TZ) (N := 11) hx hb hk inZ hown hK hP 0 rfl rfl 0 (by decide) (hk _ zk56) (fun _ h9 => h9) rfl d_Z_wordAt_11 ?_
  refine lv_iload_n hx hb d_Z_wordAt_14 rfl (lv_at hl 3 rfl) ?_
  refine lv_iload_n hx hb d_Z_wordAt_15 rfl (lv_at hl 0 rfl) ?_
  refine lv_iadd hx hb d_Z_wordAt_16 ?_
  refine zh_t (show (nI x + nI 0) = nI (x + 0) from nI_add _ _) ?_
  refine va_bald hx hb hK hP 1 0 rfl rfl (vp_in_nI (by omega) (by decide)) d_Z_wordAt_17 ?_
  refine zh_t (show sb_b (z_oct z (nI (x + 0)).toNatClampNeg) = (sb_b (z_oct z (x + 0))) from by rw [nI_clamp (by omega)]) ?_
  refine lv_sipush (v := nI 255) hx hb d_Z_wordAt_18 (by decide) ?_
  refine lv_iand hx hb d_Z_wordAt_21 ?_
  refine lv_bipush (v := nI 8) hx hb d_Z_wordAt_22 (by decide) ?_
  refine lv_iload_n hx hb d_Z_wordAt_24 rfl (lv_at hl 0 rfl) ?_
  refine lv_imul hx hb d_Z_wordAt_25 ?_
  refine zh_t (show (nI 8 * nI 0) = nI (8 * 0) from pk_mul _ _) ?_
  refine lv_ishl hx hb d_Z_wordAt_26 ?_
  refine lv_ior hx hb d_Z_wordAt_27 ?_
  refine lv_topi (fun w0 ew0 => ?_)
  refine lv_istore_n (lv' := [(2, .int w0), (3, .int (nI 0)), (0, .ref (g_h g)), (1, .int (nI x))]) hx hb d_Z_wordAt_28 rfl hl (by decide) rfl (fun ls hl => ?_)
  refine lv_iinc (lv' := [(3, .int (nI (0 + 1))), (2, .int w0), (0, .ref (g_h g)), (1, .int (nI x))]) (v := nI (0 + 1)) hx hb d_Z_wordAt_29 hl (k := 1) rfl (nI_add _ _) (by decide) rfl (fun ls hl => ?_)
  have hl : lv_has ls 4 [(3, .int (nI 1)), (2, .int w0), (0, .ref (g_h g)), (1, .int (nI x))] := hl
  refine lv_goto (tgt := 4) hx hb d_Z_wordAt_32 (by decide) ?_
  refine lv_iload_n hx hb d_Z_wordAt_4 rfl (lv_at hl 0 rfl) ?_
  refine lv_iconst (v := nI 4) hx hb d_Z_wordAt_5 (by decide) ?_
  refine lv_icmp_ge (tgt := 35) hx hb d_Z_wordAt_6 (by decide) (fun h => ?_) (fun h => ?_)
  · rw [nI_leI (by omega) (by omega)] at h
    exact absurd h (by omega)
  rw [nI_leI (by omega) (by omega)] at h
  refine lv_iload_n hx hb d_Z_wordAt_9 rfl (lv_at hl 1 rfl) ?_
  refine lv_aload_n hx hb d_Z_wordAt_10 rfl (lv_at hl 2 rfl) ?_
  refine va_get (D := D) (ci := 0) (v := .ref (g_aO g)) (C := RZ) (T := TZ) (N := 11) hx hb hk inZ hown hK hP 0 rfl rfl 0 (by decide) (hk _ zk56) (fun _ h9 => h9) rfl d_Z_wordAt_11 ?_
  refine lv_iload_n hx hb d_Z_wordAt_14 rfl (lv_at hl 3 rfl) ?_
  refine lv_iload_n hx hb d_Z_wordAt_15 rfl (lv_at hl 0 rfl) ?_
  refine lv_iadd hx hb d_Z_wordAt_16 ?_
  refine zh_t (show (nI x + nI 1) = nI (x + 1) from nI_add _ _) ?_
  refine va_bald hx hb hK hP 1 0 rfl rfl (vp_in_nI (by omega) (by decide)) d_Z_wordAt_17 ?_
  refine zh_t (show sb_b (z_oct z (nI (x + 1)).toNatClampNeg) = (sb_b (z_oct z (x + 1))) from by rw [nI_clamp (by omega)]) ?_
  refine lv_sipush (v := nI 255) hx hb d_Z_wordAt_18 (by decide) ?_
  refine lv_iand hx hb d_Z_wordAt_21 ?_
  refine lv_bipush (v := nI 8) hx hb d_Z_wordAt_22 (by decide) ?_
  refine lv_iload_n hx hb d_Z_wordAt_24 rfl (lv_at hl 0 rfl) ?_
  refine lv_imul hx hb d_Z_wordAt_25 ?_
  refine zh_t (show (nI 8 * nI 1) = nI (8 * 1) from pk_mul _ _) ?_
  refine lv_ishl hx hb d_Z_wordAt_26 ?_
  refine lv_ior hx hb d_Z_wordAt_27 ?_
  refine lv_topi (fun w1 ew1 => ?_)
  refine lv_istore_n (lv' := [(2, .int w1), (3, .int (nI 1)), (0, .ref (g_h g)), (1, .int (nI x))]) hx hb d_Z_wordAt_28 rfl hl (by decide) rfl (fun ls hl => ?_)
  refine lv_iinc (lv' := [(3, .int (nI (1 + 1))), (2, .int w1), (0, .ref (g_h g)), (1, .int (nI x))]) (v := nI (1 + 1)) hx hb d_Z_wordAt_29 hl (k := 1) rfl (nI_add _ _) (by decide) rfl (fun ls hl => ?_)
  have hl : lv_has ls 4 [(3, .int (nI 2)), (2, .int w1), (0, .ref (g_h g)), (1, .int (nI x))] := hl
  refine lv_goto (tgt := 4) hx hb d_Z_wordAt_32 (by decide) ?_
  refine lv_iload_n hx hb d_Z_wordAt_4 rfl (lv_at hl 0 rfl) ?_
  refine lv_iconst (v := nI 4) hx hb d_Z_wordAt_5 (by decide) ?_
  refine lv_icmp_ge (tgt := 35) hx hb d_Z_wordAt_6 (by decide) (fun h => ?_) (fun h => ?_)
  · rw [nI_leI (by omega) (by omega)] at h
    exact absurd h (by omega)
  rw [nI_leI (by omega) (by omega)] at h
  refine lv_iload_n hx hb d_Z_wordAt_9 rfl (lv_at hl 1 rfl) ?_
  refine lv_aload_n hx hb d_Z_wordAt_10 rfl (lv_at hl 2 rfl) ?_
  refine va_get (D := D) (ci := 0) (v := .ref (g_aO g)) (C := RZ) (T := TZ) (N := 11) hx hb hk inZ hown hK hP 0 rfl rfl 0 (by decide) (hk _ zk56) (fun _ h9 => h9) rfl d_Z_wordAt_11 ?_
  refine lv_iload_n hx hb d_Z_wordAt_14 rfl (lv_at hl 3 rfl) ?_
  refine lv_iload_n hx hb d_Z_wordAt_15 rfl (lv_at hl 0 rfl) ?_
  refine lv_iadd hx hb d_Z_wordAt_16 ?_
  refine zh_t (show (nI x + nI 2) = nI (x + 2) from nI_add _ _) ?_
  refine va_bald hx hb hK hP 1 0 rfl rfl (vp_in_nI (by omega) (by decide)) d_Z_wordAt_17 ?_
  refine zh_t (show sb_b (z_oct z (nI (x + 2)).toNatClampNeg) = (sb_b (z_oct z (x + 2))) from by rw [nI_clamp (by omega)]) ?_
  refine lv_sipush (v := nI 255) hx hb d_Z_wordAt_18 (by decide) ?_
  refine lv_iand hx hb d_Z_wordAt_21 ?_
  refine lv_bipush (v := nI 8) hx hb d_Z_wordAt_22 (by decide) ?_
  refine lv_iload_n hx hb d_Z_wordAt_24 rfl (lv_at hl 0 rfl) ?_
  refine lv_imul hx hb d_Z_wordAt_25 ?_
  refine zh_t (show (nI 8 * nI 2) = nI (8 * 2) from pk_mul _ _) ?_
  refine lv_ishl hx hb d_Z_wordAt_26 ?_
  refine lv_ior hx hb d_Z_wordAt_27 ?_
  refine lv_topi (fun w2 ew2 => ?_)
  refine lv_istore_n (lv' := [(2, .int w2), (3, .int (nI 2)), (0, .ref (g_h g)), (1, .int (nI x))]) hx hb d_Z_wordAt_28 rfl hl (by decide) rfl (fun ls hl => ?_)
  refine lv_iinc (lv' := [(3, .int (nI (2 + 1))), (2, .int w2), (0, .ref (g_h g)), (1, .int (nI x))]) (v := nI (2 + 1)) hx hb d_Z_wordAt_29 hl (k := 1) rfl (nI_add _ _) (by decide) rfl (fun ls hl => ?_)
  have hl : lv_has ls 4 [(3, .int (nI 3)), (2, .int w2), (0, .ref (g_h g)), (1, .int (nI x))] := hl
  refine lv_goto (tgt := 4) hx hb d_Z_wordAt_32 (by decide) ?_
  refine lv_iload_n hx hb d_Z_wordAt_4 rfl (lv_at hl 0 rfl) ?_
  refine lv_iconst (v := nI 4) hx hb d_Z_wordAt_5 (by decide) ?_
  refine lv_icmp_ge (tgt := 35) hx hb d_Z_wordAt_6 (by decide) (fun h => ?_) (fun h => ?_)
  · rw [nI_leI (by omega) (by omega)] at h
    exact absurd h (by omega)
  rw [nI_leI (by omega) (by omega)] at h
  refine lv_iload_n hx hb d_Z_wordAt_9 rfl (lv_at hl 1 rfl) ?_
  refine lv_aload_n hx hb d_Z_wordAt_10 rfl (lv_at hl 2 rfl) ?_
  refine va_get (D := D) (ci := 0) (v := .ref (g_aO g)) (C := RZ) (T := TZ) (N := 11) hx hb hk inZ hown hK hP 0 rfl rfl 0 (by decide) (hk _ zk56) (fun _ h9 => h9) rfl d_Z_wordAt_11 ?_
  refine lv_iload_n hx hb d_Z_wordAt_14 rfl (lv_at hl 3 rfl) ?_
  refine lv_iload_n hx hb d_Z_wordAt_15 rfl (lv_at hl 0 rfl) ?_
  refine lv_iadd hx hb d_Z_wordAt_16 ?_
  refine zh_t (show (nI x + nI 3) = nI (x + 3) from nI_add _ _) ?_
  refine va_bald hx hb hK hP 1 0 rfl rfl (vp_in_nI (by omega) (by decide)) d_Z_wordAt_17 ?_
  refine zh_t (show sb_b (z_oct z (nI (x + 3)).toNatClampNeg) = (sb_b (z_oct z (x + 3))) from by rw [nI_clamp (by omega)]) ?_
  refine lv_sipush (v := nI 255) hx hb d_Z_wordAt_18 (by decide) ?_
  refine lv_iand hx hb d_Z_wordAt_21 ?_
  refine lv_bipush (v := nI 8) hx hb d_Z_wordAt_22 (by decide) ?_
  refine lv_iload_n hx hb d_Z_wordAt_24 rfl (lv_at hl 0 rfl) ?_
  refine lv_imul hx hb d_Z_wordAt_25 ?_
  refine zh_t (show (nI 8 * nI 3) = nI (8 * 3) from pk_mul _ _) ?_
  refine lv_ishl hx hb d_Z_wordAt_26 ?_
  refine lv_ior hx hb d_Z_wordAt_27 ?_
  refine lv_topi (fun w3 ew3 => ?_)
  refine lv_istore_n (lv' := [(2, .int w3), (3, .int (nI 3)), (0, .ref (g_h g)), (1, .int (nI x))]) hx hb d_Z_wordAt_28 rfl hl (by decide) rfl (fun ls hl => ?_)
  refine lv_iinc (lv' := [(3, .int (nI (3 + 1))), (2, .int w3), (0, .ref (g_h g)), (1, .int (nI x))]) (v := nI (3 + 1)) hx hb d_Z_wordAt_29 hl (k := 1) rfl (nI_add _ _) (by decide) rfl (fun ls hl => ?_)
  have hl : lv_has ls 4 [(3, .int (nI 4)), (2, .int w3), (0, .ref (g_h g)), (1, .int (nI x))] := hl
  refine lv_goto (tgt := 4) hx hb d_Z_wordAt_32 (by decide) ?_
  refine lv_iload_n hx hb d_Z_wordAt_4 rfl (lv_at hl 0 rfl) ?_
  refine lv_iconst (v := nI 4) hx hb d_Z_wordAt_5 (by decide) ?_
  refine lv_icmp_ge (tgt := 35) hx hb d_Z_wordAt_6 (by decide) (fun h => ?_) (fun h => ?_)
  rotate_left 1
  · rw [nI_leI (by omega) (by omega)] at h
    exact absurd h (by omega)
  rw [nI_leI (by omega) (by omega)] at h
  refine lv_iload_n hx hb d_Z_wordAt_35 rfl (lv_at hl 1 rfl) ?_
  exact W.iret hx hb hr (fun t ht hW => ⟨_, rfl, by rw [ew3, ew2, ew1, ew0]; exact zh_word (hz.2.2.1 _) (hz.2.2.1 _) (hz.2.2.1 _) (hz.2.2.1 _), ht⟩) (fun q h => absurd h List.not_mem_nil) d_Z_wordAt_36
