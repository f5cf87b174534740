set_option maxHeartbeats 1000000 in
set_option maxRecDepth 100000 in
theorem c_B_init_ok (l : Launch) (D : va_G) (t0 : Nat) (tys : List (ClassId × FieldType)) (w : va_W) (sz : Nat) (q b n : Nat) : Met l y_B_init w_B_init ({ frames := 1, cells := 0, slots := 0, locals := 24 }) (zPre D t0 (tys) (w ++ [(q, .inr (1, [.int (nI 0), .int (nI 0), .int (nI 0), .int (nI 0)]))]) sz [.ref q, .int (nI b), .int (nI n)]) (va_Qv (fun _ => True) (fun (u : Unit) t => zPost D (tys) (va_A (w ++ [(q, .inr (1, [.int (nI 0), .int (nI 0), .int (nI 0), .int (nI 0)]))]) sz) (w ++ [(q, .inr (1, [.int (nI b), .int (nI n), .int (zb false), .int (zb false)]))]) t) (va_A (w ++ [(q, .inr (1, [.int (nI 0), .int (nI 0), .int (nI 0), .int (nI 0)]))]) sz)) 0 0 (va_A (w ++ [(q, .inr (1, [.int (nI 0), .int (nI 0), .int (nI 0), .int (nI 0)]))]) sz) := by
  refine Met.ofW (cc := c_B_init) (maxL := 3) (ret := none) (by decide) rfl ?_
  intro p e s m args below meth c s₁ B hml hv
  obtain ⟨rfl, hsz, hP, hK, hD0, hE⟩ := hv
  have hx := B.exec
  have hb := B.bytes
  have hr := B.returns
  have hts := atoms_spec (ws := w_B_init) B.pre
  have hk : ∀ w ∈ zB, w.before _ s = true := fun w h => hts w (List.mem_cons_of_mem _ h)
  have hown : s.vm.findClass "ZoneHeap$Block" = some m.cls := findClass_of_methodNamed B.named
  have hlocks := B.notSynchronized
  subst hsz
  have hD := hD0.self (sz := s.heap.size)
  generalize hAe : va_A (w ++ [(q, .inr (1, [.int (nI 0), .int (nI 0), .int (nI 0), .int (nI 0)]))]) s.heap.size = A at hD hE ⊢
  have hA : ∀ q : Nat, s.heap.size ≤ q → A q := fun q h => by rw [← hAe]; exact Or.inr h
  have hS : va_S A s.heap s.heap [] := va_S.rf
  have hl := lv_entry ([.ref q, .int (nI b), .int (nI n)]) (n := 3) (Nat.le_of_ble_eq_true rfl)
  rw [lg_entry_eq]
  generalize (lg_sl ([.ref q, .int (nI b), .int (nI n)]) ++ List.replicate (3 - (lg_sl ([.ref q, .int (nI b), .int (nI n)])).length) Slot.unset).toArray = ls at hl ⊢
  have hl : lv_has ls 3 [(0, .ref q), (1, .int (nI b)), (2, .int (nI n))] := hl
  have hin : meth.name = "<init>" := (name_of_methodNamed B.named B.method).1
  refine lv_aload_n hx hb d_B_init_0 rfl (lv_at hl 0 rfl) ?_
  refine W.objInit hx hb hown (hk _ zk230) (hk _ zk25) (hk _ kc_O_init) rfl (by rw [hml]; exact hl.1) rfl d_B_init_1 (Nat.le_of_ble_eq_true rfl) (Nat.le_of_ble_eq_true rfl) ?_
  refine W.eq (g2 := F0 m 4 ls []) rfl ?_
  refine lv_aload_n hx hb d_B_init_4 rfl (lv_at hl 0 rfl) ?_
  refine lv_iconst (v := nI 0) hx hb d_B_init_5 (by decide) ?_
  refine zh_t (show nI 0 = zb false from rfl) ?_
  refine va_put (D := D) (ci := 1) (v := .int (zb false)) (ty := .boolean) (C := RB) (T := TB) (N := 4) hx hb hk inB tyB okB nmB hown hK hP hD hS w.length zlast rfl 2 (by decide) (hk _ zk235) (fun _ h9 => h9) rfl (by decide +kernel) (zh_nar _) (zh_fit _) (Nat.le_of_ble_eq_true rfl) d_B_init_6 (fun H locs hP hD hS => ?_)
  rw [zlset] at hP hD
  have hP : va_P D zcl (w ++ [(q, .inr (1, [.int (nI 0), .int (nI 0), .int (zb false), .int (nI 0)]))]) H := hP
  have hD : va_D A (w ++ [(q, .inr (1, [.int (nI 0), .int (nI 0), .int (zb false), .int (nI 0)]))]) := hD
  refine lv_aload_n hx hb d_B_init_9 rfl (lv_at hl 0 rfl) ?_
  refine lv_iconst (v := nI 0) hx hb d_B_init_10 (by decide) ?_
  refine zh_t (show nI 0 = zb false from rfl) ?_
  refine va_put (D := D) (ci := 1) (v := .int (zb false)) (ty := .boolean) (C := RB) (T := TB) (N := 4) hx hb hk inB tyB okB nmB hown hK hP hD hS w.length zlast rfl 3 (by decide) (hk _ zk237) (fun _ h9 => h9) rfl (by decide +kernel) (zh_nar _) (zh_fit _) (Nat.le_of_ble_eq_true rfl) d_B_init_11 (fun H locs hP hD hS => ?_)
  rw [zlset] at hP hD
  have hP : va_P D zcl (w ++ [(q, .inr (1, [.int (nI 0), .int (nI 0), .int (zb false), .int (zb false)]))]) H := hP
  have hD : va_D A (w ++ [(q, .inr (1, [.int (nI 0), .int (nI 0), .int (zb false), .int (zb false)]))]) := hD
  refine lv_aload_n hx hb d_B_init_14 rfl (lv_at hl 0 rfl) ?_
  refine lv_iload_n hx hb d_B_init_15 rfl (lv_at hl 1 rfl) ?_
  refine va_putF (D := D) (ci := 1) (v := .int (nI b)) (ty := .int) (C := RB) (T := TB) (N := 4) hx hb hk inB tyB okB nmB hown hK hP hD hS w.length zlast rfl 0 (by decide) (hk _ zk231) (fun _ h9 => h9) rfl hin rfl (by decide +kernel) rfl rfl (Nat.le_of_ble_eq_true rfl) d_B_init_16 (fun H locs hP hD hS => ?_)
  rw [zlset] at hP hD
  have hP : va_P D zcl (w ++ [(q, .inr (1, [.int (nI b), .int (nI 0), .int (zb false), .int (zb false)]))]) H := hP
  have hD : va_D A (w ++ [(q, .inr (1, [.int (nI b), .int (nI 0), .int (zb false), .int (zb false)]))]) := hD
  refine lv_aload_n hx hb d_B_init_19 rfl (lv_at hl 0 rfl) ?_
  refine lv_iload_n hx hb d_B_init_20 rfl (lv_at hl 2 rfl) ?_
  refine va_putF (D := D) (ci := 1) (v := .int (nI n)) (ty := .int) (C := RB) (T := TB) (N := 4) hx hb hk inB tyB okB nmB hown hK hP hD hS w.length zlast rfl 1 (by decide) (hk _ zk233) (fun _ h9 => h9) rfl hin rfl (by decide +kernel) rfl rfl (Nat.le_of_ble_eq_true rfl) d_B_init_21 (fun H locs hP hD hS => ?_)
  rw [zlset] at hP hD
  have hP : va_P D zcl (w ++ [(q, .inr (1, [.int (nI b), .int (nI n), .int (zb false), .int (zb false)]))]) H := hP
  have hD : va_D A (w ++ [(q, .inr (1, [.int (nI b), .int (nI n), .int (zb false), .int (zb false)]))]) := hD
  exact W.vret hx hb hr (fun t ht hW => ⟨⟨(), rfl, trivial, by rw [ht]; exact hP, va_K.moved hW.alike hK, hD⟩, hS.F ht⟩) hS.2.2 d_B_init_24
def zq_make (z : ZT) (q k n : Nat) : ZT := (zmk (z_oct z) (zt_set (z_tk z) k (zc n) (some q)) (z_ko z) (z_lb z + 1) (z_lo z + n) (z_mb z + 1) (z_rb z) (z_rn z) (z_lf z) (z_ln z) (z_md z) (z_cE z) (z_aE z) (z_cap z) (z_kl z) (z_LB z ++ [q]) (va_up (z_bs z) q (16 * k)) (va_up (z_bz z) q n) (va_up (z_kp z) q false) (va_up (z_rc z) q false))
set_option maxHeartbeats 1000000 in
set_option maxRecDepth 100000 in
theorem c_Z_make_ok (l : Launch) (D : va_G) (t0 : Nat) (g : ZG) (z : ZT) (sz : Nat) (n : Nat) (hn : n ≤ 2048) : Met l y_Z_make w_Z_make ({ frames := 3, cells := 1, slots := 4, locals := 120 }) (zPre D t0 (zT g z) (zW t0 g z) sz [.ref (g_h g), .int (nI n)]) (va_Qq (fun r u => ∃ k : Nat, zr_room (zt_gap (z_tk z) (zc n)) (zc n) k ∧ ((k = 0 ∧ r = none ∧ u = z) ∨ (k ≠ 0 ∧ ∃ q : Nat, q ∉ z_LB z ∧ r = some q ∧ u = zq_make z q k n))) (fun (u : ZT) t => zPost D (zT g u) (va_A (zW t0 g z) sz) (zW t0 g u) t) (va_A (zW t0 g z) sz)) 1 4 (va_A (zW t0 g z) sz) := by
  refine Met.ofW (cc := c_Z_make) (maxL := 4) (ret := (some (.object "ZoneHeap$Block"))) (by decide) rfl ?_
  intro p e s m args below meth c s₁ B hml hv
  obtain ⟨rfl, hsz, hP, hK, hD0, hE⟩ := hv
  have hx := B.exec
  have hb := B.bytes
  have hr := B.returns
  have hts := atoms_spec (ws := w_Z_make) B.pre
  have hk : ∀ w ∈ zB, w.before _ s = true := fun w h => hts w (List.mem_cons_of_mem _ h)
  have hown : s.vm.findClass "ZoneHeap" = some m.cls := findClass_of_methodNamed B.named
  have hlocks := B.notSynchronized
  subst hsz
  have hD := hD0.self (sz := s.heap.size)
  generalize hAe : va_A (zW t0 g z) s.heap.size = A at hD hE ⊢
  have hA : ∀ q : Nat, s.heap.size ≤ q → A q := fun q h => by rw [← hAe]; exact Or.inr h
  have hS : va_S A s.heap s.heap [] := va_S.rf
  have hl := lv_entry ([.ref (g_h g), .int (nI n)]) (n := 4) (Nat.le_of_ble_eq_true rfl)
  rw [lg_entry_eq]
  generalize (lg_sl ([.ref (g_h g), .int (nI n)]) ++ List.replicate (4 - (lg_sl ([.ref (g_h g), .int (nI n)])).length) Slot.unset).toArray = ls at hl ⊢
  have hl : lv_has ls 4 [(0, .ref (g_h g)), (1, .int (nI n))] := hl
  have hzc := zc_le hn
  refine lv_aload_n hx hb d_Z_make_0 rfl (lv_at hl 0 rfl) ?_
  refine lv_iload_n hx hb d_Z_make_1 rfl (lv_at hl 1 rfl) ?_
  refine vp_callSi (zrS (n := 1) (As := [.int (nI n)]) (rest := [.ref (g_h g)]) ⟨hx, hb, hml, hown, hk⟩ (c_Z_cellsFor_ok l D t0 (zT g z) (zW t0 g z) s.heap.size n hn) zk217 zk218 zk1 kc_Z_cellsFor ⟨by decide, by decide, by decide⟩ rfl rfl ⟨Nat.le_of_ble_eq_true rfl, Nat.le_of_ble_eq_true rfl⟩ ⟨hP, hK, hD, hS, hA, hE⟩ rfl hl.1 rfl (Nat.le_of_ble_eq_true rfl) d_Z_make_2 ⟨Nat.le_of_ble_eq_true rfl, Nat.le_of_ble_eq_true rfl⟩).run (fun r hr1 => ?_)
  subst hr1
  refine vp_callSi (zrV (n := 1) (As := [.int (nI (zc n))]) (rest := []) ⟨hx, hb, hml, hown, hk⟩ (c_Z_firstRoomFor_ok l D t0 g z s.heap.size (zc n) hzc) zk223 zk225 ks_Z_firstRoomFor zk1 kc_Z_firstRoomFor ⟨rfl, by decide, by decide, by decide⟩ rfl rfl ⟨Nat.le_of_ble_eq_true rfl, Nat.le_of_ble_eq_true rfl⟩ ⟨hP, hK, hD, hS, hA, hE⟩ (va_recv hK hP (ci := 0) (q0 := 0) rfl rfl) rfl hl.1 rfl (Nat.le_of_ble_eq_true rfl) d_Z_make_5 ⟨Nat.le_of_ble_eq_true rfl, Nat.le_of_ble_eq_true rfl⟩).run (fun r hr1 => ?_)
  obtain ⟨k, hroom, rfl⟩ := hr1
  by_cases hk0 : k = 0
  · subst hk0
    refine zh_t (show (if (0 : Nat) = 0 then (-1 : Int32) else nI 0) = (-1) from rfl) ?_
    refine lv_istore_n (lv' := [(2, .int ((-1))), (0, .ref (g_h g)), (1, .int (nI n))]) hx hb d_Z_make_8 rfl hl (by decide) rfl (fun ls hl => ?_)
    refine lv_iload_n hx hb d_Z_make_9 rfl (lv_at hl 0 rfl) ?_
    refine lv_iconst (v := ((-1))) hx hb d_Z_make_10 (by decide) ?_
    refine lv_icmp_ne (tgt := 16) hx hb d_Z_make_11 (by decide) (fun h => ?_) (fun h => ?_)
    · exact absurd rfl h
    refine lv_null hx hb d_Z_make_14 ?_
    refine W.widen (k := 1) (n := 4) (by omega) (by omega) ?_
    exact W.aret (v := va_rf (none)) hx hb hr (Or.inl ⟨_, rfl⟩) (va_rf_or _) (fun t ht hW => ⟨⟨none, z, rfl, ⟨0, hroom, Or.inl ⟨rfl, rfl, rfl⟩⟩, by rw [ht]; exact hP, va_K.moved hW.alike hK, hD⟩, hS.F ht⟩) hS.2.2 d_Z_make_15
  have hk5 : 1 ≤ k ∧ k + zc n + 1 ≤ 512 := by
    rcases hroom with ⟨e0, -⟩ | ⟨e1, e2, -, -⟩
    · exact absurd e0 hk0
    · exact ⟨e1, e2⟩
  refine zh_t (show (if k = 0 then (-1 : Int32) else nI k) = nI k from if_neg hk0) ?_
  refine lv_istore_n (lv' := [(2, .int (nI k)), (0, .ref (g_h g)), (1, .int (nI n))]) hx hb d_Z_make_8 rfl hl (by decide) rfl (fun ls hl => ?_)
  refine lv_iload_n hx hb d_Z_make_9 rfl (lv_at hl 0 rfl) ?_
  refine lv_iconst (v := ((-1))) hx hb d_Z_make_10 (by decide) ?_
  refine lv_icmp_ne (tgt := 16) hx hb d_Z_make_11 (by decide) (fun h => ?_) (fun h => ?_)
  rotate_left 1
  · exact absurd h (zne1 (by omega))
  refine va_new (ci := 1) (fs := [.int (nI 0), .int (nI 0), .int (nI 0), .int (nI 0)]) (C := RB) (T := TB) (N := 4) hx hb hk inB tyB okB hown (hk _ zk27) (hk _ zk121) (hk _ zk11) hK hP hD hS hA rfl (fun j hj => by rcases (show j = 0 ∨ j = 1 ∨ j = 2 ∨ j = 3 by omega) with rfl | rfl | rfl | rfl <;> rfl) (Nat.le_of_ble_eq_true rfl) (Nat.le_of_ble_eq_true rfl) d_Z_make_16 (fun q H hP hD hS => ?_)
  have hq : q ∉ z_LB z := zfresh hD
  refine lv_dup hx hb d_Z_make_19 rfl ?_
  refine lv_iload_n hx hb d_Z_make_20 rfl (lv_at hl 0 rfl) ?_
  refine lv_bipush (v := nI 16) hx hb d_Z_make_21 (by decide) ?_
  refine lv_imul hx hb d_Z_make_23 ?_
  refine zh_t (show (nI k * nI 16) = nI (k * 16) from pk_mul _ _) ?_
  refine lv_iload_n hx hb d_Z_make_24 rfl (lv_at hl 2 rfl) ?_
  refine zcv (zrIN (n := 2) (As := [.int (nI (k * 16)), .int (nI n)]) (rest := [.ref q]) ⟨hx, hb, hml, hown, hk⟩ (c_B_init_ok l D t0 (zT g z) (zW t0 g z) H.size q (k * 16) n) zn227 zk228 zk11 kc_B_init rfl ⟨by decide, by decide, by decide⟩ rfl rfl ⟨Nat.le_of_ble_eq_true rfl, Nat.le_of_ble_eq_true rfl⟩ ⟨hP, hK, hD, hS, hA, hE⟩ rfl hl.1 rfl (Nat.le_of_ble_eq_true rfl) d_Z_make_25 ⟨Nat.le_of_ble_eq_true rfl, Nat.le_of_ble_eq_true rfl⟩) ⟨hP, hK, hD, hS, hA, hE⟩ (fun u H locs hu hP hK hD hS => ?_)
  rw [zW_new (A := A) hq] at hP hD
  rw [show k * 16 = 16 * k from by omega] at hP hD
  have hP : va_P D zcl (zW t0 g (zq_new z q (16 * k) n)) H := hP
  have hD : va_D A (zW t0 g (zq_new z q (16 * k) n)) := hD
  have hK : va_K D zcl (zT g (zq_new z q (16 * k) n)) s := hK
  refine lv_astore_n (lv' := [(3, .ref q), (2, .int (nI k)), (0, .ref (g_h g)), (1, .int (nI n))]) hx hb d_Z_make_28 rfl hl (by decide) rfl (fun ls hl => ?_)
  refine lv_aload_n hx hb d_Z_make_29 rfl (lv_at hl 2 rfl) ?_
  refine lv_aload_n hx hb d_Z_make_30 rfl (lv_at hl 0 rfl) ?_
  refine lv_aload_n hx hb d_Z_make_31 rfl (lv_at hl 0 rfl) ?_
  have hqm : q ∈ z_LB (zq_new z q (16 * k) n) := List.mem_append_right _ List.mem_cons_self
  have hb1 : z_bs (zq_new z q (16 * k) n) q = 16 * k := va_up_self _ _ _
  have hb2 : z_bz (zq_new z q (16 * k) n) q = n := va_up_self _ _ _
  refine zcv (zrV (n := 2) (As := [.ref q, .ref q]) (rest := []) ⟨hx, hb, hml, hown, hk⟩ (c_Z_setTaker_some l D t0 g (zq_new z q (16 * k) n) H.size q k (zc n) q hqm hqm hb1 (by rw [hb2]) (by omega) (by rw [hb2]; exact hn)) zk248 zk250 ks_Z_setTaker zk1 kc_Z_setTaker ⟨rfl, by decide, by decide, by decide⟩ rfl rfl ⟨Nat.le_of_ble_eq_true rfl, Nat.le_of_ble_eq_true rfl⟩ ⟨hP, hK, hD, hS, hA, hE⟩ (va_recv hK hP (ci := 0) (q0 := 0) rfl rfl) rfl hl.1 rfl (Nat.le_of_ble_eq_true rfl) d_Z_make_32 ⟨Nat.le_of_ble_eq_true rfl, Nat.le_of_ble_eq_true rfl⟩) ⟨hP, hK, hD, hS, hA, hE⟩ (fun u H locs hu hP hK hD hS => ?_)
  subst hu
  have hP : va_P D zcl (zW t0 g (zu_tk (zq_new z q (16 * k) n) (zt_set (z_tk z) k (zc n) (some q)))) H := hP
  have hK : va_K D zcl (zT g (zu_tk (zq_new z q (16 * k) n) (zt_set (z_tk z) k (zc n) (some q)))) s := hK
  have hD : va_D A (zW t0 g (zu_tk (zq_new z q (16 * k) n) (zt_set (z_tk z) k (zc n) (some q)))) := hD
  have hP : va_P D zcl (zW t0 g (zmk (z_oct z) (zt_set (z_tk z) k (zc n) (some q)) (z_ko z) (z_lb z) (z_lo z) (z_mb z) (z_rb z) (z_rn z) (z_lf z) (z_ln z) (z_md z) (z_cE z) (z_aE z) (z_cap z) (z_kl z) (z_LB z ++ [q]) (va_up (z_bs z) q (16 * k)) (va_up (z_bz z) q n) (va_up (z_kp z) q false) (va_up (z_rc z) q false))) H := hP
  have hD : va_D A (zW t0 g (zmk (z_oct z) (zt_set (z_tk z) k (zc n) (some q)) (z_ko z) (z_lb z) (z_lo z) (z_mb z) (z_rb z) (z_rn z) (z_lf z) (z_ln z) (z_md z) (z_cE z) (z_aE z) (z_cap z) (z_kl z) (z_LB z ++ [q]) (va_up (z_bs z) q (16 * k)) (va_up (z_bz z) q n) (va_up (z_kp z) q false) (va_up (z_rc z) q false))) := hD
  have hK : va_K D zcl (zT g (zmk (z_oct z) (zt_set (z_tk z) k (zc n) (some q)) (z_ko z) (z_lb z) (z_lo z) (z_mb z) (z_rb z) (z_rn z) (z_lf z) (z_ln z) (z_md z) (z_cE z) (z_aE z) (z_cap z) (z_kl z) (z_LB z ++ [q]) (va_up (z_bs z) q (16 * k)) (va_up (z_bz z) q n) (va_up (z_kp z) q false) (va_up (z_rc z) q false))) s := hK
  refine lv_aload_n hx hb d_Z_make_35 rfl (lv_at hl 2 rfl) ?_
  refine lv_dup hx hb d_Z_make_36 rfl ?_
  refine va_get (D := D) (ci := 0) (v := .int (nI (z_lb z))) (C := RZ) (T := TZ) (N := 11) hx hb hk inZ hown hK hP 0 rfl rfl 4 (by decide) (hk _ zk60) (fun _ h9 => h9) rfl d_Z_make_37 ?_
  refine lv_iconst (v := nI 1) hx hb d_Z_make_40 (by decide) ?_
  refine lv_iadd hx hb d_Z_make_41 ?_
  refine zh_t (show (nI (z_lb z) + nI 1) = nI (z_lb z + 1) from nI_add _ _) ?_
  refine va_put (D := D) (ci := 0) (v := .int (nI (z_lb z + 1))) (ty := .int) (C := RZ) (T := TZ) (N := 11) hx hb hk inZ tyZ okZ nmZ hown hK hP hD hS 0 rfl rfl 4 (by decide) (hk _ zk60) (fun _ h9 => h9) rfl (by decide +kernel) rfl rfl (Nat.le_of_ble_eq_true rfl) d_Z_make_42 (fun H locs hP hD hS => ?_)
  have hP : va_P D zcl (zW t0 g (zmk (z_oct z) (zt_set (z_tk z) k (zc n) (some q)) (z_ko z) (z_lb z + 1) (z_lo z) (z_mb z) (z_rb z) (z_rn z) (z_lf z) (z_ln z) (z_md z) (z_cE z) (z_aE z) (z_cap z) (z_kl z) (z_LB z ++ [q]) (va_up (z_bs z) q (16 * k)) (va_up (z_bz z) q n) (va_up (z_kp z) q false) (va_up (z_rc z) q false))) H := hP
  have hD : va_D A (zW t0 g (zmk (z_oct z) (zt_set (z_tk z) k (zc n) (some q)) (z_ko z) (z_lb z + 1) (z_lo z) (z_mb z) (z_rb z) (z_rn z) (z_lf z) (z_ln z) (z_md z) (z_cE z) (z_aE z) (z_cap z) (z_kl z) (z_LB z ++ [q]) (va_up (z_bs z) q (16 * k)) (va_up (z_bz z) q n) (va_up (z_kp z) q false) (va_up (z_rc z) q false))) := hD
  refine lv_aload_n hx hb d_Z_make_45 rfl (lv_at hl 2 rfl) ?_
  refine lv_dup hx hb d_Z_make_46 rfl ?_
  refine va_get (D := D) (ci := 0) (v := .int (nI (z_lo z))) (C := RZ) (T := TZ) (N := 11) hx hb hk inZ hown hK hP 0 rfl rfl 5 (by decide) (hk _ zk61) (fun _ h9 => h9) rfl d_Z_make_47 ?_
  refine lv_iload_n hx hb d_Z_make_50 rfl (lv_at hl 3 rfl) ?_
  refine lv_iadd hx hb d_Z_make_51 ?_
  refine zh_t (show (nI (z_lo z) + nI n) = nI (z_lo z + n) from nI_add _ _) ?_
  refine va_put (D := D) (ci := 0) (v := .int (nI (z_lo z + n))) (ty := .int) (C := RZ) (T := TZ) (N := 11) hx hb hk inZ tyZ okZ nmZ hown hK hP hD hS 0 rfl rfl 5 (by decide) (hk _ zk61) (fun _ h9 => h9) rfl (by decide +kernel) rfl rfl (Nat.le_of_ble_eq_true rfl) d_Z_make_52 (fun H locs hP hD hS => ?_)
  have hP : va_P D zcl (zW t0 g (zmk (z_oct z) (zt_set (z_tk z) k (zc n) (some q)) (z_ko z) (z_lb z + 1) (z_lo z + n) (z_mb z) (z_rb z) (z_rn z) (z_lf z) (z_ln z) (z_md z) (z_cE z) (z_aE z) (z_cap z) (z_kl z) (z_LB z ++ [q]) (va_up (z_bs z) q (16 * k)) (va_up (z_bz z) q n) (va_up (z_kp z) q false) (va_up (z_rc z) q false))) H := hP
  have hD : va_D A (zW t0 g (zmk (z_oct z) (zt_set (z_tk z) k (zc n) (some q)) (z_ko z) (z_lb z + 1) (z_lo z + n) (z_mb z) (z_rb z) (z_rn z) (z_lf z) (z_ln z) (z_md z) (z_cE z) (z_aE z) (z_cap z) (z_kl z) (z_LB z ++ [q]) (va_up (z_bs z) q (16 * k)) (va_up (z_bz z) q n) (va_up (z_kp z) q false) (va_up (z_rc z) q false))) := hD
  refine lv_aload_n hx hb d_Z_make_55 rfl (lv_at hl 2 rfl) ?_
  refine lv_dup hx hb d_Z_make_56 rfl ?_
  refine va_get (D := D) (ci := 0) (v := .int (nI (z_mb z))) (C := RZ) (T := TZ) (N := 11) hx hb hk inZ hown hK hP 0 rfl rfl 6 (by decide) (hk _ zk62) (fun _ h9 => h9) rfl d_Z_make_57 ?_
  refine lv_iconst (v := nI 1) hx hb d_Z_make_60 (by decide) ?_
  refine lv_iadd hx hb d_Z_make_61 ?_
  refine zh_t (show (nI (z_mb z) + nI 1) = nI (z_mb z + 1) from nI_add _ _) ?_
  refine va_put (D := D) (ci := 0) (v := .int (nI (z_mb z + 1))) (ty := .int) (C := RZ) (T := TZ) (N := 11) hx hb hk inZ tyZ okZ nmZ hown hK hP hD hS 0 rfl rfl 6 (by decide) (hk _ zk62) (fun _ h9 => h9) rfl (by decide +kernel) rfl rfl (Nat.le_of_ble_eq_true rfl) d_Z_make_62 (fun H locs hP hD hS => ?_)
  have hP : va_P D zcl (zW t0 g (zmk (z_oct z) (zt_set (z_tk z) k (zc n) (some q)) (z_ko z) (z_lb z + 1) (z_lo z + n) (z_mb z + 1) (z_rb z) (z_rn z) (z_lf z) (z_ln z) (z_md z) (z_cE z) (z_aE z) (z_cap z) (z_kl z) (z_LB z ++ [q]) (va_up (z_bs z) q (16 * k)) (va_up (z_bz z) q n) (va_up (z_kp z) q false) (va_up (z_rc z) q false))) H := hP
  have hD : va_D A (zW t0 g (zmk (z_oct z) (zt_set (z_tk z) k (zc n) (some q)) (z_ko z) (z_lb z + 1) (z_lo z + n) (z_mb z + 1) (z_rb z) (z_rn z) (z_lf z) (z_ln z) (z_md z) (z_cE z) (z_aE z) (z_cap z) (z_kl z) (z_LB z ++ [q]) (va_up (z_bs z) q (16 * k)) (va_up (z_bz z) q n) (va_up (z_kp z) q false) (va_up (z_rc z) q false))) := hD
  refine lv_aload_n hx hb d_Z_make_65 rfl (lv_at hl 0 rfl) ?_
  exact W.aret (v := va_rf (some q)) hx hb hr (Or.inl ⟨_, rfl⟩) (va_rf_or _) (fun t ht hW => ⟨⟨some q, _, rfl, ⟨k, hroom, Or.inr ⟨hk0, q, hq, rfl, rfl⟩⟩, by rw [ht]; exact hP, va_K.moved hW.alike hK, hD⟩, hS.F ht⟩) hS.2.2 d_Z_make_66
