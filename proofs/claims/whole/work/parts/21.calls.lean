theorem zh_i8 (m : Nat) : (nI m).toInt8.toInt32 = sb_b (m % 256) := by
  unfold sb_b
  congr 1
  apply Int8.toBitVec_inj.mp
  rw [Int32.toBitVec_toInt8, Int32.toBitVec_toInt8]
  show (BitVec.ofNat 32 m).signExtend 8 = (BitVec.ofNat 32 (m % 256)).signExtend 8
  apply BitVec.eq_of_getLsbD_eq
  intro i hi
  rw [BitVec.getLsbD_signExtend, BitVec.getLsbD_signExtend, if_pos (by omega), if_pos (by omega), BitVec.getLsbD_ofNat, BitVec.getLsbD_ofNat, show (256 : Nat) = 2 ^ 8 from rfl, Nat.testBit_mod_two_pow]
  simp [hi]
theorem wb_of32 (x : Int32) : ∃ n : Nat, n < 2 ^ 32 ∧ x = nI n := ⟨x.toBitVec.toNat, x.toBitVec.isLt, Int32.toBitVec_inj.mp (by show _ = BitVec.ofNat 32 _; simp)⟩
theorem zh_byte {n j : Nat} (hn : n < 2 ^ 32) (hj : j < 4) : (((nI n).toUInt32 >>> ((nI (8 * j)).toUInt32 &&& Int32.toUInt32 31)).toInt32).toInt8.toInt32 = sb_b (n / 2 ^ (8 * j) % 256) := by
  have hs : ∀ k, k < 32 → (((nI k).toUInt32 &&& Int32.toUInt32 31).toBitVec % 32).toNat = k := by decide +kernel
  rw [pk_ushrN hn (nI (8 * j)) (8 * j) (hs _ (by omega)), zh_i8]
theorem zh_updb {e b : Nat} {f : Nat → Nat} (h : e < 2 ^ 31) : upd (fun j => sb_b (f j)) (nI e).toNatClampNeg (vp_nar .byte (sb_b b)) = fun j => sb_b (va_up f e b j) := by
  funext j
  rw [nI_clamp h, show vp_nar .byte (sb_b b) = sb_b b from pk_vb (nI b)]
  unfold upd va_up
  split <;> rfl
def zq_wr (oct : Nat → Nat) (x n : Nat) : Nat → Nat := va_up (va_up (va_up (va_up oct (x + 0) (n / 2 ^ (8 * 0) % 256)) (x + 1) (n / 2 ^ (8 * 1) % 256)) (x + 2) (n / 2 ^ (8 * 2) % 256)) (x + 3) (n / 2 ^ (8 * 3) % 256)
def zq_kind (z : ZT) (x : Nat) : Nat := match z_tk z (x / 16) with
  | none => if (1 ≤ x / 16 ∧ z_tk z (x / 16 - 1) ≠ none) ∨ (x / 16 + 1 < 512 ∧ z_tk z (x / 16 + 1) ≠ none) then 3 else 0
  | some a => if z_bs z a ≤ x ∧ x < z_bs z a + z_bz z a then (if z_kp z a = true then 2 else 1) else 3
set_option maxHeartbeats 1000000 in
set_option maxRecDepth 100000 in
theorem c_Z_get_ok (l : Launch) (D : va_G) (t0 : Nat) (g : ZG) (z : ZT) (sz : Nat) (v : Int32) (hz : zOK z) (hst : l.stackTraces = false) : vx_Met l y_Z_get w_Z_get ({ frames := 7, cells := 2, slots := 10, locals := 150 }) (zPre D t0 (zT g z) (zW t0 g z) sz [.ref (g_h g), .int v]) (va_Qi (fun r u => (0 ≤ v.toInt ∧ v.toInt ≤ 2048) ∧ ∃ k : Nat, zr_room (zt_gap (z_tk z) (zc v.toInt.toNat)) (zc v.toInt.toNat) k ∧ r = nI (16 * k) ∧ ((k = 0 ∧ u = z) ∨ (k ≠ 0 ∧ ∃ q : Nat, q ∉ z_LB z ∧ u = zq_make z q k v.toInt.toNat))) (fun (u : ZT) t => zPost D (zT g u) (va_A (zW t0 g z) sz) (zW t0 g u) t) (va_A (zW t0 g z) sz)) (zXc D (zT g z) (zW t0 g z) (va_A (zW t0 g z) sz) (fun E => E = "java/lang/IllegalArgumentException" ∧ ¬ (0 ≤ v.toInt ∧ v.toInt ≤ 2048))) 2 10 (va_A (zW t0 g z) sz) := by
  refine vx_ofW (cc := c_Z_get) (maxL := 3) (ret := (some .int)) (by decide) rfl ?_
  intro p e s m args below meth c s₁ B hml hex hv
  obtain ⟨rfl, hsz, hP, hK, hD0, hE⟩ := hv
  have hx := B.exec
  have hb := B.bytes
  have hr := B.returns
  have hts := atoms_spec (ws := w_Z_get) B.pre
  have hk : ∀ w ∈ zB, w.before _ s = true := fun w h => hts w (List.mem_cons_of_mem _ h)
  have hown : s.vm.findClass "ZoneHeap" = some m.cls := findClass_of_methodNamed B.named
  have hlocks := B.notSynchronized
  subst hsz
  have hD := hD0.self (sz := s.heap.size)
  generalize hAe : va_A (zW t0 g z) s.heap.size = A at hD hE ⊢
  have hA : ∀ q : Nat, s.heap.size ≤ q → A q := fun q h => by rw [← hAe]; exact Or.inr h
  have hS : va_S A s.heap s.heap [] := va_S.rf
  have hl := lv_entry ([.ref (g_h g), .int v]) (n := 3) (Nat.le_of_ble_eq_true rfl)
  rw [lg_entry_eq]
  generalize (lg_sl ([.ref (g_h g), .int v]) ++ List.replicate (3 - (lg_sl ([.ref (g_h g), .int v])).length) Slot.unset).toArray = ls at hl ⊢
  have hl : lv_has ls 3 [(0, .ref (g_h g)), (1, .int v)] := hl
  refine lv_iload_n hx hb d_Z_get_0 rfl (lv_at hl 1 rfl) ?_
  refine zxcv (zxS (n := 1) (As := [.int v]) (rest := []) ⟨hx, hb, hml, hown, hk⟩ (c_Z_refuseWrongSize_ok l D t0 (zT g z) (zW t0 g z) s.heap.size v hst) zk143 zk144 zk1 kc_Z_refuseWrongSize ⟨by decide, by decide, by decide⟩ rfl rfl ⟨Nat.le_of_ble_eq_true rfl, Nat.le_of_ble_eq_true rfl⟩ ⟨hP, hK, hD, hS, hA, hE⟩ rfl hl.1 rfl (Nat.le_of_ble_eq_true rfl) d_Z_get_1 ⟨Nat.le_of_ble_eq_true rfl, Nat.le_of_ble_eq_true rfl⟩) ⟨hP, hK, hD, hS, hA, hE⟩ (fun E ce q9 H locs hEX hP hD hS hce hcv hcl => ?_) (fun u H locs hu hP hK hD hS => ?_)
  · exact zpass hex hlocks hK (hEX) hP hD hS hce hcv hcl (Nat.le_of_ble_eq_true rfl) (Nat.le_of_ble_eq_true rfl)
  have hP : va_P D zcl (zW t0 g z) H := hP
  have hD : va_D A (zW t0 g z) := hD
  have hK : va_K D zcl (zT g z) s := hK
  have hok : (0 ≤ v.toInt ∧ v.toInt ≤ 2048) := hu
  obtain ⟨n, hn, rfl⟩ : ∃ n : Nat, n ≤ 2048 ∧ v = nI n := ⟨v.toInt.toNat, by omega, Int32.toInt_inj.mp (by rw [nI_toInt (by omega)]; omega)⟩
  have hvn : (nI n).toInt.toNat = n := by rw [nI_toInt (by omega)]; rfl
  refine lv_aload_n hx hb d_Z_get_4 rfl (lv_at hl 0 rfl) ?_
  refine lv_iload_n hx hb d_Z_get_5 rfl (lv_at hl 1 rfl) ?_
  refine zcq (zrV (n := 1) (As := [.int (nI n)]) (rest := []) ⟨hx, hb, hml, hown, hk⟩ (c_Z_make_ok l D t0 g z H.size n hn) zk213 zk215 ks_Z_make zk1 kc_Z_make ⟨rfl, by decide, by decide, by decide⟩ rfl rfl ⟨Nat.le_of_ble_eq_true rfl, Nat.le_of_ble_eq_true rfl⟩ ⟨hP, hK, hD, hS, hA, hE⟩ (va_recv hK hP (ci := 0) (q0 := 0) rfl rfl) rfl hl.1 rfl (Nat.le_of_ble_eq_true rfl) d_Z_get_6 ⟨Nat.le_of_ble_eq_true rfl, Nat.le_of_ble_eq_true rfl⟩) ⟨hP, hK, hD, hS, hA, hE⟩ (fun r u H locs hu hP hK hD hS => ?_)
  obtain ⟨k, hroom, hcase⟩ := hu
  rcases hcase with ⟨hk0, rfl, hue⟩ | ⟨hk0, q, hq, rfl, rfl⟩
  · rw [hue] at hP hD hK
    refine zh_v (show va_rf none = .null from rfl) ?_
    refine lv_astore_nN (lv' := [(2, .null), (0, .ref (g_h g)), (1, .int (nI n))]) hx hb d_Z_get_9 rfl hl (by decide) rfl (fun ls hl => ?_)
    refine lv_aload_nN hx hb d_Z_get_10 rfl (lv_at hl 0 rfl) ?_
    refine lv_ifnonnullN hx hb d_Z_get_11 ?_
    refine lv_iconst (v := nI 0) hx hb d_Z_get_14 (by decide) ?_
    refine lv_goto (tgt := 22) hx hb d_Z_get_15 (by decide) ?_
    refine vx_ret ?_
    exact W.iret hx hb hr (fun t ht hW => ⟨⟨_, z, rfl, ⟨hok, k, by rw [hvn]; exact hroom, by rw [hk0], Or.inl ⟨hk0, rfl⟩⟩, by rw [ht]; exact hP, va_K.moved hW.alike hK, hD⟩, hS.F ht⟩) hS.2.2 d_Z_get_22
  refine zh_v (show va_rf (some q) = .ref q from rfl) ?_
  have hP : va_P D zcl (zW t0 g (zq_make z q k n)) H := hP
  have hD : va_D A (zW t0 g (zq_make z q k n)) := hD
  have hK : va_K D zcl (zT g (zq_make z q k n)) s := hK
  have hk5 : k + zc n + 1 ≤ 512 := by
    rcases hroom with ⟨e0, -⟩ | ⟨e1, e2, -, -⟩
    · exact absurd e0 hk0
    · exact e2
  have hqm : q ∈ z_LB (zq_make z q k n) := List.mem_append_right _ List.mem_cons_self
  refine lv_astore_n (lv' := [(2, .ref q), (0, .ref (g_h g)), (1, .int (nI n))]) hx hb d_Z_get_9 rfl hl (by decide) rfl (fun ls hl => ?_)
  refine lv_aload_n hx hb d_Z_get_10 rfl (lv_at hl 0 rfl) ?_
  refine lv_ifnonnull (tgt := 18) hx hb d_Z_get_11 (by decide) ?_
  refine lv_aload_n hx hb d_Z_get_18 rfl (lv_at hl 0 rfl) ?_
  obtain ⟨k9, hk9⟩ := zpool (t0 := t0) (g := g) (z := (zq_make z q k n)) hqm
  refine va_getN (D := D) (ci := 1) (v := .int (nI (z_bs (zq_make z q k n) q))) (C := RB) (T := TB) (N := 4) hx hb hk inB hown hK hP k9 hk9 rfl 0 (by decide) (va_Nw.use rfl (hE.1.1 _ zn232)) (fun _ h9 => h9) rfl d_Z_get_19 ?_
  refine zh_t (show nI (z_bs (zq_make z q k n) q) = nI (16 * k) from congrArg nI (va_up_self _ _ _)) ?_
  refine vx_ret ?_
  exact W.iret hx hb hr (fun t ht hW => ⟨⟨_, (zq_make z q k n), rfl, ⟨hok, k, by rw [hvn]; exact hroom, rfl, Or.inr ⟨hk0, q, hq, by rw [hvn]⟩⟩, by rw [ht]; exact hP, va_K.moved hW.alike hK, hD⟩, hS.F ht⟩) hS.2.2 d_Z_get_22
set_option maxHeartbeats 1000000 in
set_option maxRecDepth 100000 in
theorem c_Z_block_ok (l : Launch) (D : va_G) (t0 : Nat) (g : ZG) (z : ZT) (sz : Nat) (v : Int32) (hz : zOK z) (hst : l.stackTraces = false) : vx_Met l y_Z_block w_Z_block ({ frames := 7, cells := 1, slots := 6, locals := 130 }) (zPre D t0 (zT g z) (zW t0 g z) sz [.ref (g_h g), .int v]) (va_Qi (fun r _ => (∃ x : Nat, zq_at v = some x) ∧ r = (match zq_hv z v with | none => -1 | some a => nI (z_bs z a))) (fun (u : Unit) t => zPost D (zT g z) (va_A (zW t0 g z) sz) (zW t0 g z) t) (va_A (zW t0 g z) sz)) (zXc D (zT g z) (zW t0 g z) (va_A (zW t0 g z) sz) (fun E => E = "java/lang/IndexOutOfBoundsException" ∧ zq_at v = none)) 1 6 (va_A (zW t0 g z) sz) := by
  refine vx_ofW (cc := c_Z_block) (maxL := 3) (ret := (some .int)) (by decide) rfl ?_
  intro p e s m args below meth c s₁ B hml hex hv
  obtain ⟨rfl, hsz, hP, hK, hD0, hE⟩ := hv
  have hx := B.exec
  have hb := B.bytes
  have hr := B.returns
  have hts := atoms_spec (ws := w_Z_block) B.pre
  have hk : ∀ w ∈ zB, w.before _ s = true := fun w h => hts w (List.mem_cons_of_mem _ h)
  have hown : s.vm.findClass "ZoneHeap" = some m.cls := findClass_of_methodNamed B.named
  have hlocks := B.notSynchronized
  subst hsz
  have hD := hD0.self (sz := s.heap.size)
  generalize hAe : va_A (zW t0 g z) s.heap.size = A at hD hE ⊢
  have hA : ∀ q : Nat, s.heap.size ≤ q → A q := fun q h => by rw [← hAe]; exact Or.inr h
  have hS : va_S A s.heap s.heap [] := va_S.rf
  have hl := lv_entry ([.ref (g_h g), .int v]) (n := 3) (Nat.le_of_ble_eq_true rfl)
  rw [lg_entry_eq]
  generalize (lg_sl ([.ref (g_h g), .int v]) ++ List.replicate (3 - (lg_sl ([.ref (g_h g), .int v])).length) Slot.unset).toArray = ls at hl ⊢
  have hl : lv_has ls 3 [(0, .ref (g_h g)), (1, .int v)] := hl
  refine lv_iload_n hx hb d_Z_block_0 rfl (lv_at hl 1 rfl) ?_
  refine zxcv (zxS (n := 1) (As := [.int v]) (rest := []) ⟨hx, hb, hml, hown, hk⟩ (c_Z_refuseWrongOctet_ok l D t0 (zT g z) (zW t0 g z) s.heap.size v hst) zk381 zk382 zk1 kc_Z_refuseWrongOctet ⟨by decide, by decide, by decide⟩ rfl rfl ⟨Nat.le_of_ble_eq_true rfl, Nat.le_of_ble_eq_true rfl⟩ ⟨hP, hK, hD, hS, hA, hE⟩ rfl hl.1 rfl (Nat.le_of_ble_eq_true rfl) d_Z_block_1 ⟨Nat.le_of_ble_eq_true rfl, Nat.le_of_ble_eq_true rfl⟩) ⟨hP, hK, hD, hS, hA, hE⟩ (fun E ce q9 H locs hEX hP hD hS hce hcv hcl => ?_) (fun u H locs hu hP hK hD hS => ?_)
  · exact zpass hex hlocks hK (hEX) hP hD hS hce hcv hcl (Nat.le_of_ble_eq_true rfl) (Nat.le_of_ble_eq_true rfl)
  have hP : va_P D zcl (zW t0 g z) H := hP
  have hD : va_D A (zW t0 g z) := hD
  have hK : va_K D zcl (zT g z) s := hK
  refine lv_aload_n hx hb d_Z_block_4 rfl (lv_at hl 0 rfl) ?_
  refine lv_iload_n hx hb d_Z_block_5 rfl (lv_at hl 1 rfl) ?_
  refine va_csq (zrV (n := 1) (As := [.int v]) (rest := []) ⟨hx, hb, hml, hown, hk⟩ (c_Z_liveHaving_ok l D t0 g z H.size v hz) zk114 zk116 ks_Z_liveHaving zk1 kc_Z_liveHaving ⟨rfl, by decide, by decide, by decide⟩ rfl rfl ⟨Nat.le_of_ble_eq_true rfl, Nat.le_of_ble_eq_true rfl⟩ ⟨hP, hK, hD, hS, hA, hE⟩ (va_recv hK hP (ci := 0) (q0 := 0) rfl rfl) rfl hl.1 rfl (Nat.le_of_ble_eq_true rfl) d_Z_block_6 ⟨Nat.le_of_ble_eq_true rfl, Nat.le_of_ble_eq_true rfl⟩).run (fun r hr1 => ?_)
  rcases zopt (r) with hro | ⟨a, hro⟩
  · refine zh_v (show va_rf (r) = .null from by rw [hro]; rfl) ?_
    refine lv_astore_nN (lv' := [(2, .null), (0, .ref (g_h g)), (1, .int v)]) hx hb d_Z_block_9 rfl hl (by decide) rfl (fun ls hl => ?_)
    refine lv_aload_nN hx hb d_Z_block_10 rfl (lv_at hl 0 rfl) ?_
    refine lv_ifnonnullN hx hb d_Z_block_11 ?_
    refine lv_iconst (v := ((-1))) hx hb d_Z_block_14 (by decide) ?_
    refine lv_goto (tgt := 22) hx hb d_Z_block_15 (by decide) ?_
    refine vx_ret ?_
    exact W.iret hx hb hr (fun t ht hW => ⟨⟨_, (), rfl, ⟨hu, by rw [← hr1, hro]⟩, by rw [ht]; exact hP, va_K.moved hW.alike hK, hD⟩, hS.F ht⟩) hS.2.2 d_Z_block_22
  refine zh_v (show va_rf (r) = .ref a from by rw [hro]; rfl) ?_
  have ha : a ∈ z_LB z := zq_hv_in hz (by rw [← hr1, hro])
  refine lv_astore_n (lv' := [(2, .ref a), (0, .ref (g_h g)), (1, .int v)]) hx hb d_Z_block_9 rfl hl (by decide) rfl (fun ls hl => ?_)
  refine lv_aload_n hx hb d_Z_block_10 rfl (lv_at hl 0 rfl) ?_
  refine lv_ifnonnull (tgt := 18) hx hb d_Z_block_11 (by decide) ?_
  refine lv_aload_n hx hb d_Z_block_18 rfl (lv_at hl 0 rfl) ?_
  obtain ⟨k9, hk9⟩ := zpool (t0 := t0) (g := g) (z := z) ha
  refine va_getN (D := D) (ci := 1) (v := .int (nI (z_bs z a))) (C := RB) (T := TB) (N := 4) hx hb hk inB hown hK hP k9 hk9 rfl 0 (by decide) (va_Nw.use rfl (hE.1.1 _ zn232)) (fun _ h9 => h9) rfl d_Z_block_19 ?_
  refine vx_ret ?_
  exact W.iret hx hb hr (fun t ht hW => ⟨⟨_, (), rfl, ⟨hu, by rw [← hr1, hro]⟩, by rw [ht]; exact hP, va_K.moved hW.alike hK, hD⟩, hS.F ht⟩) hS.2.2 d_Z_block_22
set_option maxHeartbeats 1000000 in
set_option maxRecDepth 100000 in
theorem c_Z_read_ok (l : Launch) (D : va_G) (t0 : Nat) (g : ZG) (z : ZT) (sz : Nat) (v : Int32) (hz : zOK z) (hst : l.stackTraces = false) : vx_Met l y_Z_read w_Z_read ({ frames := 7, cells := 1, slots := 6, locals := 130 }) (zPre D t0 (zT g z) (zW t0 g z) sz [.ref (g_h g), .int v]) (va_Qi (fun r _ => zq_rw z v = 0 ∧ r = nI (zwd (z_oct z) v.toInt.toNat)) (fun (u : Unit) t => zPost D (zT g z) (va_A (zW t0 g z) sz) (zW t0 g z) t) (va_A (zW t0 g z) sz)) (zXc D (zT g z) (zW t0 g z) (va_A (zW t0 g z) sz) (fun E => (E = "java/lang/IndexOutOfBoundsException" ∧ zq_rw z v = 1) ∨ (E = "java/lang/IllegalStateException" ∧ zq_rw z v = 2))) 1 6 (va_A (zW t0 g z) sz) := by
  refine vx_ofW (cc := c_Z_read) (maxL := 2) (ret := (some .int)) (by decide) rfl ?_
  intro p e s m args below meth c s₁ B hml hex hv
  obtain ⟨rfl, hsz, hP, hK, hD0, hE⟩ := hv
  have hx := B.exec
  have hb := B.bytes
  have hr := B.returns
  have hts := atoms_spec (ws := w_Z_read) B.pre
  have hk : ∀ w ∈ zB, w.before _ s = true := fun w h => hts w (List.mem_cons_of_mem _ h)
  have hown : s.vm.findClass "ZoneHeap" = some m.cls := findClass_of_methodNamed B.named
  have hlocks := B.notSynchronized
  subst hsz
  have hD := hD0.self (sz := s.heap.size)
  generalize hAe : va_A (zW t0 g z) s.heap.size = A at hD hE ⊢
  have hA : ∀ q : Nat, s.heap.size ≤ q → A q := fun q h => by rw [← hAe]; exact Or.inr h
  have hS : va_S A s.heap s.heap [] := va_S.rf
  have hl := lv_entry ([.ref (g_h g), .int v]) (n := 2) (Nat.le_of_ble_eq_true rfl)
  rw [lg_entry_eq]
  generalize (lg_sl ([.ref (g_h g), .int v]) ++ List.replicate (2 - (lg_sl ([.ref (g_h g), .int v])).length) Slot.unset).toArray = ls at hl ⊢
  have hl : lv_has ls 2 [(0, .ref (g_h g)), (1, .int v)] := hl
  refine lv_aload_n hx hb d_Z_read_0 rfl (lv_at hl 0 rfl) ?_
  refine lv_iload_n hx hb d_Z_read_1 rfl (lv_at hl 1 rfl) ?_
  refine zxcv (zxV (n := 1) (As := [.int v]) (rest := []) ⟨hx, hb, hml, hown, hk⟩ (c_Z_refuseWrongWord_ok l D t0 g z s.heap.size v hz hst) zk418 zk420 ks_Z_refuseWrongWord zk1 kc_Z_refuseWrongWord ⟨rfl, by decide, by decide, by decide⟩ rfl rfl ⟨Nat.le_of_ble_eq_true rfl, Nat.le_of_ble_eq_true rfl⟩ ⟨hP, hK, hD, hS, hA, hE⟩ (va_recv hK hP (ci := 0) (q0 := 0) rfl rfl) rfl hl.1 rfl (Nat.le_of_ble_eq_true rfl) d_Z_read_2 ⟨Nat.le_of_ble_eq_true rfl, Nat.le_of_ble_eq_true rfl⟩) ⟨hP, hK, hD, hS, hA, hE⟩ (fun E ce q9 H locs hEX hP hD hS hce hcv hcl => ?_) (fun u H locs hu hP hK hD hS => ?_)
  · exact zpass hex hlocks hK (hEX) hP hD hS hce hcv hcl (Nat.le_of_ble_eq_true rfl) (Nat.le_of_ble_eq_true rfl)
  have hP : va_P D zcl (zW t0 g z) H := hP
  have hD : va_D A (zW t0 g z) := hD
  have hK : va_K D zcl (zT g z) s := hK
  obtain ⟨x, a, rfl, hx4, hv⟩ := zq_rw_0 hu
  have hvn : (nI x).toInt.toNat = x := by rw [nI_toInt (by omega)]; rfl
  refine lv_aload_n hx hb d_Z_read_5 rfl (lv_at hl 0 rfl) ?_
  refine lv_iload_n hx hb d_Z_read_6 rfl (lv_at hl 1 rfl) ?_
  refine vp_callSi (zrV (n := 1) (As := [.int (nI x)]) (rest := []) ⟨hx, hb, hml, hown, hk⟩ (c_Z_wordAt_ok l D t0 g z H.size x hz hx4) zk127 zk129 ks_Z_wordAt zk1 kc_Z_wordAt ⟨rfl, by decide, by decide, by decide⟩ rfl rfl ⟨Nat.le_of_ble_eq_true rfl, Nat.le_of_ble_eq_true rfl⟩ ⟨hP, hK, hD, hS, hA, hE⟩ (va_recv hK hP (ci := 0) (q0 := 0) rfl rfl) rfl hl.1 rfl (Nat.le_of_ble_eq_true rfl) d_Z_read_7 ⟨Nat.le_of_ble_eq_true rfl, Nat.le_of_ble_eq_true rfl⟩).run (fun r hr1 => ?_)
  refine vx_ret ?_
  exact W.iret hx hb hr (fun t ht hW => ⟨⟨_, (), rfl, ⟨hu, by rw [hvn]; exact hr1⟩, by rw [ht]; exact hP, va_K.moved hW.alike hK, hD⟩, hS.F ht⟩) hS.2.2 d_Z_read_10
set_option maxHeartbeats 1000000 in
set_option maxRecDepth 100000 in
theorem c_Z_lostAt_ok (l : Launch) (D : va_G) (t0 : Nat) (g : ZG) (z : ZT) (sz : Nat) (v : Int32) (hz : zOK z) (hst : l.stackTraces = false) : vx_Met l y_Z_lostAt w_Z_lostAt ({ frames := 6, cells := 1, slots := 6, locals := 90 }) (zPre D t0 (zT g z) (zW t0 g z) sz [.ref (g_h g), .int v]) (va_Qi (fun r _ => (0 ≤ v.toInt ∧ v.toInt < z_ln z) ∧ r = nI (z_lf z v.toInt.toNat)) (fun (u : Unit) t => zPost D (zT g z) (va_A (zW t0 g z) sz) (zW t0 g z) t) (va_A (zW t0 g z) sz)) (zXc D (zT g z) (zW t0 g z) (va_A (zW t0 g z) sz) (fun E => E = "java/lang/IndexOutOfBoundsException" ∧ ¬ (0 ≤ v.toInt ∧ v.toInt < z_ln z))) 1 6 (va_A (zW t0 g z) sz) := by
  refine vx_ofW (cc := c_Z_lostAt) (maxL := 2) (ret := (some .int)) (by decide) rfl ?_
  intro p e s m args below meth c s₁ B hml hex hv
  obtain ⟨rfl, hsz, hP, hK, hD0, hE⟩ := hv
  have hx := B.exec
  have hb := B.bytes
  have hr := B.returns
  have hts := atoms_spec (ws := w_Z_lostAt) B.pre
  have hk : ∀ w ∈ zB, w.before _ s = true := fun w h => hts w (List.mem_cons_of_mem _ h)
  have hown : s.vm.findClass "ZoneHeap" = some m.cls := findClass_of_methodNamed B.named
  have hlocks := B.notSynchronized
  subst hsz
  have hD := hD0.self (sz := s.heap.size)
  generalize hAe : va_A (zW t0 g z) s.heap.size = A at hD hE ⊢
  have hA : ∀ q : Nat, s.heap.size ≤ q → A q := fun q h => by rw [← hAe]; exact Or.inr h
  have hS : va_S A s.heap s.heap [] := va_S.rf
  have hl := lv_entry ([.ref (g_h g), .int v]) (n := 2) (Nat.le_of_ble_eq_true rfl)
  rw [lg_entry_eq]
  generalize (lg_sl ([.ref (g_h g), .int v]) ++ List.replicate (2 - (lg_sl ([.ref (g_h g), .int v])).length) Slot.unset).toArray = ls at hl ⊢
  have hl : lv_has ls 2 [(0, .ref (g_h g)), (1, .int v)] := hl
  have hln := hz.2.2.2.2.2.1
  refine lv_iload_n hx hb d_Z_lostAt_0 rfl (lv_at hl 1 rfl) ?_
  refine lv_if_lt (tgt := 12) hx hb d_Z_lostAt_1 (by decide) (fun h => ?_) (fun h => ?_)
  · exact zthrow (is := 123) (text := "no such lost block") hst hx hb hk hown hex hlocks ⟨hP, hK, hD, hS, hA, hE⟩ zk384 zk18 (by decide +kernel) zat_I (hl.1.trans hml.symm) d_Z_lostAt_12 d_Z_lostAt_15 d_Z_lostAt_16 d_Z_lostAt_18 d_Z_lostAt_21 (⟨rfl, by have := zi_lt0 h; omega⟩) (Nat.le_of_ble_eq_true rfl) (Nat.le_of_ble_eq_true rfl) (Nat.le_of_ble_eq_true rfl) (Nat.le_of_ble_eq_true rfl) (Nat.le_of_ble_eq_true rfl) (Nat.le_of_ble_eq_true rfl)
  obtain ⟨x, hx31, rfl⟩ := nI_of h
  refine lv_iload_n hx hb d_Z_lostAt_4 rfl (lv_at hl 1 rfl) ?_
  refine lv_aload_n hx hb d_Z_lostAt_5 rfl (lv_at hl 0 rfl) ?_
  refine va_get (D := D) (ci := 0) (v := .int (nI (z_ln z))) (C := RZ) (T := TZ) (N := 11) hx hb hk inZ hown hK hP 0 rfl rfl 10 (by decide) (hk _ zk66) (fun _ h9 => h9) rfl d_Z_lostAt_6 ?_
  refine lv_icmp_lt (tgt := 22) hx hb d_Z_lostAt_9 (by decide) (fun h => ?_) (fun h => ?_)
  rotate_left 1
  · rw [nI_ltI (by omega) (by omega)] at h
    exact zthrow (is := 123) (text := "no such lost block") hst hx hb hk hown hex hlocks ⟨hP, hK, hD, hS, hA, hE⟩ zk384 zk18 (by decide +kernel) zat_I (hl.1.trans hml.symm) d_Z_lostAt_12 d_Z_lostAt_15 d_Z_lostAt_16 d_Z_lostAt_18 d_Z_lostAt_21 (⟨rfl, by rw [nI_toInt hx31]; omega⟩) (Nat.le_of_ble_eq_true rfl) (Nat.le_of_ble_eq_true rfl) (Nat.le_of_ble_eq_true rfl) (Nat.le_of_ble_eq_true rfl) (Nat.le_of_ble_eq_true rfl) (Nat.le_of_ble_eq_true rfl)
  rw [nI_ltI (by omega) (by omega)] at h
  refine lv_aload_n hx hb d_Z_lostAt_22 rfl (lv_at hl 0 rfl) ?_
  refine va_get (D := D) (ci := 0) (v := .ref (g_aL g)) (C := RZ) (T := TZ) (N := 11) hx hb hk inZ hown hK hP 0 rfl rfl 9 (by decide) (hk _ zk65) (fun _ h9 => h9) rfl d_Z_lostAt_23 ?_
  refine lv_iload_n hx hb d_Z_lostAt_26 rfl (lv_at hl 1 rfl) ?_
  refine va_iald hx hb hK hP 5 3 rfl rfl (vp_in_nI (by omega) (by decide)) d_Z_lostAt_27 ?_
  refine zh_t (show nI (z_lf z (nI x).toNatClampNeg) = nI (z_lf z x) from by rw [nI_clamp (by omega)]) ?_
  refine vx_ret ?_
  refine W.widen (k := 1) (n := 6) (by omega) (by omega) ?_
  exact W.iret hx hb hr (fun t ht hW => ⟨⟨_, (), rfl, ⟨by rw [nI_toInt hx31]; omega, by rw [nI_toInt hx31]; rfl⟩, by rw [ht]; exact hP, va_K.moved hW.alike hK, hD⟩, hS.F ht⟩) hS.2.2 d_Z_lostAt_28
set_option maxHeartbeats 1000000 in
set_option maxRecDepth 100000 in
theorem c_Z_kind_ok (l : Launch) (D : va_G) (t0 : Nat) (g : ZG) (z : ZT) (sz : Nat) (v : Int32) (hz : zOK z) (hst : l.stackTraces = false) : vx_Met l y_Z_kind w_Z_kind ({ frames := 7, cells := 1, slots := 6, locals := 130 }) (zPre D t0 (zT g z) (zW t0 g z) sz [.ref (g_h g), .int v]) (va_Qi (fun r _ => ∃ x : Nat, zq_at v = some x ∧ r = nI (zq_kind z x)) (fun (u : Unit) t => zPost D (zT g z) (va_A (zW t0 g z) sz) (zW t0 g z) t) (va_A (zW t0 g z) sz)) (zXc D (zT g z) (zW t0 g z) (va_A (zW t0 g z) sz) (fun E => E = "java/lang/IndexOutOfBoundsException" ∧ zq_at v = none)) 1 6 (va_A (zW t0 g z) sz) := by
  refine vx_ofW (cc := c_Z_kind) (maxL := 4) (ret := (some .int)) (by decide) rfl ?_
  intro p e s m args below meth c s₁ B hml hex hv
  obtain ⟨rfl, hsz, hP, hK, hD0, hE⟩ := hv
  have hx := B.exec
  have hb := B.bytes
  have hr := B.returns
  have hts := atoms_spec (ws := w_Z_kind) B.pre
  have hk : ∀ w ∈ zB, w.before _ s = true := fun w h => hts w (List.mem_cons_of_mem _ h)
  have hown : s.vm.findClass "ZoneHeap" = some m.cls := findClass_of_methodNamed B.named
  have hlocks := B.notSynchronized
  subst hsz
  have hD := hD0.self (sz := s.heap.size)
  generalize hAe : va_A (zW t0 g z) s.heap.size = A at hD hE ⊢
  have hA : ∀ q : Nat, s.heap.size ≤ q → A q := fun q h => by rw [← hAe]; exact Or.inr h
  have hS : va_S A s.heap s.heap [] := va_S.rf
  have hl := lv_entry ([.ref (g_h g), .int v]) (n := 4) (Nat.le_of_ble_eq_true rfl)
  rw [lg_entry_eq]
  generalize (lg_sl ([.ref (g_h g), .int v]) ++ List.replicate (4 - (lg_sl ([.ref (g_h g), .int v])).length) Slot.unset).toArray = ls at hl ⊢
  have hl : lv_has ls 4 [(0, .ref (g_h g)), (1, .int v)] := hl
  refine lv_iload_n hx hb d_Z_kind_0 rfl (lv_at hl 1 rfl) ?_
  refine zxcv (zxS (n := 1) (As := [.int v]) (rest := []) ⟨hx, hb, hml, hown, hk⟩ (c_Z_refuseWrongOctet_ok l D t0 (zT g z) (zW t0 g z) s.heap.size v hst) zk381 zk382 zk1 kc_Z_refuseWrongOctet ⟨by decide, by decide, by decide⟩ rfl rfl ⟨Nat.le_of_ble_eq_true rfl, Nat.le_of_ble_eq_true rfl⟩ ⟨hP, hK, hD, hS, hA, hE⟩ rfl hl.1 rfl (Nat.le_of_ble_eq_true rfl) d_Z_kind_1 ⟨Nat.le_of_ble_eq_true rfl, Nat.le_of_ble_eq_true rfl⟩) ⟨hP, hK, hD, hS, hA, hE⟩ (fun E ce q9 H locs hEX hP hD hS hce hcv hcl => ?_) (fun u H locs hu hP hK hD hS => ?_)
  · exact zpass hex hlocks hK (hEX) hP hD hS hce hcv hcl (Nat.le_of_ble_eq_true rfl) (Nat.le_of_ble_eq_true rfl)
  have hP : va_P D zcl (zW t0 g z) H := hP
  have hD : va_D A (zW t0 g z) := hD
  have hK : va_K D zcl (zT g z) s := hK
  obtain ⟨x, hq⟩ := hu
  obtain ⟨hx8, rfl⟩ := zq_at_of hq
  refine lv_iload_n hx hb d_Z_kind_4 rfl (lv_at hl 1 rfl) ?_
  refine lv_bipush (v := nI 16) hx hb d_Z_kind_5 (by decide) ?_
  refine lv_idiv hx hb d_Z_kind_7 (by decide) ?_
  refine zh_t (show (nI x / nI 16) = nI (x / 16) from pk_div (by omega) (by decide) (by decide)) ?_
  refine lv_istore_n (lv' := [(2, .int (nI (x / 16))), (0, .ref (g_h g)), (1, .int (nI x))]) hx hb d_Z_kind_8 rfl hl (by decide) rfl (fun ls hl => ?_)
  refine lv_aload_n hx hb d_Z_kind_9 rfl (lv_at hl 1 rfl) ?_
  refine va_get (D := D) (ci := 0) (v := .ref (g_aT g)) (C := RZ) (T := TZ) (N := 11) hx hb hk inZ hown hK hP 0 rfl rfl 1 (by decide) (hk _ zk57) (fun _ h9 => h9) rfl d_Z_kind_10 ?_
  refine lv_iload_n hx hb d_Z_kind_13 rfl (lv_at hl 0 rfl) ?_
  refine va_aldq hx hb hK hP 2 1 rfl rfl (vp_in_nI (by omega) (by decide)) d_Z_kind_14 ?_
  refine zh_v (show va_rf (z_tk z (nI (x / 16)).toNatClampNeg) = va_rf (z_tk z (x / 16)) from by rw [nI_clamp (by omega)]) ?_
  rcases zopt (z_tk z (x / 16)) with htk | ⟨a, htk⟩
  · refine zh_v (show va_rf (z_tk z (x / 16)) = .null from by rw [htk]; rfl) ?_
    refine lv_astore_nN (lv' := [(3, .null), (2, .int (nI (x / 16))), (0, .ref (g_h g)), (1, .int (nI x))]) hx hb d_Z_kind_15 rfl hl (by decide) rfl (fun ls hl => ?_)
    refine lv_aload_nN hx hb d_Z_kind_16 rfl (lv_at hl 0 rfl) ?_
    refine lv_ifnonnullN hx hb d_Z_kind_17 ?_
    refine lv_aload_n hx hb d_Z_kind_20 rfl (lv_at hl 2 rfl) ?_
    refine lv_iload_n hx hb d_Z_kind_21 rfl (lv_at hl 1 rfl) ?_
    refine lv_iconst (v := nI 1) hx hb d_Z_kind_22 (by decide) ?_
    refine lv_isub hx hb d_Z_kind_23 ?_
    refine vp_callSi (zrV (n := 1) (As := [.int (nI (x / 16) - nI 1)]) (rest := []) ⟨hx, hb, hml, hown, hk⟩ (c_Z_isTaken_ok l D t0 g z H.size (nI (x / 16) - nI 1)) zk400 zk402 ks_Z_isTaken zk1 kc_Z_isTaken ⟨rfl, by decide, by decide, by decide⟩ rfl rfl ⟨Nat.le_of_ble_eq_true rfl, Nat.le_of_ble_eq_true rfl⟩ ⟨hP, hK, hD, hS, hA, hE⟩ (va_recv hK hP (ci := 0) (q0 := 0) rfl rfl) rfl hl.1 rfl (Nat.le_of_ble_eq_true rfl) d_Z_kind_24 ⟨Nat.le_of_ble_eq_true rfl, Nat.le_of_ble_eq_true rfl⟩).run (fun r hr1 => ?_)
    rw [pk_sub_toInt (by omega) (by decide)] at hr1
    subst hr1
    refine lv_if_ne (tgt := 40) hx hb d_Z_kind_27 (by decide) (fun h => ?_) (fun h => ?_)
    · rw [zh_zb] at h
      have h := of_decide_eq_true (ts_nf h)
      refine lv_iconst (v := nI 3) hx hb d_Z_kind_40 (by decide) ?_
      refine lv_goto (tgt := 45) hx hb d_Z_kind_41 (by decide) ?_
      refine vx_ret ?_
      exact W.iret hx hb hr (fun t ht hW => ⟨⟨_, (), rfl, ⟨x, hq, by show nI 3 = nI (zq_kind z x); unfold zq_kind; rw [htk]; show nI 3 = nI (if _ then 3 else 0); rw [if_pos (Or.inl ⟨by omega, by have h3 := h.2.2; rw [show (((x / 16 : Nat) : Int) - (1 : Nat)).toNat = x / 16 - 1 by omega] at h3; exact h3⟩)]⟩, by rw [ht]; exact hP, va_K.moved hW.alike hK, hD⟩, hS.F ht⟩) hS.2.2 d_Z_kind_45
    rw [zh_zb] at h
    have hno := of_decide_eq_false h
    refine lv_aload_n hx hb d_Z_kind_30 rfl (lv_at hl 2 rfl) ?_
    refine lv_iload_n hx hb d_Z_kind_31 rfl (lv_at hl 1 rfl) ?_
    refine lv_iconst (v := nI 1) hx hb d_Z_kind_32 (by decide) ?_
    refine lv_iadd hx hb d_Z_kind_33 ?_
    refine zh_t (show (nI (x / 16) + nI 1) = nI ((x / 16) + 1) from nI_add _ _) ?_
    refine vp_callSi (zrV (n := 1) (As := [.int (nI ((x / 16) + 1))]) (rest := []) ⟨hx, hb, hml, hown, hk⟩ (c_Z_isTaken_ok l D t0 g z H.size (nI (x / 16 + 1))) zk400 zk402 ks_Z_isTaken zk1 kc_Z_isTaken ⟨rfl, by decide, by decide, by decide⟩ rfl rfl ⟨Nat.le_of_ble_eq_true rfl, Nat.le_of_ble_eq_true rfl⟩ ⟨hP, hK, hD, hS, hA, hE⟩ (va_recv hK hP (ci := 0) (q0 := 0) rfl rfl) rfl hl.1 rfl (Nat.le_of_ble_eq_true rfl) d_Z_kind_34 ⟨Nat.le_of_ble_eq_true rfl, Nat.le_of_ble_eq_true rfl⟩).run (fun r hr2 => ?_)
    rw [nI_toInt (by omega)] at hr2
    subst hr2
    refine lv_if_eq (tgt := 44) hx hb d_Z_kind_37 (by decide) (fun h => ?_) (fun h => ?_)
    · rw [zh_zb] at h
      have h := of_decide_eq_false h
      refine lv_iconst (v := nI 0) hx hb d_Z_kind_44 (by decide) ?_
      refine vx_ret ?_
      exact W.iret hx hb hr (fun t ht hW => ⟨⟨_, (), rfl, ⟨x, hq, by show nI 0 = nI (zq_kind z x); unfold zq_kind; rw [htk]; show nI 0 = nI (if _ then 3 else 0); rw [if_neg (by rintro (⟨q1, q2⟩ | ⟨q1, q2⟩); (exact hno ⟨by omega, by omega, by rw [show (((x / 16 : Nat) : Int) - (1 : Nat)).toNat = x / 16 - 1 by omega]; exact q2⟩); (exact h ⟨by omega, by omega, q2⟩))]⟩, by rw [ht]; exact hP, va_K.moved hW.alike hK, hD⟩, hS.F ht⟩) hS.2.2 d_Z_kind_45
    rw [zh_zb] at h
    have h := of_decide_eq_true (ts_nf h)
    refine lv_iconst (v := nI 3) hx hb d_Z_kind_40 (by decide) ?_
    refine lv_goto (tgt := 45) hx hb d_Z_kind_41 (by decide) ?_
    refine vx_ret ?_
    exact W.iret hx hb hr (fun t ht hW => ⟨⟨_, (), rfl, ⟨x, hq, by show nI 3 = nI (zq_kind z x); unfold zq_kind; rw [htk]; show nI 3 = nI (if _ then 3 else 0); rw [if_pos (Or.inr ⟨by omega, h.2.2⟩)]⟩, by rw [ht]; exact hP, va_K.moved hW.alike hK, hD⟩, hS.F ht⟩) hS.2.2 d_Z_kind_45
  refine zh_v (show va_rf (z_tk z (x / 16)) = .ref a from by rw [htk]; rfl) ?_
  have ha : a ∈ z_LB z := hz.1 _ a (by omega) htk
  refine lv_astore_n (lv' := [(3, .ref a), (2, .int (nI (x / 16))), (0, .ref (g_h g)), (1, .int (nI x))]) hx hb d_Z_kind_15 rfl hl (by decide) rfl (fun ls hl => ?_)
  refine lv_aload_n hx hb d_Z_kind_16 rfl (lv_at hl 0 rfl) ?_
  refine lv_ifnonnull (tgt := 46) hx hb d_Z_kind_17 (by decide) ?_
  refine lv_aload_n hx hb d_Z_kind_46 rfl (lv_at hl 0 rfl) ?_
  refine lv_iload_n hx hb d_Z_kind_47 rfl (lv_at hl 3 rfl) ?_
  refine vp_callSi (zrVN (n := 1) (As := [.int (nI x)]) (rest := []) ⟨hx, hb, hml, hown, hk⟩ (c_B_has_ok l D t0 g z H.size a x ha hz hx8) zn118 zk120 ks_B_has zk11 kc_B_has ⟨by decide, by decide, by decide⟩ rfl rfl ⟨Nat.le_of_ble_eq_true rfl, Nat.le_of_ble_eq_true rfl⟩ ⟨hP, hK, hD, hS, hA, hE⟩ (by obtain ⟨k9, hk9⟩ := zpool (t0 := t0) (g := g) (z := z) ha; exact va_recv hK hP (ci := 1) rfl hk9) rfl hl.1 rfl (Nat.le_of_ble_eq_true rfl) d_Z_kind_48 ⟨Nat.le_of_ble_eq_true rfl, Nat.le_of_ble_eq_true rfl⟩).run (fun r hr1 => ?_)
  subst hr1
  refine lv_if_ne (tgt := 56) hx hb d_Z_kind_51 (by decide) (fun h => ?_) (fun h => ?_)
  rotate_left 1
  · rw [zh_zb] at h
    have h := of_decide_eq_false h
    refine lv_iconst (v := nI 3) hx hb d_Z_kind_54 (by decide) ?_
    refine vx_ret ?_
    exact W.iret hx hb hr (fun t ht hW => ⟨⟨_, (), rfl, ⟨x, hq, by show nI 3 = nI (zq_kind z x); unfold zq_kind; rw [htk]; show nI 3 = nI (if z_bs z a ≤ x ∧ x < z_bs z a + z_bz z a then (if z_kp z a = true then 2 else 1) else 3); rw [if_neg h]⟩, by rw [ht]; exact hP, va_K.moved hW.alike hK, hD⟩, hS.F ht⟩) hS.2.2 d_Z_kind_55
  rw [zh_zb] at h
  have hhas := of_decide_eq_true (ts_nf h)
  refine lv_aload_n hx hb d_Z_kind_56 rfl (lv_at hl 0 rfl) ?_
  obtain ⟨k9, hk9⟩ := zpool (t0 := t0) (g := g) (z := z) ha
  refine va_getN (D := D) (ci := 1) (v := .int (zb (z_kp z a))) (C := RB) (T := TB) (N := 4) hx hb hk inB hown hK hP k9 hk9 rfl 2 (by decide) (va_Nw.use rfl (hE.1.1 _ zn236)) (fun _ h9 => h9) rfl d_Z_kind_57 ?_
  refine lv_if_eq (tgt := 67) hx hb d_Z_kind_60 (by decide) (fun h => ?_) (fun h => ?_)
  · rw [zh_zb] at h
    refine lv_iconst (v := nI 1) hx hb d_Z_kind_67 (by decide) ?_
    refine vx_ret ?_
    exact W.iret hx hb hr (fun t ht hW => ⟨⟨_, (), rfl, ⟨x, hq, by show nI 1 = nI (zq_kind z x); unfold zq_kind; rw [htk]; show nI 1 = nI (if z_bs z a ≤ x ∧ x < z_bs z a + z_bz z a then (if z_kp z a = true then 2 else 1) else 3); rw [if_pos hhas, if_neg (by rw [h]; intro q; cases q)]⟩, by rw [ht]; exact hP, va_K.moved hW.alike hK, hD⟩, hS.F ht⟩) hS.2.2 d_Z_kind_68
  rw [zh_zb] at h
  refine lv_iconst (v := nI 2) hx hb d_Z_kind_63 (by decide) ?_
  refine lv_goto (tgt := 68) hx hb d_Z_kind_64 (by decide) ?_
  refine vx_ret ?_
  exact W.iret hx hb hr (fun t ht hW => ⟨⟨_, (), rfl, ⟨x, hq, by show nI 2 = nI (zq_kind z x); unfold zq_kind; rw [htk]; show nI 2 = nI (if z_bs z a ≤ x ∧ x < z_bs z a + z_bz z a then (if z_kp z a = true then 2 else 1) else 3); rw [if_pos hhas, if_pos (ts_nf h)]⟩, by rw [ht]; exact hP, va_K.moved hW.alike hK, hD⟩, hS.F ht⟩) hS.2.2 d_Z_kind_68
set_option maxHeartbeats 1000000 in
set_option maxRecDepth 100000 in
theorem c_Z_write_ok (l : Launch) (D : va_G) (t0 : Nat) (g : ZG) (z : ZT) (sz : Nat) (v v2 : Int32) (hz : zOK z) (hst : l.stackTraces = false) : vx_Met l y_Z_write w_Z_write ({ frames := 7, cells := 1, slots := 6, locals := 130 }) (zPre D t0 (zT g z) (zW t0 g z) sz [.ref (g_h g), .int v, .int v2]) (va_Qv (fun u => zq_rw z v = 0 ∧ u = zu_oct z (zq_wr (z_oct z) v.toInt.toNat v2.toBitVec.toNat)) (fun (u : ZT) t => zPost D (zT g u) (va_A (zW t0 g z) sz) (zW t0 g u) t) (va_A (zW t0 g z) sz)) (zXc D (zT g z) (zW t0 g z) (va_A (zW t0 g z) sz) (fun E => (E = "java/lang/IndexOutOfBoundsException" ∧ zq_rw z v = 1) ∨ (E = "java/lang/IllegalStateException" ∧ zq_rw z v = 2))) 1 6 (va_A (zW t0 g z) sz) := by
  refine vx_ofW (cc := c_Z_write) (maxL := 4) (ret := none) (by decide) rfl ?_
  intro p e s m args below meth c s₁ B hml hex hv
  obtain ⟨rfl, hsz, hP, hK, hD0, hE⟩ := hv
  have hx := B.exec
  have hb := B.bytes
  have hr := B.returns
  have hts := atoms_spec (ws := w_Z_write) B.pre
  have hk : ∀ w ∈ zB, w.before _ s = true := fun w h => hts w (List.mem_cons_of_mem _ h)
  have hown : s.vm.findClass "ZoneHeap" = some m.cls := findClass_of_methodNamed B.named
  have hlocks := B.notSynchronized
  subst hsz
  have hD := hD0.self (sz := s.heap.size)
  generalize hAe : va_A (zW t0 g z) s.heap.size = A at hD hE ⊢
  have hA : ∀ q : Nat, s.heap.size ≤ q → A q := fun q h => by rw [← hAe]; exact Or.inr h
  have hS : va_S A s.heap s.heap [] := va_S.rf
  have hl := lv_entry ([.ref (g_h g), .int v, .int v2]) (n := 4) (Nat.le_of_ble_eq_true rfl)
  rw [lg_entry_eq]
  generalize (lg_sl ([.ref (g_h g), .int v, .int v2]) ++ List.replicate (4 - (lg_sl ([.ref (g_h g), .int v, .int v2])).length) Slot.unset).toArray = ls at hl ⊢
  have hl : lv_has ls 4 [(0, .ref (g_h g)), (1, .int v), (2, .int v2)] := hl
  refine lv_aload_n hx hb d_Z_write_0 rfl (lv_at hl 0 rfl) ?_
  refine lv_iload_n hx hb d_Z_write_1 rfl (lv_at hl 1 rfl) ?_
  refine zxcv (zxV (n := 1) (As := [.int v]) (rest := []) ⟨hx, hb, hml, hown, hk⟩ (c_Z_refuseWrongWord_ok l D t0 g z s.heap.size v hz hst) zk418 zk420 ks_Z_refuseWrongWord zk1 kc_Z_refuseWrongWord ⟨rfl, by decide, by decide, by decide⟩ rfl rfl ⟨Nat.le_of_ble_eq_true rfl, Nat.le_of_ble_eq_true rfl⟩ ⟨hP, hK, hD, hS, hA, hE⟩ (va_recv hK hP (ci := 0) (q0 := 0) rfl rfl) rfl hl.1 rfl (Nat.le_of_ble_eq_true rfl) d_Z_write_2 ⟨Nat.le_of_ble_eq_true rfl, Nat.le_of_ble_eq_true rfl⟩) ⟨hP, hK, hD, hS, hA, hE⟩ (fun E ce q9 H locs hEX hP hD hS hce hcv hcl => ?_) (fun u H locs hu hP hK hD hS => ?_)
  · exact zpass hex hlocks hK (hEX) hP hD hS hce hcv hcl (Nat.le_of_ble_eq_true rfl) (Nat.le_of_ble_eq_true rfl)
  have hP : va_P D zcl (zW t0 g z) H := hP
  have hD : va_D A (zW t0 g z) := hD
  have hK : va_K D zcl (zT g z) s := hK
  obtain ⟨x, a, rfl, hx4, hv⟩ := zq_rw_0 hu
  have hvn : (nI x).toInt.toNat = x := by rw [nI_toInt (by omega)]; rfl
  obtain ⟨n, hn, rfl⟩ := wb_of32 v2
  have hnn : (nI n).toBitVec.toNat = n := pk_tn hn
  refine lv_iconst (v := nI 0) hx hb d_Z_write_5 (by decide) ?_
  refine lv_istore_n (lv' := [(3, .int (nI 0)), (0, .ref (g_h g)), (1, .int (nI x)), (2, .int (nI n))]) hx hb d_Z_write_6 rfl hl (by decide) rfl (fun ls hl => ?_)
  refine lv_iload_n hx hb d_Z_write_7 rfl (lv_at hl 0 rfl) ?_
  refine lv_iconst (v := nI 4) hx hb d_Z_write_8 (by decide) ?_
  refine lv_icmp_ge (tgt := 33) hx hb d_Z_write_9 (by decide) (fun h => ?_) (fun h => ?_)
  · rw [nI_leI (by omega) (by omega)] at h
    exact absurd h (by omega)
  rw [nI_leI (by omega) (by omega)] at h
  refine lv_aload_n hx hb d_Z_write_12 rfl (lv_at hl 1 rfl) ?_
  refine va_get (D := D) (ci := 0) (v := .ref (g_aO g)) (C := RZ) (T := TZ) (N := 11) hx hb hk inZ hown hK hP 0 rfl rfl 0 (by decide) (hk _ zk56) (fun _ h9 => h9) rfl d_Z_write_13 ?_
  refine lv_iload_n hx hb d_Z_write_16 rfl (lv_at hl 2 rfl) ?_
  refine lv_iload_n hx hb d_Z_write_17 rfl (lv_at hl 0 rfl) ?_
  refine lv_iadd hx hb d_Z_write_18 ?_
  refine zh_t (show (nI x + nI 0) = nI (x + 0) from nI_add _ _) ?_
  refine lv_iload_n hx hb d_Z_write_19 rfl (lv_at hl 3 rfl) ?_
  refine lv_bipush (v := nI 8) hx hb d_Z_write_20 (by decide) ?_
  refine lv_iload_n hx hb d_Z_write_22 rfl (lv_at hl 0 rfl) ?_
  refine lv_imul hx hb d_Z_write_23 ?_
  refine zh_t (show (nI 8 * nI 0) = nI (8 * 0) from pk_mul _ _) ?_
  refine lv_iushr hx hb d_Z_write_24 rfl ?_
  refine lv_i2b hx hb d_Z_write_25 rfl ?_
  refine zh_t (show (((((nI n).toUInt32 >>> ((nI (8 * 0)).toUInt32 &&& Int32.toUInt32 31)).toInt32)).toInt8.toInt32) = sb_b (n / 2 ^ (8 * 0) % 256) from zh_byte hn (by decide)) ?_
  refine va_bast hx hb hK hP hD hS 1 0 rfl rfl (vp_in_nI (by omega) (by decide)) d_Z_write_26 (fun H locs hP hD hS => ?_)
  rw [zh_updb (by omega)] at hP hD
  have hP : va_P D zcl (zW t0 g (zmk (va_up (z_oct z) (x + 0) (n / 2 ^ (8 * 0) % 256)) (z_tk z) (z_ko z) (z_lb z) (z_lo z) (z_mb z) (z_rb z) (z_rn z) (z_lf z) (z_ln z) (z_md z) (z_cE z) (z_aE z) (z_cap z) (z_kl z) (z_LB z) (z_bs z) (z_bz z) (z_kp z) (z_rc z))) H := hP
  have hD : va_D A (zW t0 g (zmk (va_up (z_oct z) (x + 0) (n / 2 ^ (8 * 0) % 256)) (z_tk z) (z_ko z) (z_lb z) (z_lo z) (z_mb z) (z_rb z) (z_rn z) (z_lf z) (z_ln z) (z_md z) (z_cE z) (z_aE z) (z_cap z) (z_kl z) (z_LB z) (z_bs z) (z_bz z) (z_kp z) (z_rc z))) := hD
  refine lv_iinc (lv' := [(3, .int (nI (0 + 1))), (0, .ref (g_h g)), (1, .int (nI x)), (2, .int (nI n))]) (v := nI (0 + 1)) hx hb d_Z_write_27 hl (k := 0) rfl (nI_add _ _) (by decide) rfl (fun ls hl => ?_)
  have hl : lv_has ls 4 [(3, .int (nI 1)), (0, .ref (g_h g)), (1, .int (nI x)), (2, .int (nI n))] := hl
  refine lv_goto (tgt := 7) hx hb d_Z_write_30 (by decide) ?_
  refine lv_iload_n hx hb d_Z_write_7 rfl (lv_at hl 0 rfl) ?_
  refine lv_iconst (v := nI 4) hx hb d_Z_write_8 (by decide) ?_
  refine lv_icmp_ge (tgt := 33) hx hb d_Z_write_9 (by decide) (fun h => ?_) (fun h => ?_)
  · rw [nI_leI (by omega) (by omega)] at h
    exact absurd h (by omega)
  rw [nI_leI (by omega) (by omega)] at h
  refine lv_aload_n hx hb d_Z_write_12 rfl (lv_at hl 1 rfl) ?_
  refine va_get (D := D) (ci := 0) (v := .ref (g_aO g)) (C := RZ) (T := TZ) (N := 11) hx hb hk inZ hown hK hP 0 rfl rfl 0 (by decide) (hk _ zk56) (fun _ h9 => h9) rfl d_Z_write_13 ?_
  refine lv_iload_n hx hb d_Z_write_16 rfl (lv_at hl 2 rfl) ?_
  refine lv_iload_n hx hb d_Z_write_17 rfl (lv_at hl 0 rfl) ?_
  refine lv_iadd hx hb d_Z_write_18 ?_
  refine zh_t (show (nI x + nI 1) = nI (x + 1) from nI_add _ _) ?_
  refine lv_iload_n hx hb d_Z_write_19 rfl (lv_at hl 3 rfl) ?_
  refine lv_bipush (v := nI 8) hx hb d_Z_write_20 (by decide) ?_
  refine lv_iload_n hx hb d_Z_write_22 rfl (lv_at hl 0 rfl) ?_
  refine lv_imul hx hb d_Z_write_23 ?_
  refine zh_t (show (nI 8 * nI 1) = nI (8 * 1) from pk_mul _ _) ?_
  refine lv_iushr hx hb d_Z_write_24 rfl ?_
  refine lv_i2b hx hb d_Z_write_25 rfl ?_
  refine zh_t (show (((((nI n).toUInt32 >>> ((nI (8 * 1)).toUInt32 &&& Int32.toUInt32 31)).toInt32)).toInt8.toInt32) = sb_b (n / 2 ^ (8 * 1) % 256) from zh_byte hn (by decide)) ?_
  refine va_bast hx hb hK hP hD hS 1 0 rfl rfl (vp_in_nI (by omega) (by decide)) d_Z_write_26 (fun H locs hP hD hS => ?_)
  rw [zh_updb (by omega)] at hP hD
  have hP : va_P D zcl (zW t0 g (zmk (va_up (va_up (z_oct z) (x + 0) (n / 2 ^ (8 * 0) % 256)) (x + 1) (n / 2 ^ (8 * 1) % 256)) (z_tk z) (z_ko z) (z_lb z) (z_lo z) (z_mb z) (z_rb z) (z_rn z) (z_lf z) (z_ln z) (z_md z) (z_cE z) (z_aE z) (z_cap z) (z_kl z) (z_LB z) (z_bs z) (z_bz z) (z_kp z) (z_rc z))) H := hP
  have hD : va_D A (zW t0 g (zmk (va_up (va_up (z_oct z) (x + 0) (n / 2 ^ (8 * 0) % 256)) (x + 1) (n / 2 ^ (8 * 1) % 256)) (z_tk z) (z_ko z) (z_lb z) (z_lo z) (z_mb z) (z_rb z) (z_rn z) (z_lf z) (z_ln z) (z_md z) (z_cE z) (z_aE z) (z_cap z) (z_kl z) (z_LB z) (z_bs z) (z_bz z) (z_kp z) (z_rc z))) := hD
  refine lv_iinc (lv' := [(3, .int (nI (1 + 1))), (0, .ref (g_h g)), (1, .int (nI x)), (2, .int (nI n))]) (v := nI (1 + 1)) hx hb d_Z_write_27 hl (k := 0) rfl (nI_add _ _) (by decide) rfl (fun ls hl => ?_)
  have hl : lv_has ls 4 [(3, .int (nI 2)), (0, .ref (g_h g)), (1, .int (nI x)), (2, .int (nI n))] := hl
  refine lv_goto (tgt := 7) hx hb d_Z_write_30 (by decide) ?_
  refine lv_iload_n hx hb d_Z_write_7 rfl (lv_at hl 0 rfl) ?_
  refine lv_iconst (v := nI 4) hx hb d_Z_write_8 (by decide) ?_
  refine lv_icmp_ge (tgt := 33) hx hb d_Z_write_9 (by decide) (fun h => ?_) (fun h => ?_)
  · rw [nI_leI (by omega) (by omega)] at h
    exact absurd h (by omega)
  rw [nI_leI (by omega) (by omega)] at h
  refine lv_aload_n hx hb d_Z_write_12 rfl (lv_at hl 1 rfl) ?_
  refine va_get (D := D) (ci := 0) (v := .ref (g_aO g)) (C := RZ) (T := TZ) (N := 11) hx hb hk inZ hown hK hP 0 rfl rfl 0 (by decide) (hk _ zk56) (fun _ h9 => h9) rfl d_Z_write_13 ?_
  refine lv_iload_n hx hb d_Z_write_16 rfl (lv_at hl 2 rfl) ?_
  refine lv_iload_n hx hb d_Z_write_17 rfl (lv_at hl 0 rfl) ?_
  refine lv_iadd hx hb d_Z_write_18 ?_
  refine zh_t (show (nI x + nI 2) = nI (x + 2) from nI_add _ _) ?_
  refine lv_iload_n hx hb d_Z_write_19 rfl (lv_at hl 3 rfl) ?_
  refine lv_bipush (v := nI 8) hx hb d_Z_write_20 (by decide) ?_
  refine lv_iload_n hx hb d_Z_write_22 rfl (lv_at hl 0 rfl) ?_
  refine lv_imul hx hb d_Z_write_23 ?_
  refine zh_t (show (nI 8 * nI 2) = nI (8 * 2) from pk_mul _ _) ?_
  refine lv_iushr hx hb d_Z_write_24 rfl ?_
  refine lv_i2b hx hb d_Z_write_25 rfl ?_
  refine zh_t (show (((((nI n).toUInt32 >>> ((nI (8 * 2)).toUInt32 &&& Int32.toUInt32 31)).toInt32)).toInt8.toInt32) = sb_b (n / 2 ^ (8 * 2) % 256) from zh_byte hn (by decide)) ?_
  refine va_bast hx hb hK hP hD hS 1 0 rfl rfl (vp_in_nI (by omega) (by decide)) d_Z_write_26 (fun H locs hP hD hS => ?_)
  rw [zh_updb (by omega)] at hP hD
  have hP : va_P D zcl (zW t0 g (zmk (va_up (va_up (va_up (z_oct z) (x + 0) (n / 2 ^ (8 * 0) % 256)) (x + 1) (n / 2 ^ (8 * 1) % 256)) (x + 2) (n / 2 ^ (8 * 2) % 256)) (z_tk z) (z_ko z) (z_lb z) (z_lo z) (z_mb z) (z_rb z) (z_rn z) (z_lf z) (z_ln z) (z_md z) (z_cE z) (z_aE z) (z_cap z) (z_kl z) (z_LB z) (z_bs z) (z_bz z) (z_kp z) (z_rc z))) H := hP
  have hD : va_D A (zW t0 g (zmk (va_up (va_up (va_up (z_oct z) (x + 0) (n / 2 ^ (8 * 0) % 256)) (x + 1) (n / 2 ^ (8 * 1) % 256)) (x + 2) (n / 2 ^ (8 * 2) % 256)) (z_tk z) (z_ko z) (z_lb z) (z_lo z) (z_mb z) (z_rb z) (z_rn z) (z_lf z) (z_ln z) (z_md z) (z_cE z) (z_aE z) (z_cap z) (z_kl z) (z_LB z) (z_bs z) (z_bz z) (z_kp z) (z_rc z))) := hD
  refine lv_iinc (lv' := [(3, .int (nI (2 + 1))), (0, .ref (g_h g)), (1, .int (nI x)), (2, .int (nI n))]) (v := nI (2 + 1)) hx hb d_Z_write_27 hl (k := 0) rfl (nI_add _ _) (by decide) rfl (fun ls hl => ?_)
  have hl : lv_has ls 4 [(3, .int (nI 3)), (0, .ref (g_h g)), (1, .int (nI x)), (2, .int (nI n))] := hl
  refine lv_goto (tgt := 7) hx hb d_Z_write_30 (by decide) ?_
  refine lv_iload_n hx hb d_Z_write_7 rfl (lv_at hl 0 rfl) ?_
  refine lv_iconst (v := nI 4) hx hb d_Z_write_8 (by decide) ?_
  refine lv_icmp_ge (tgt := 33) hx hb d_Z_write_9 (by decide) (fun h => ?_) (fun h => ?_)
  · rw [nI_leI (by omega) (by omega)] at h
    exact absurd h (by omega)
  rw [nI_leI (by omega) (by omega)] at h
  refine lv_aload_n hx hb d_Z_write_12 rfl (lv_at hl 1 rfl) ?_
  refine va_get (D := D) (ci := 0) (v := .ref (g_aO g)) (C := RZ) (T := TZ) (N := 11) hx hb hk inZ hown hK hP 0 rfl rfl 0 (by decide) (hk _ zk56) (fun _ h9 => h9) rfl d_Z_write_13 ?_
  refine lv_iload_n hx hb d_Z_write_16 rfl (lv_at hl 2 rfl) ?_
  refine lv_iload_n hx hb d_Z_write_17 rfl (lv_at hl 0 rfl) ?_
  refine lv_iadd hx hb d_Z_write_18 ?_
  refine zh_t (show (nI x + nI 3) = nI (x + 3) from nI_add _ _) ?_
  refine lv_iload_n hx hb d_Z_write_19 rfl (lv_at hl 3 rfl) ?_
  refine lv_bipush (v := nI 8) hx hb d_Z_write_20 (by decide) ?_
  refine lv_iload_n hx hb d_Z_write_22 rfl (lv_at hl 0 rfl) ?_
  refine lv_imul hx hb d_Z_write_23 ?_
  refine zh_t (show (nI 8 * nI 3) = nI (8 * 3) from pk_mul _ _) ?_
  refine lv_iushr hx hb d_Z_write_24 rfl ?_
  refine lv_i2b hx hb d_Z_write_25 rfl ?_
  refine zh_t (show (((((nI n).toUInt32 >>> ((nI (8 * 3)).toUInt32 &&& Int32.toUInt32 31)).toInt32)).toInt8.toInt32) = sb_b (n / 2 ^ (8 * 3) % 256) from zh_byte hn (by decide)) ?_
  refine va_bast hx hb hK hP hD hS 1 0 rfl rfl (vp_in_nI (by omega) (by decide)) d_Z_write_26 (fun H locs hP hD hS => ?_)
  rw [zh_updb (by omega)] at hP hD
  have hP : va_P D zcl (zW t0 g (zmk (va_up (va_up (va_up (va_up (z_oct z) (x + 0) (n / 2 ^ (8 * 0) % 256)) (x + 1) (n / 2 ^ (8 * 1) % 256)) (x + 2) (n / 2 ^ (8 * 2) % 256)) (x + 3) (n / 2 ^ (8 * 3) % 256)) (z_tk z) (z_ko z) (z_lb z) (z_lo z) (z_mb z) (z_rb z) (z_rn z) (z_lf z) (z_ln z) (z_md z) (z_cE z) (z_aE z) (z_cap z) (z_kl z) (z_LB z) (z_bs z) (z_bz z) (z_kp z) (z_rc z))) H := hP
  have hD : va_D A (zW t0 g (zmk (va_up (va_up (va_up (va_up (z_oct z) (x + 0) (n / 2 ^ (8 * 0) % 256)) (x + 1) (n / 2 ^ (8 * 1) % 256)) (x + 2) (n / 2 ^ (8 * 2) % 256)) (x + 3) (n / 2 ^ (8 * 3) % 256)) (z_tk z) (z_ko z) (z_lb z) (z_lo z) (z_mb z) (z_rb z) (z_rn z) (z_lf z) (z_ln z) (z_md z) (z_cE z) (z_aE z) (z_cap z) (z_kl z) (z_LB z) (z_bs z) (z_bz z) (z_kp z) (z_rc z))) := hD
  refine lv_iinc (lv' := [(3, .int (nI (3 + 1))), (0, .ref (g_h g)), (1, .int (nI x)), (2, .int (nI n))]) (v := nI (3 + 1)) hx hb d_Z_write_27 hl (k := 0) rfl (nI_add _ _) (by decide) rfl (fun ls hl => ?_)
  have hl : lv_has ls 4 [(3, .int (nI 4)), (0, .ref (g_h g)), (1, .int (nI x)), (2, .int (nI n))] := hl
  refine lv_goto (tgt := 7) hx hb d_Z_write_30 (by decide) ?_
  refine lv_iload_n hx hb d_Z_write_7 rfl (lv_at hl 0 rfl) ?_
  refine lv_iconst (v := nI 4) hx hb d_Z_write_8 (by decide) ?_
  refine lv_icmp_ge (tgt := 33) hx hb d_Z_write_9 (by decide) (fun h => ?_) (fun h => ?_)
  rotate_left 1
  · rw [nI_leI (by omega) (by omega)] at h
    exact absurd h (by omega)
  rw [nI_leI (by omega) (by omega)] at h
  refine vx_ret ?_
  exact W.vret hx hb hr (fun t ht hW => ⟨⟨(zu_oct z (zq_wr (z_oct z) x n)), rfl, ⟨hu, by rw [hvn, hnn]⟩, by rw [ht]; exact hP, va_K.moved hW.alike hK, hD⟩, hS.F ht⟩) hS.2.2 d_Z_write_33
