def zq_rw (z : ZT) (v : Int32) : Nat := if 0 ≤ v.toInt ∧ v.toInt ≤ 8188 then (match zq_hv z v with | none => 2 | some a => if z_bs z a ≤ v.toInt.toNat + 3 ∧ v.toInt.toNat + 3 < z_bs z a + z_bz z a then 0 else 2) else 1
def zq_ls (z : ZT) (v : Int32) : Nat := match zq_st z v with
  | none => 1
  | some a => if z_kp z a = true then 2 else 0
theorem zq_rw_bad {z : ZT} {v : Int32} (h : ¬ (0 ≤ v.toInt ∧ v.toInt ≤ 8188)) : zq_rw z v = 1 := if_neg h
theorem zq_rw_none {z : ZT} {v : Int32} (h : 0 ≤ v.toInt ∧ v.toInt ≤ 8188) (hv : zq_hv z v = none) : zq_rw z v = 2 := by
  unfold zq_rw
  rw [if_pos h, hv]
theorem zq_rw_some {z : ZT} {v : Int32} {a : Nat} (h : 0 ≤ v.toInt ∧ v.toInt ≤ 8188) (hv : zq_hv z v = some a) : zq_rw z v = if z_bs z a ≤ v.toInt.toNat + 3 ∧ v.toInt.toNat + 3 < z_bs z a + z_bz z a then 0 else 2 := by
  unfold zq_rw
  rw [if_pos h, hv]
theorem zq_rw_0 {z : ZT} {v : Int32} (h : zq_rw z v = 0) : ∃ x a : Nat, v = nI x ∧ x + 4 ≤ 8192 ∧ zq_hv z v = some a := by
  by_cases q : 0 ≤ v.toInt ∧ v.toInt ≤ 8188
  · cases hv : zq_hv z v with
    | none => rw [zq_rw_none q hv] at h; omega
    | some a =>
      obtain ⟨x, h1, h2, -⟩ := zq_hv_of hv
      rw [h2, nI_toInt (by omega)] at q
      exact ⟨x, a, h2, by omega, rfl⟩
  · rw [zq_rw_bad q] at h; omega
set_option maxHeartbeats 1000000 in
set_option maxRecDepth 100000 in
theorem c_Z_refuseWrongSize_ok (l : Launch) (D : va_G) (t0 : Nat) (tys : List (ClassId × FieldType)) (w : va_W) (sz : Nat) (v : Int32) (hst : l.stackTraces = false) : vx_Met l y_Z_refuseWrongSize w_Z_refuseWrongSize ({ frames := 6, cells := 1, slots := 6, locals := 90 }) (zPre D t0 (tys) (w) sz [.int v]) (va_Qv (fun _ => (0 ≤ v.toInt ∧ v.toInt ≤ 2048)) (fun (u : Unit) t => zPost D (tys) (va_A (w) sz) (w) t) (va_A (w) sz)) (zXc D (tys) (w) (va_A (w) sz) (fun E => E = "java/lang/IllegalArgumentException" ∧ ¬ (0 ≤ v.toInt ∧ v.toInt ≤ 2048))) 1 6 (va_A (w) sz) := by
  refine vx_ofW (cc := c_Z_refuseWrongSize) (maxL := 1) (ret := none) (by decide) rfl ?_
  intro p e s m args below meth c s₁ B hml hex hv
  obtain ⟨rfl, hsz, hP, hK, hD0, hE⟩ := hv
  have hx := B.exec
  have hb := B.bytes
  have hr := B.returns
  have hts := atoms_spec (ws := w_Z_refuseWrongSize) B.pre
  have hk : ∀ w ∈ zB, w.before _ s = true := fun w h => hts w (List.mem_cons_of_mem _ h)
  have hown : s.vm.findClass "ZoneHeap" = some m.cls := findClass_of_methodNamed B.named
  have hlocks := B.notSynchronized
  subst hsz
  have hD := hD0.self (sz := s.heap.size)
  generalize hAe : va_A (w) s.heap.size = A at hD hE ⊢
  have hA : ∀ q : Nat, s.heap.size ≤ q → A q := fun q h => by rw [← hAe]; exact Or.inr h
  have hS : va_S A s.heap s.heap [] := va_S.rf
  have hl := lv_entry ([.int v]) (n := 1) (Nat.le_of_ble_eq_true rfl)
  rw [lg_entry_eq]
  generalize (lg_sl ([.int v]) ++ List.replicate (1 - (lg_sl ([.int v])).length) Slot.unset).toArray = ls at hl ⊢
  have hl : lv_has ls 1 [(0, .int v)] := hl
  refine lv_iload_n hx hb d_Z_refuseWrongSize_0 rfl (lv_at hl 0 rfl) ?_
  refine lv_if_lt (tgt := 11) hx hb d_Z_refuseWrongSize_1 (by decide) (fun h => ?_) (fun h => ?_)
  · exact zthrow (is := 136) (text := "no block has so many octets") hst hx hb hk hown hex hlocks ⟨hP, hK, hD, hS, hA, hE⟩ zk146 zk9 (by decide +kernel) zat_A (hl.1.trans hml.symm) d_Z_refuseWrongSize_11 d_Z_refuseWrongSize_14 d_Z_refuseWrongSize_15 d_Z_refuseWrongSize_17 d_Z_refuseWrongSize_20 (⟨rfl, by have := zi_lt0 h; omega⟩) (Nat.le_of_ble_eq_true rfl) (Nat.le_of_ble_eq_true rfl) (Nat.le_of_ble_eq_true rfl) (Nat.le_of_ble_eq_true rfl) (Nat.le_of_ble_eq_true rfl) (Nat.le_of_ble_eq_true rfl)
  obtain ⟨x, hx31, rfl⟩ := nI_of h
  refine lv_iload_n hx hb d_Z_refuseWrongSize_4 rfl (lv_at hl 0 rfl) ?_
  refine lv_sipush (v := nI 2048) hx hb d_Z_refuseWrongSize_5 (by decide) ?_
  refine lv_icmp_le (tgt := 21) hx hb d_Z_refuseWrongSize_8 (by decide) (fun h => ?_) (fun h => ?_)
  rotate_left 1
  · rw [nI_leI (by omega) (by omega)] at h
    exact zthrow (is := 136) (text := "no block has so many octets") hst hx hb hk hown hex hlocks ⟨hP, hK, hD, hS, hA, hE⟩ zk146 zk9 (by decide +kernel) zat_A (hl.1.trans hml.symm) d_Z_refuseWrongSize_11 d_Z_refuseWrongSize_14 d_Z_refuseWrongSize_15 d_Z_refuseWrongSize_17 d_Z_refuseWrongSize_20 (⟨rfl, by rw [nI_toInt hx31]; omega⟩) (Nat.le_of_ble_eq_true rfl) (Nat.le_of_ble_eq_true rfl) (Nat.le_of_ble_eq_true rfl) (Nat.le_of_ble_eq_true rfl) (Nat.le_of_ble_eq_true rfl) (Nat.le_of_ble_eq_true rfl)
  rw [nI_leI (by omega) (by omega)] at h
  refine vx_ret ?_
  refine W.widen (k := 1) (n := 6) (by omega) (by omega) ?_
  exact W.vret hx hb hr (fun t ht hW => ⟨⟨(), rfl, by show 0 ≤ (nI x).toInt ∧ (nI x).toInt ≤ 2048; rw [nI_toInt hx31]; omega, by rw [ht]; exact hP, va_K.moved hW.alike hK, hD⟩, hS.F ht⟩) hS.2.2 d_Z_refuseWrongSize_21
set_option maxHeartbeats 1000000 in
set_option maxRecDepth 100000 in
theorem c_Z_refuseWrongOctet_ok (l : Launch) (D : va_G) (t0 : Nat) (tys : List (ClassId × FieldType)) (w : va_W) (sz : Nat) (v : Int32) (hst : l.stackTraces = false) : vx_Met l y_Z_refuseWrongOctet w_Z_refuseWrongOctet ({ frames := 6, cells := 1, slots := 6, locals := 90 }) (zPre D t0 (tys) (w) sz [.int v]) (va_Qv (fun _ => ∃ x : Nat, zq_at v = some x) (fun (u : Unit) t => zPost D (tys) (va_A (w) sz) (w) t) (va_A (w) sz)) (zXc D (tys) (w) (va_A (w) sz) (fun E => E = "java/lang/IndexOutOfBoundsException" ∧ zq_at v = none)) 1 6 (va_A (w) sz) := by
  refine vx_ofW (cc := c_Z_refuseWrongOctet) (maxL := 1) (ret := none) (by decide) rfl ?_
  intro p e s m args below meth c s₁ B hml hex hv
  obtain ⟨rfl, hsz, hP, hK, hD0, hE⟩ := hv
  have hx := B.exec
  have hb := B.bytes
  have hr := B.returns
  have hts := atoms_spec (ws := w_Z_refuseWrongOctet) B.pre
  have hk : ∀ w ∈ zB, w.before _ s = true := fun w h => hts w (List.mem_cons_of_mem _ h)
  have hown : s.vm.findClass "ZoneHeap" = some m.cls := findClass_of_methodNamed B.named
  have hlocks := B.notSynchronized
  subst hsz
  have hD := hD0.self (sz := s.heap.size)
  generalize hAe : va_A (w) s.heap.size = A at hD hE ⊢
  have hA : ∀ q : Nat, s.heap.size ≤ q → A q := fun q h => by rw [← hAe]; exact Or.inr h
  have hS : va_S A s.heap s.heap [] := va_S.rf
  have hl := lv_entry ([.int v]) (n := 1) (Nat.le_of_ble_eq_true rfl)
  rw [lg_entry_eq]
  generalize (lg_sl ([.int v]) ++ List.replicate (1 - (lg_sl ([.int v])).length) Slot.unset).toArray = ls at hl ⊢
  have hl : lv_has ls 1 [(0, .int v)] := hl
  refine lv_iload_n hx hb d_Z_refuseWrongOctet_0 rfl (lv_at hl 0 rfl) ?_
  refine vp_callSi (zrS (n := 1) (As := [.int v]) (rest := []) ⟨hx, hb, hml, hown, hk⟩ (c_Z_isOctet_ok l D t0 tys w s.heap.size v) zk111 zk112 zk1 kc_Z_isOctet ⟨by decide, by decide, by decide⟩ rfl rfl ⟨Nat.le_of_ble_eq_true rfl, Nat.le_of_ble_eq_true rfl⟩ ⟨hP, hK, hD, hS, hA, hE⟩ rfl hl.1 rfl (Nat.le_of_ble_eq_true rfl) d_Z_refuseWrongOctet_1 ⟨Nat.le_of_ble_eq_true rfl, Nat.le_of_ble_eq_true rfl⟩).run (fun r hr1 => ?_)
  subst hr1
  refine lv_if_ne (tgt := 17) hx hb d_Z_refuseWrongOctet_4 (by decide) (fun h => ?_) (fun h => ?_)
  rotate_left 1
  · rw [zh_zb] at h
    have hq : zq_at v = none := by cases hq : zq_at v with | none => rfl | some x => rw [hq] at h; cases h
    exact zthrow (is := 141) (text := "no such octet") hst hx hb hk hown hex hlocks ⟨hP, hK, hD, hS, hA, hE⟩ zk384 zk18 (by decide +kernel) zat_I (hl.1.trans hml.symm) d_Z_refuseWrongOctet_7 d_Z_refuseWrongOctet_10 d_Z_refuseWrongOctet_11 d_Z_refuseWrongOctet_13 d_Z_refuseWrongOctet_16 (⟨rfl, hq⟩) (Nat.le_of_ble_eq_true rfl) (Nat.le_of_ble_eq_true rfl) (Nat.le_of_ble_eq_true rfl) (Nat.le_of_ble_eq_true rfl) (Nat.le_of_ble_eq_true rfl) (Nat.le_of_ble_eq_true rfl)
  rw [zh_zb] at h
  have hq : ∃ x : Nat, zq_at v = some x := by cases hq : zq_at v with | none => rw [hq] at h; exact absurd rfl h | some x => exact ⟨x, rfl⟩
  refine vx_ret ?_
  refine W.widen (k := 1) (n := 6) (by omega) (by omega) ?_
  exact W.vret hx hb hr (fun t ht hW => ⟨⟨(), rfl, hq, by rw [ht]; exact hP, va_K.moved hW.alike hK, hD⟩, hS.F ht⟩) hS.2.2 d_Z_refuseWrongOctet_17
set_option maxHeartbeats 1000000 in
set_option maxRecDepth 100000 in
theorem c_Z_refuseWrongWord_ok (l : Launch) (D : va_G) (t0 : Nat) (g : ZG) (z : ZT) (sz : Nat) (v : Int32) (hz : zOK z) (hst : l.stackTraces = false) : vx_Met l y_Z_refuseWrongWord w_Z_refuseWrongWord ({ frames := 6, cells := 1, slots := 6, locals := 90 }) (zPre D t0 (zT g z) (zW t0 g z) sz [.ref (g_h g), .int v]) (va_Qv (fun _ => zq_rw z v = 0) (fun (u : Unit) t => zPost D (zT g z) (va_A (zW t0 g z) sz) (zW t0 g z) t) (va_A (zW t0 g z) sz)) (zXc D (zT g z) (zW t0 g z) (va_A (zW t0 g z) sz) (fun E => (E = "java/lang/IndexOutOfBoundsException" ∧ zq_rw z v = 1) ∨ (E = "java/lang/IllegalStateException" ∧ zq_rw z v = 2))) 1 6 (va_A (zW t0 g z) sz) := by
  refine vx_ofW (cc := c_Z_refuseWrongWord) (maxL := 3) (ret := none) (by decide) rfl ?_
  intro p e s m args below meth c s₁ B hml hex hv
  obtain ⟨rfl, hsz, hP, hK, hD0, hE⟩ := hv
  have hx := B.exec
  have hb := B.bytes
  have hr := B.returns
  have hts := atoms_spec (ws := w_Z_refuseWrongWord) B.pre
  have hk : ∀ w ∈ zB, w.before _ s = true := fun w h => hts w (List.mem_cons_of_mem _ h)
  have hown : s.vm.findClass "ZoneHeap" = some m.cls := findClass_of_methodNamed B.named
  have hlocks := B.notSynchronized
  subst hsz
  have hD := hD0.self (sz := s.heap.size)
  generalize hAe : va_A (zW t0 g z) s.heap.size = A at hD hE ⊢
  have hA : ∀ q : Nat, s.heap.size ≤ q → A q := fun q h => by rw [← hAe]; exact Or.inr h
  have hS : va_S A s.heap s.heap [] := va_S.rf
  have hl := lv_entry ([.ref (g_h g), .int v]) (n := 3) (Nat.le_of_ble_eq_true rfl)
  rw [lg_entry_eq]
  generalize (lg_sl ([.ref (g_h g), .int v]) ++ List.replicate (3 - (lg_sl ([.ref (g_h g), .int v])).length) Slot.unset).toArray = ls at hl ⊢
  have hl : lv_has ls 3 [(0, .ref (g_h g)), (1, .int v)] := hl
  refine lv_iload_n hx hb d_Z_refuseWrongWord_0 rfl (lv_at hl 1 rfl) ?_
  refine lv_if_lt (tgt := 11) hx hb d_Z_refuseWrongWord_1 (by decide) (fun h => ?_) (fun h => ?_)
  · exact zthrow (is := 143) (text := "no such four octets") hst hx hb hk hown hex hlocks ⟨hP, hK, hD, hS, hA, hE⟩ zk384 zk18 (by decide +kernel) zat_I (hl.1.trans hml.symm) d_Z_refuseWrongWord_11 d_Z_refuseWrongWord_14 d_Z_refuseWrongWord_15 d_Z_refuseWrongWord_17 d_Z_refuseWrongWord_20 (Or.inl ⟨rfl, zq_rw_bad (by have := zi_lt0 h; omega)⟩) (Nat.le_of_ble_eq_true rfl) (Nat.le_of_ble_eq_true rfl) (Nat.le_of_ble_eq_true rfl) (Nat.le_of_ble_eq_true rfl) (Nat.le_of_ble_eq_true rfl) (Nat.le_of_ble_eq_true rfl)
  obtain ⟨x, hx31, rfl⟩ := nI_of h
  refine lv_iload_n hx hb d_Z_refuseWrongWord_4 rfl (lv_at hl 1 rfl) ?_
  refine lv_sipush (v := nI 8188) hx hb d_Z_refuseWrongWord_5 (by decide) ?_
  refine lv_icmp_le (tgt := 21) hx hb d_Z_refuseWrongWord_8 (by decide) (fun h => ?_) (fun h => ?_)
  rotate_left 1
  · rw [nI_leI (by omega) (by omega)] at h
    exact zthrow (is := 143) (text := "no such four octets") hst hx hb hk hown hex hlocks ⟨hP, hK, hD, hS, hA, hE⟩ zk384 zk18 (by decide +kernel) zat_I (hl.1.trans hml.symm) d_Z_refuseWrongWord_11 d_Z_refuseWrongWord_14 d_Z_refuseWrongWord_15 d_Z_refuseWrongWord_17 d_Z_refuseWrongWord_20 (Or.inl ⟨rfl, zq_rw_bad (by rw [nI_toInt hx31]; omega)⟩) (Nat.le_of_ble_eq_true rfl) (Nat.le_of_ble_eq_true rfl) (Nat.le_of_ble_eq_true rfl) (Nat.le_of_ble_eq_true rfl) (Nat.le_of_ble_eq_true rfl) (Nat.le_of_ble_eq_true rfl)
  rw [nI_leI (by omega) (by omega)] at h
  have hin : 0 ≤ (nI x).toInt ∧ (nI x).toInt ≤ 8188 := by rw [nI_toInt hx31]; omega
  refine lv_aload_n hx hb d_Z_refuseWrongWord_21 rfl (lv_at hl 0 rfl) ?_
  refine lv_iload_n hx hb d_Z_refuseWrongWord_22 rfl (lv_at hl 1 rfl) ?_
  refine va_csq (zrV (n := 1) (As := [.int (nI x)]) (rest := []) ⟨hx, hb, hml, hown, hk⟩ (c_Z_liveHaving_ok l D t0 g z s.heap.size (nI x) hz) zk114 zk116 ks_Z_liveHaving zk1 kc_Z_liveHaving ⟨rfl, by decide, by decide, by decide⟩ rfl rfl ⟨Nat.le_of_ble_eq_true rfl, Nat.le_of_ble_eq_true rfl⟩ ⟨hP, hK, hD, hS, hA, hE⟩ (va_recv hK hP (ci := 0) (q0 := 0) rfl rfl) rfl hl.1 rfl (Nat.le_of_ble_eq_true rfl) d_Z_refuseWrongWord_23 ⟨Nat.le_of_ble_eq_true rfl, Nat.le_of_ble_eq_true rfl⟩).run (fun r hr1 => ?_)
  rcases zopt (r) with hro | ⟨a, hro⟩
  · refine zh_v (show va_rf (r) = .null from by rw [hro]; rfl) ?_
    refine lv_astore_nN (lv' := [(2, .null), (0, .ref (g_h g)), (1, .int (nI x))]) hx hb d_Z_refuseWrongWord_26 rfl hl (by decide) rfl (fun ls hl => ?_)
    refine lv_aload_nN hx hb d_Z_refuseWrongWord_27 rfl (lv_at hl 0 rfl) ?_
    refine lv_ifnullN (tgt := 43) hx hb d_Z_refuseWrongWord_28 (by decide) ?_
    exact zthrow (is := 147) (text := "not all four are live") hst hx hb hk hown hex hlocks ⟨hP, hK, hD, hS, hA, hE⟩ zk265 zk12 (by decide +kernel) zat_S (hl.1.trans hml.symm) d_Z_refuseWrongWord_43 d_Z_refuseWrongWord_46 d_Z_refuseWrongWord_47 d_Z_refuseWrongWord_49 d_Z_refuseWrongWord_52 (Or.inr ⟨rfl, zq_rw_none hin (by rw [← hr1, hro])⟩) (Nat.le_of_ble_eq_true rfl) (Nat.le_of_ble_eq_true rfl) (Nat.le_of_ble_eq_true rfl) (Nat.le_of_ble_eq_true rfl) (Nat.le_of_ble_eq_true rfl) (Nat.le_of_ble_eq_true rfl)
  refine zh_v (show va_rf (r) = .ref a from by rw [hro]; rfl) ?_
  have hv : zq_hv z (nI x) = some a := by rw [← hr1, hro]
  have ha : a ∈ z_LB z := zq_hv_in hz hv
  have hrw := zq_rw_some hin hv
  rw [nI_toInt hx31, show ((x : Int)).toNat = x from rfl] at hrw
  refine lv_astore_n (lv' := [(2, .ref a), (0, .ref (g_h g)), (1, .int (nI x))]) hx hb d_Z_refuseWrongWord_26 rfl hl (by decide) rfl (fun ls hl => ?_)
  refine lv_aload_n hx hb d_Z_refuseWrongWord_27 rfl (lv_at hl 0 rfl) ?_
  refine lv_ifnull hx hb d_Z_refuseWrongWord_28 ?_
  refine lv_aload_n hx hb d_Z_refuseWrongWord_31 rfl (lv_at hl 0 rfl) ?_
  refine lv_iload_n hx hb d_Z_refuseWrongWord_32 rfl (lv_at hl 2 rfl) ?_
  refine lv_iconst (v := nI 4) hx hb d_Z_refuseWrongWord_33 (by decide) ?_
  refine lv_iadd hx hb d_Z_refuseWrongWord_34 ?_
  refine zh_t (show (nI x + nI 4) = nI (x + 4) from nI_add _ _) ?_
  refine lv_iconst (v := nI 1) hx hb d_Z_refuseWrongWord_35 (by decide) ?_
  refine lv_isub hx hb d_Z_refuseWrongWord_36 ?_
  refine zh_t (show (nI (x + 4) - nI 1) = nI (x + 4 - 1) from pk_sub (by omega)) ?_
  refine zh_t (show nI (x + 4 - 1) = nI (x + 3) from congrArg nI (by omega)) ?_
  refine vp_callSi (zrVN (n := 1) (As := [.int (nI (x + 3))]) (rest := []) ⟨hx, hb, hml, hown, hk⟩ (c_B_has_ok l D t0 g z s.heap.size a (x + 3) ha hz (by omega)) zn118 zk120 ks_B_has zk11 kc_B_has ⟨by decide, by decide, by decide⟩ rfl rfl ⟨Nat.le_of_ble_eq_true rfl, Nat.le_of_ble_eq_true rfl⟩ ⟨hP, hK, hD, hS, hA, hE⟩ (by obtain ⟨k9, hk9⟩ := zpool (t0 := t0) (g := g) (z := z) ha; exact va_recv hK hP (ci := 1) rfl hk9) rfl hl.1 rfl (Nat.le_of_ble_eq_true rfl) d_Z_refuseWrongWord_37 ⟨Nat.le_of_ble_eq_true rfl, Nat.le_of_ble_eq_true rfl⟩).run (fun r hr2 => ?_)
  subst hr2
  refine lv_if_ne (tgt := 53) hx hb d_Z_refuseWrongWord_40 (by decide) (fun h => ?_) (fun h => ?_)
  rotate_left 1
  · rw [zh_zb] at h
    exact zthrow (is := 147) (text := "not all four are live") hst hx hb hk hown hex hlocks ⟨hP, hK, hD, hS, hA, hE⟩ zk265 zk12 (by decide +kernel) zat_S (hl.1.trans hml.symm) d_Z_refuseWrongWord_43 d_Z_refuseWrongWord_46 d_Z_refuseWrongWord_47 d_Z_refuseWrongWord_49 d_Z_refuseWrongWord_52 (Or.inr ⟨rfl, by rw [hrw, if_neg (of_decide_eq_false h)]⟩) (Nat.le_of_ble_eq_true rfl) (Nat.le_of_ble_eq_true rfl) (Nat.le_of_ble_eq_true rfl) (Nat.le_of_ble_eq_true rfl) (Nat.le_of_ble_eq_true rfl) (Nat.le_of_ble_eq_true rfl)
  rw [zh_zb] at h
  refine vx_ret ?_
  refine W.widen (k := 1) (n := 6) (by omega) (by omega) ?_
  exact W.vret hx hb hr (fun t ht hW => ⟨⟨(), rfl, by show zq_rw z (nI x) = 0; rw [hrw, if_pos (of_decide_eq_true (ts_nf h))], by rw [ht]; exact hP, va_K.moved hW.alike hK, hD⟩, hS.F ht⟩) hS.2.2 d_Z_refuseWrongWord_53
set_option maxHeartbeats 1000000 in
set_option maxRecDepth 100000 in
theorem c_Z_liveStandingAt_ok (l : Launch) (D : va_G) (t0 : Nat) (g : ZG) (z : ZT) (sz : Nat) (v : Int32) (hz : zOK z) (hst : l.stackTraces = false) : vx_Met l y_Z_liveStandingAt w_Z_liveStandingAt ({ frames := 6, cells := 1, slots := 6, locals := 90 }) (zPre D t0 (zT g z) (zW t0 g z) sz [.ref (g_h g), .int v]) (va_Qq (fun r _ => zq_ls z v = 0 ∧ r = zq_st z v) (fun (u : Unit) t => zPost D (zT g z) (va_A (zW t0 g z) sz) (zW t0 g z) t) (va_A (zW t0 g z) sz)) (zXc D (zT g z) (zW t0 g z) (va_A (zW t0 g z) sz) (fun E => (E = "java/lang/IllegalArgumentException" ∧ zq_ls z v = 1) ∨ (E = "java/lang/IllegalStateException" ∧ zq_ls z v = 2))) 1 6 (va_A (zW t0 g z) sz) := by
  refine vx_ofW (cc := c_Z_liveStandingAt) (maxL := 3) (ret := (some (.object "ZoneHeap$Block"))) (by decide) rfl ?_
  intro p e s m args below meth c s₁ B hml hex hv
  obtain ⟨rfl, hsz, hP, hK, hD0, hE⟩ := hv
  have hx := B.exec
  have hb := B.bytes
  have hr := B.returns
  have hts := atoms_spec (ws := w_Z_liveStandingAt) B.pre
  have hk : ∀ w ∈ zB, w.before _ s = true := fun w h => hts w (List.mem_cons_of_mem _ h)
  have hown : s.vm.findClass "ZoneHeap" = some m.cls := findClass_of_methodNamed B.named
  have hlocks := B.notSynchronized
  subst hsz
  have hD := hD0.self (sz := s.heap.size)
  generalize hAe : va_A (zW t0 g z) s.heap.size = A at hD hE ⊢
  have hA : ∀ q : Nat, s.heap.size ≤ q → A q := fun q h => by rw [← hAe]; exact Or.inr h
  have hS : va_S A s.heap s.heap [] := va_S.rf
  have hl := lv_entry ([.ref (g_h g), .int v]) (n := 3) (Nat.le_of_ble_eq_true rfl)
  rw [lg_entry_eq]
  generalize (lg_sl ([.ref (g_h g), .int v]) ++ List.replicate (3 - (lg_sl ([.ref (g_h g), .int v])).length) Slot.unset).toArray = ls at hl ⊢
  have hl : lv_has ls 3 [(0, .ref (g_h g)), (1, .int v)] := hl
  refine lv_aload_n hx hb d_Z_liveStandingAt_0 rfl (lv_at hl 0 rfl) ?_
  refine lv_iload_n hx hb d_Z_liveStandingAt_1 rfl (lv_at hl 1 rfl) ?_
  refine va_csq (zrV (n := 1) (As := [.int v]) (rest := []) ⟨hx, hb, hml, hown, hk⟩ (c_Z_standingAt_ok l D t0 g z s.heap.size v hz) zk107 zk109 ks_Z_standingAt zk1 kc_Z_standingAt ⟨rfl, by decide, by decide, by decide⟩ rfl rfl ⟨Nat.le_of_ble_eq_true rfl, Nat.le_of_ble_eq_true rfl⟩ ⟨hP, hK, hD, hS, hA, hE⟩ (va_recv hK hP (ci := 0) (q0 := 0) rfl rfl) rfl hl.1 rfl (Nat.le_of_ble_eq_true rfl) d_Z_liveStandingAt_2 ⟨Nat.le_of_ble_eq_true rfl, Nat.le_of_ble_eq_true rfl⟩).run (fun r hr1 => ?_)
  rcases zopt (r) with hro | ⟨a, hro⟩
  · refine zh_v (show va_rf (r) = .null from by rw [hro]; rfl) ?_
    refine lv_astore_nN (lv' := [(2, .null), (0, .ref (g_h g)), (1, .int v)]) hx hb d_Z_liveStandingAt_5 rfl hl (by decide) rfl (fun ls hl => ?_)
    refine lv_aload_nN hx hb d_Z_liveStandingAt_6 rfl (lv_at hl 0 rfl) ?_
    refine lv_ifnonnullN hx hb d_Z_liveStandingAt_7 ?_
    exact zthrow (is := 153) (text := "no block stands there") hst hx hb hk hown hex hlocks ⟨hP, hK, hD, hS, hA, hE⟩ zk146 zk9 (by decide +kernel) zat_A (hl.1.trans hml.symm) d_Z_liveStandingAt_10 d_Z_liveStandingAt_13 d_Z_liveStandingAt_14 d_Z_liveStandingAt_16 d_Z_liveStandingAt_19 (Or.inl ⟨rfl, by unfold zq_ls; rw [← hr1, hro]⟩) (Nat.le_of_ble_eq_true rfl) (Nat.le_of_ble_eq_true rfl) (Nat.le_of_ble_eq_true rfl) (Nat.le_of_ble_eq_true rfl) (Nat.le_of_ble_eq_true rfl) (Nat.le_of_ble_eq_true rfl)
  refine zh_v (show va_rf (r) = .ref a from by rw [hro]; rfl) ?_
  have hst2 : zq_st z v = some a := by rw [← hr1, hro]
  have ha : a ∈ z_LB z := zq_st_in hz hst2
  refine lv_astore_n (lv' := [(2, .ref a), (0, .ref (g_h g)), (1, .int v)]) hx hb d_Z_liveStandingAt_5 rfl hl (by decide) rfl (fun ls hl => ?_)
  refine lv_aload_n hx hb d_Z_liveStandingAt_6 rfl (lv_at hl 0 rfl) ?_
  refine lv_ifnonnull (tgt := 20) hx hb d_Z_liveStandingAt_7 (by decide) ?_
  refine lv_aload_n hx hb d_Z_liveStandingAt_20 rfl (lv_at hl 0 rfl) ?_
  obtain ⟨k9, hk9⟩ := zpool (t0 := t0) (g := g) (z := z) ha
  refine va_getN (D := D) (ci := 1) (v := .int (zb (z_kp z a))) (C := RB) (T := TB) (N := 4) hx hb hk inB hown hK hP k9 hk9 rfl 2 (by decide) (va_Nw.use rfl (hE.1.1 _ zn236)) (fun _ h9 => h9) rfl d_Z_liveStandingAt_21 ?_
  refine lv_if_eq (tgt := 37) hx hb d_Z_liveStandingAt_24 (by decide) (fun h => ?_) (fun h => ?_)
  rotate_left 1
  · rw [zh_zb] at h
    exact zthrow (is := 155) (text := "the block was given back") hst hx hb hk hown hex hlocks ⟨hP, hK, hD, hS, hA, hE⟩ zk265 zk12 (by decide +kernel) zat_S (hl.1.trans hml.symm) d_Z_liveStandingAt_27 d_Z_liveStandingAt_30 d_Z_liveStandingAt_31 d_Z_liveStandingAt_33 d_Z_liveStandingAt_36 (Or.inr ⟨rfl, by unfold zq_ls; rw [hst2]; show (if z_kp z a = true then 2 else 0) = 2; rw [if_pos (ts_nf h)]⟩) (Nat.le_of_ble_eq_true rfl) (Nat.le_of_ble_eq_true rfl) (Nat.le_of_ble_eq_true rfl) (Nat.le_of_ble_eq_true rfl) (Nat.le_of_ble_eq_true rfl) (Nat.le_of_ble_eq_true rfl)
  rw [zh_zb] at h
  refine lv_aload_n hx hb d_Z_liveStandingAt_37 rfl (lv_at hl 0 rfl) ?_
  refine vx_ret ?_
  refine W.widen (k := 1) (n := 6) (by omega) (by omega) ?_
  exact W.aret (v := va_rf (some a)) hx hb hr (Or.inl ⟨_, rfl⟩) (va_rf_or _) (fun t ht hW => ⟨⟨some a, (), rfl, ⟨by unfold zq_ls; rw [hst2]; show (if z_kp z a = true then 2 else 0) = 0; rw [if_neg (by rw [h]; intro q; cases q)], hst2.symm⟩, by rw [ht]; exact hP, va_K.moved hW.alike hK, hD⟩, hS.F ht⟩) hS.2.2 d_Z_liveStandingAt_38
