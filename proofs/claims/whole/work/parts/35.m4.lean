set_option maxHeartbeats 1000000 in
set_option maxRecDepth 100000 in
theorem c_M_read_ok (l : Launch) (D : va_G) (t0 : Nat) (g : MG) (z : MT) (sz : Nat) (v : Int32) (hz : mOK z) : Met l y_M_read w_M_read ({ frames := 2, cells := 0, slots := 0, locals := 70 }) (zPre D t0 (mT g) (mW g z) sz [.ref (n_h g), .int v]) (va_Qi (fun r u => ∃ y : Nat, mbad z v y ∧ u = mu_err z y ∧ (y = 0 → r = nI (zwd (m_oct z) v.toInt.toNat))) (fun (u : MT) t => zPost D (mT g) (va_A (mW g z) sz) (mW g u) t) (va_A (mW g z) sz)) 0 0 (va_A (mW g z) sz) := by
  refine Met.ofW (cc := c_M_read) (maxL := 2) (ret := (some .int)) (by decide) rfl ?_
  intro p e s m args below meth c s₁ B hml hv
  obtain ⟨rfl, hsz, hP, hK, hD0, hE⟩ := hv
  have hx := B.exec
  have hb := B.bytes
  have hr := B.returns
  have hts := atoms_spec (ws := w_M_read) B.pre
  have hk : ∀ w ∈ zB, w.before _ s = true := fun w h => hts w (List.mem_cons_of_mem _ h)
  have hown : s.vm.findClass "ZoneHeapModel" = some m.cls := findClass_of_methodNamed B.named
  have hlocks := B.notSynchronized
  subst hsz
  have hD := hD0.self (sz := s.heap.size)
  generalize hAe : va_A (mW g z) s.heap.size = A at hD hE ⊢
  have hA : ∀ q : Nat, s.heap.size ≤ q → A q := fun q h => by rw [← hAe]; exact Or.inr h
  have hS : va_S A s.heap s.heap [] := va_S.rf
  have hl := lv_entry ([.ref (n_h g), .int v]) (n := 2) (Nat.le_of_ble_eq_true rfl)
  rw [lg_entry_eq]
  generalize (lg_sl ([.ref (n_h g), .int v]) ++ List.replicate (2 - (lg_sl ([.ref (n_h g), .int v])).length) Slot.unset).toArray = ls at hl ⊢
  have hl : lv_has ls 2 [(0, .ref (n_h g)), (1, .int v)] := hl
  refine lv_aload_n hx hb d_M_read_0 rfl (lv_at hl 0 rfl) ?_
  refine lv_iload_n hx hb d_M_read_1 rfl (lv_at hl 1 rfl) ?_
  refine zci (zrV (n := 1) (As := [.int v]) (rest := []) ⟨hx, hb, hml, hown, hk⟩ (c_M_bad_ok l D t0 g z s.heap.size v hz) zk550 zk552 ks_M_bad zk5 kc_M_bad ⟨rfl, by decide, by decide, by decide⟩ rfl rfl ⟨Nat.le_of_ble_eq_true rfl, Nat.le_of_ble_eq_true rfl⟩ ⟨hP, hK, hD, hS, hA, hE⟩ (va_recv hK hP (ci := 2) (q0 := 0) rfl rfl) rfl hl.1 rfl (Nat.le_of_ble_eq_true rfl) d_M_read_2 ⟨Nat.le_of_ble_eq_true rfl, Nat.le_of_ble_eq_true rfl⟩) ⟨hP, hK, hD, hS, hA, hE⟩ (fun r u H locs hu hP hK hD hS => ?_)
  obtain ⟨y, hy, rfl, rfl⟩ := hu
  have hP : va_P D zcl (mW g (mmk y (m_oct z) (m_pl z) (m_sz z) (m_sta z) (m_sin z) (m_rea z) (m_fnd z) (m_many z) (m_made z) (m_backs z) (m_lm z))) H := hP
  have hD : va_D A (mW g (mmk y (m_oct z) (m_pl z) (m_sz z) (m_sta z) (m_sin z) (m_rea z) (m_fnd z) (m_many z) (m_made z) (m_backs z) (m_lm z))) := hD
  have hK : va_K D zcl (mT g) s := hK
  refine lv_if_eq (tgt := 12) hx hb d_M_read_5 (by decide) (fun h => ?_) (fun h => ?_)
  rotate_left 1
  · rw [zh_zb] at h
    have h := of_decide_eq_true (ts_nf h)
    refine lv_iconst (v := nI 0) hx hb d_M_read_8 (by decide) ?_
    refine lv_goto (tgt := 17) hx hb d_M_read_9 (by decide) ?_
    exact W.iret hx hb hr (fun t ht hW => ⟨⟨_, (mu_err z y), rfl, ⟨y, hy, rfl, fun q => absurd q h⟩, by rw [ht]; exact hP, va_K.moved hW.alike hK, hD⟩, hS.F ht⟩) hS.2.2 d_M_read_17
  rw [zh_zb] at h
  have hy0 : y = 0 := Decidable.byContradiction (of_decide_eq_false h)
  have hx4 : ∃ x : Nat, v = nI x ∧ x + 4 ≤ 8192 := by
    rcases hy with ⟨-, q⟩ | ⟨q, -⟩
    · omega
    · exact ⟨v.toInt.toNat, Int32.toInt_inj.mp (by rw [nI_toInt (by omega)]; omega), by omega⟩
  obtain ⟨x, rfl, hx4⟩ := hx4
  have hvn : (nI x).toInt.toNat = x := by rw [nI_toInt (by omega)]; rfl
  refine lv_aload_n hx hb d_M_read_12 rfl (lv_at hl 0 rfl) ?_
  refine lv_iload_n hx hb d_M_read_13 rfl (lv_at hl 1 rfl) ?_
  refine vp_callSi (zrV (n := 1) (As := [.int (nI x)]) (rest := []) ⟨hx, hb, hml, hown, hk⟩ (c_M_word_ok l D t0 g (mmk y (m_oct z) (m_pl z) (m_sz z) (m_sta z) (m_sin z) (m_rea z) (m_fnd z) (m_many z) (m_made z) (m_backs z) (m_lm z)) H.size x hz hx4) zk558 zk560 ks_M_word zk5 kc_M_word ⟨rfl, by decide, by decide, by decide⟩ rfl rfl ⟨Nat.le_of_ble_eq_true rfl, Nat.le_of_ble_eq_true rfl⟩ ⟨hP, hK, hD, hS, hA, hE⟩ (va_recv hK hP (ci := 2) (q0 := 0) rfl rfl) rfl hl.1 rfl (Nat.le_of_ble_eq_true rfl) d_M_read_14 ⟨Nat.le_of_ble_eq_true rfl, Nat.le_of_ble_eq_true rfl⟩).run (fun r hr1 => ?_)
  exact W.iret hx hb hr (fun t ht hW => ⟨⟨_, (mu_err z y), rfl, ⟨y, hy, rfl, fun _ => by rw [hvn]; exact hr1⟩, by rw [ht]; exact hP, va_K.moved hW.alike hK, hD⟩, hS.F ht⟩) hS.2.2 d_M_read_17
def mq_wr (z : MT) (x n : Nat) : MT := (mmk 0 (zq_wr (m_oct z) x n) (m_pl z) (m_sz z) (m_sta z) (m_sin z) (m_rea z) (m_fnd z) (m_many z) (m_made z) (m_backs z) (m_lm z))
set_option maxHeartbeats 1000000 in
set_option maxRecDepth 100000 in
theorem c_M_write_ok (l : Launch) (D : va_G) (t0 : Nat) (g : MG) (z : MT) (sz : Nat) (v v2 : Int32) (hz : mOK z) : Met l y_M_write w_M_write ({ frames := 2, cells := 0, slots := 0, locals := 70 }) (zPre D t0 (mT g) (mW g z) sz [.ref (n_h g), .int v, .int v2]) (va_Qv (fun u => ∃ y : Nat, mbad z v y ∧ ((y ≠ 0 ∧ u = mu_err z y) ∨ (y = 0 ∧ u = mq_wr z v.toInt.toNat v2.toBitVec.toNat))) (fun (u : MT) t => zPost D (mT g) (va_A (mW g z) sz) (mW g u) t) (va_A (mW g z) sz)) 0 0 (va_A (mW g z) sz) := by
  refine Met.ofW (cc := c_M_write) (maxL := 4) (ret := none) (by decide) rfl ?_
  intro p e s m args below meth c s₁ B hml hv
  obtain ⟨rfl, hsz, hP, hK, hD0, hE⟩ := hv
  have hx := B.exec
  have hb := B.bytes
  have hr := B.returns
  have hts := atoms_spec (ws := w_M_write) B.pre
  have hk : ∀ w ∈ zB, w.before _ s = true := fun w h => hts w (List.mem_cons_of_mem _ h)
  have hown : s.vm.findClass "ZoneHeapModel" = some m.cls := findClass_of_methodNamed B.named
  have hlocks := B.notSynchronized
  subst hsz
  have hD := hD0.self (sz := s.heap.size)
  generalize hAe : va_A (mW g z) s.heap.size = A at hD hE ⊢
  have hA : ∀ q : Nat, s.heap.size ≤ q → A q := fun q h => by rw [← hAe]; exact Or.inr h
  have hS : va_S A s.heap s.heap [] := va_S.rf
  have hl := lv_entry ([.ref (n_h g), .int v, .int v2]) (n := 4) (Nat.le_of_ble_eq_true rfl)
  rw [lg_entry_eq]
  generalize (lg_sl ([.ref (n_h g), .int v, .int v2]) ++ List.replicate (4 - (lg_sl ([.ref (n_h g), .int v, .int v2])).length) Slot.unset).toArray = ls at hl ⊢
  have hl : lv_has ls 4 [(0, .ref (n_h g)), (1, .int v), (2, .int v2)] := hl
  refine lv_aload_n hx hb d_M_write_0 rfl (lv_at hl 0 rfl) ?_
  refine lv_iload_n hx hb d_M_write_1 rfl (lv_at hl 1 rfl) ?_
  refine zci (zrV (n := 1) (As := [.int v]) (rest := []) ⟨hx, hb, hml, hown, hk⟩ (c_M_bad_ok l D t0 g z s.heap.size v hz) zk550 zk552 ks_M_bad zk5 kc_M_bad ⟨rfl, by decide, by decide, by decide⟩ rfl rfl ⟨Nat.le_of_ble_eq_true rfl, Nat.le_of_ble_eq_true rfl⟩ ⟨hP, hK, hD, hS, hA, hE⟩ (va_recv hK hP (ci := 2) (q0 := 0) rfl rfl) rfl hl.1 rfl (Nat.le_of_ble_eq_true rfl) d_M_write_2 ⟨Nat.le_of_ble_eq_true rfl, Nat.le_of_ble_eq_true rfl⟩) ⟨hP, hK, hD, hS, hA, hE⟩ (fun r u H locs hu hP hK hD hS => ?_)
  obtain ⟨y, hy, rfl, rfl⟩ := hu
  have hP : va_P D zcl (mW g (mmk y (m_oct z) (m_pl z) (m_sz z) (m_sta z) (m_sin z) (m_rea z) (m_fnd z) (m_many z) (m_made z) (m_backs z) (m_lm z))) H := hP
  have hD : va_D A (mW g (mmk y (m_oct z) (m_pl z) (m_sz z) (m_sta z) (m_sin z) (m_rea z) (m_fnd z) (m_many z) (m_made z) (m_backs z) (m_lm z))) := hD
  have hK : va_K D zcl (mT g) s := hK
  refine lv_if_eq (tgt := 9) hx hb d_M_write_5 (by decide) (fun h => ?_) (fun h => ?_)
  rotate_left 1
  · rw [zh_zb] at h
    have h := of_decide_eq_true (ts_nf h)
    exact W.vret hx hb hr (fun t ht hW => ⟨⟨(mu_err z y), rfl, ⟨y, hy, Or.inl ⟨h, rfl⟩⟩, by rw [ht]; exact hP, va_K.moved hW.alike hK, hD⟩, hS.F ht⟩) hS.2.2 d_M_write_8
  rw [zh_zb] at h
  have hy0 : y = 0 := Decidable.byContradiction (of_decide_eq_false h)
  have hx4 : ∃ x : Nat, v = nI x ∧ x + 4 ≤ 8192 := by
    rcases hy with ⟨-, q⟩ | ⟨q, -⟩
    · omega
    · exact ⟨v.toInt.toNat, Int32.toInt_inj.mp (by rw [nI_toInt (by omega)]; omega), by omega⟩
  obtain ⟨x, rfl, hx4⟩ := hx4
  have hvn : (nI x).toInt.toNat = x := by rw [nI_toInt (by omega)]; rfl
  obtain ⟨n, hn, rfl⟩ := wb_of32 v2
  have hnn : (nI n).toBitVec.toNat = n := pk_tn hn
  rw [hy0] at hP hD
  have hP : va_P D zcl (mW g (mmk 0 (m_oct z) (m_pl z) (m_sz z) (m_sta z) (m_sin z) (m_rea z) (m_fnd z) (m_many z) (m_made z) (m_backs z) (m_lm z))) H := hP
  have hD : va_D A (mW g (mmk 0 (m_oct z) (m_pl z) (m_sz z) (m_sta z) (m_sin z) (m_rea z) (m_fnd z) (m_many z) (m_made z) (m_backs z) (m_lm z))) := hD
  have hK : va_K D zcl (mT g) s := hK
  refine lv_iconst (v := nI 0) hx hb d_M_write_9 (by decide) ?_
  refine lv_istore_n (lv' := [(3, .int (nI 0)), (0, .ref (n_h g)), (1, .int (nI x)), (2, .int (nI n))]) hx hb d_M_write_10 rfl hl (by decide) rfl (fun ls hl => ?_)
  refine lv_iload_n hx hb d_M_write_11 rfl (lv_at hl 0 rfl) ?_
  refine lv_iconst (v := nI 4) hx hb d_M_write_12 (by decide) ?_
  refine lv_icmp_ge (tgt := 40) hx hb d_M_write_13 (by decide) (fun h9 => ?_) (fun h9 => ?_)
  · rw [nI_leI (by omega) (by omega)] at h9
    exact absurd h9 (by omega)
  rw [nI_leI (by omega) (by omega)] at h9
  refine lv_aload_n hx hb d_M_write_16 rfl (lv_at hl 1 rfl) ?_
  refine va_get (D := D) (ci := 2) (v := .ref (n_aO g)) (C := RM) (T := TM) (N := 12) hx hb hk inM hown hK hP 0 rfl rfl 1 (by decide) (hk _ zk454) (fun _ h9 => h9) rfl d_M_write_17 ?_
  refine lv_iload_n hx hb d_M_write_20 rfl (lv_at hl 2 rfl) ?_
  refine lv_iload_n hx hb d_M_write_21 rfl (lv_at hl 0 rfl) ?_
  refine lv_iadd hx hb d_M_write_22 ?_
  refine zh_t (show (nI x + nI 0) = nI (x + 0) from nI_add _ _) ?_
  refine lv_iload_n hx hb d_M_write_23 rfl (lv_at hl 3 rfl) ?_
  refine lv_bipush (v := nI 8) hx hb d_M_write_24 (by decide) ?_
  refine lv_iload_n hx hb d_M_write_26 rfl (lv_at hl 0 rfl) ?_
  refine lv_imul hx hb d_M_write_27 ?_
  refine zh_t (show (nI 8 * nI 0) = nI (8 * 0) from pk_mul _ _) ?_
  refine lv_ishr hx hb d_M_write_28 ?_
  refine lv_sipush (v := nI 255) hx hb d_M_write_29 (by decide) ?_
  refine lv_iand hx hb d_M_write_32 ?_
  refine zh_t (show ((((nI n) >>> ((nI (8 * 0)) &&& 31))) &&& (nI 255)) = nI (n / 2 ^ (8 * 0) % 256) from mh_shr hn 0 (by decide)) ?_
  refine va_iast hx hb hK hP hD hS 1 0 rfl rfl (vp_in_nI (by omega) (by decide)) d_M_write_33 (fun H locs hP hD hS => ?_)
  rw [zh_upd (by omega)] at hP hD
  have hP : va_P D zcl (mW g (mmk 0 (va_up (m_oct z) (x + 0) (n / 2 ^ (8 * 0) % 256)) (m_pl z) (m_sz z) (m_sta z) (m_sin z) (m_rea z) (m_fnd z) (m_many z) (m_made z) (m_backs z) (m_lm z))) H := hP
  have hD : va_D A (mW g (mmk 0 (va_up (m_oct z) (x + 0) (n / 2 ^ (8 * 0) % 256)) (m_pl z) (m_sz z) (m_sta z) (m_sin z) (m_rea z) (m_fnd z) (m_many z) (m_made z) (m_backs z) (m_lm z))) := hD
  refine lv_iinc (lv' := [(3, .int (nI (0 + 1))), (0, .ref (n_h g)), (1, .int (nI x)), (2, .int (nI n))]) (v := nI (0 + 1)) hx hb d_M_write_34 hl (k := 0) rfl (nI_add _ _) (by decide) rfl (fun ls hl => ?_)
  have hl : lv_has ls 4 [(3, .int (nI 1)), (0, .ref (n_h g)), (1, .int (nI x)), (2, .int (nI n))] := hl
  refine lv_goto (tgt := 11) hx hb d_M_write_37 (by decide) ?_
  refine lv_iload_n hx hb d_M_write_11 rfl (lv_at hl 0 rfl) ?_
  refine lv_iconst (v := nI 4) hx hb d_M_write_12 (by decide) ?_
  refine lv_icmp_ge (tgt := 40) hx hb d_M_write_13 (by decide) (fun h9 => ?_) (fun h9 => ?_)
  · rw [nI_leI (by omega) (by omega)] at h9
    exact absurd h9 (by omega)
  rw [nI_leI (by omega) (by omega)] at h9
  refine lv_aload_n hx hb d_M_write_16 rfl (lv_at hl 1 rfl) ?_
  refine va_get (D := D) (ci := 2) (v := .ref (n_aO g)) (C := RM) (T := TM) (N := 12) hx hb hk inM hown hK hP 0 rfl rfl 1 (by decide) (hk _ zk454) (fun _ h9 => h9) rfl d_M_write_17 ?_
  refine lv_iload_n hx hb d_M_write_20 rfl (lv_at hl 2 rfl) ?_
  refine lv_iload_n hx hb d_M_write_21 rfl (lv_at hl 0 rfl) ?_
  refine lv_iadd hx hb d_M_write_22 ?_
  refine zh_t (show (nI x + nI 1) = nI (x + 1) from nI_add _ _) ?_
  refine lv_iload_n hx hb d_M_write_23 rfl (lv_at hl 3 rfl) ?_
  refine lv_bipush (v := nI 8) hx hb d_M_write_24 (by decide) ?_
  refine lv_iload_n hx hb d_M_write_26 rfl (lv_at hl 0 rfl) ?_
  refine lv_imul hx hb d_M_write_27 ?_
  refine zh_t (show (nI 8 * nI 1) = nI (8 * 1) from pk_mul _ _) ?_
  refine lv_ishr hx hb d_M_write_28 ?_
  refine lv_sipush (v := nI 255) hx hb d_M_write_29 (by decide) ?_
  refine lv_iand hx hb d_M_write_32 ?_
  refine zh_t (show ((((nI n) >>> ((nI (8 * 1)) &&& 31))) &&& (nI 255)) = nI (n / 2 ^ (8 * 1) % 256) from mh_shr hn 1 (by decide)) ?_
  refine va_iast hx hb hK hP hD hS 1 0 rfl rfl (vp_in_nI (by omega) (by decide)) d_M_write_33 (fun H locs hP hD hS => ?_)
  rw [zh_upd (by omega)] at hP hD
  have hP : va_P D zcl (mW g (mmk 0 (va_up (va_up (m_oct z) (x + 0) (n / 2 ^ (8 * 0) % 256)) (x + 1) (n / 2 ^ (8 * 1) % 256)) (m_pl z) (m_sz z) (m_sta z) (m_sin z) (m_rea z) (m_fnd z) (m_many z) (m_made z) (m_backs z) (m_lm z))) H := hP
  have hD : va_D A (mW g (mmk 0 (va_up (va_up (m_oct z) (x + 0) (n / 2 ^ (8 * 0) % 256)) (x + 1) (n / 2 ^ (8 * 1) % 256)) (m_pl z) (m_sz z) (m_sta z) (m_sin z) (m_rea z) (m_fnd z) (m_many z) (m_made z) (m_backs z) (m_lm z))) := hD
  refine lv_iinc (lv' := [(3, .int (nI (1 + 1))), (0, .ref (n_h g)), (1, .int (nI x)), (2, .int (nI n))]) (v := nI (1 + 1)) hx hb d_M_write_34 hl (k := 0) rfl (nI_add _ _) (by decide) rfl (fun ls hl => ?_)
  have hl : lv_has ls 4 [(3, .int (nI 2)), (0, .ref (n_h g)), (1, .int (nI x)), (2, .int (nI n))] := hl
  refine lv_goto (tgt := 11) hx hb d_M_write_37 (by decide) ?_
  refine lv_iload_n hx hb d_M_write_11 rfl (lv_at hl 0 rfl) ?_
  refine lv_iconst (v := nI 4) hx hb d_M_write_12 (by decide) ?_
  refine lv_icmp_ge (tgt := 40) hx hb d_M_write_13 (by decide) (fun h9 => ?_) (fun h9 => ?_)
  · rw [nI_leI (by omega) (by omega)] at h9
    exact absurd h9 (by omega)
  rw [nI_leI (by omega) (by omega)] at h9
  refine lv_aload_n hx hb d_M_write_16 rfl (lv_at hl 1 rfl) ?_
  refine va_get (D := D) (ci := 2) (v := .ref (n_aO g)) (C := RM) (T := TM) (N := 12) hx hb hk inM hown hK hP 0 rfl rfl 1 (by decide) (hk _ zk454) (fun _ h9 => h9) rfl d_M_write_17 ?_
  refine lv_iload_n hx hb d_M_write_20 rfl (lv_at hl 2 rfl) ?_
  refine lv_iload_n hx hb d_M_write_21 rfl (lv_at hl 0 rfl) ?_
  refine lv_iadd hx hb d_M_write_22 ?_
  refine zh_t (show (nI x + nI 2) = nI (x + 2) from nI_add _ _) ?_
  refine lv_iload_n hx hb d_M_write_23 rfl (lv_at hl 3 rfl) ?_
  refine lv_bipush (v := nI 8) hx hb d_M_write_24 (by decide) ?_
  refine lv_iload_n hx hb d_M_write_26 rfl (lv_at hl 0 rfl) ?_
  refine lv_imul hx hb d_M_write_27 ?_
  refine zh_t (show (nI 8 * nI 2) = nI (8 * 2) from pk_mul _ _) ?_
  refine lv_ishr hx hb d_M_write_28 ?_
  refine lv_sipush (v := nI 255) hx hb d_M_write_29 (by decide) ?_
  refine lv_iand hx hb d_M_write_32 ?_
  refine zh_t (show ((((nI n) >>> ((nI (8 * 2)) &&& 31))) &&& (nI 255)) = nI (n / 2 ^ (8 * 2) % 256) from mh_shr hn 2 (by decide)) ?_
  refine va_iast hx hb hK hP hD hS 1 0 rfl rfl (vp_in_nI (by omega) (by decide)) d_M_write_33 (fun H locs hP hD hS => ?_)
  rw [zh_upd (by omega)] at hP hD
  have hP : va_P D zcl (mW g (mmk 0 (va_up (va_up (va_up (m_oct z) (x + 0) (n / 2 ^ (8 * 0) % 256)) (x + 1) (n / 2 ^ (8 * 1) % 256)) (x + 2) (n / 2 ^ (8 * 2) % 256)) (m_pl z) (m_sz z) (m_sta z) (m_sin z) (m_rea z) (m_fnd z) (m_many z) (m_made z) (m_backs z) (m_lm z))) H := hP
  have hD : va_D A (mW g (mmk 0 (va_up (va_up (va_up (m_oct z) (x + 0) (n / 2 ^ (8 * 0) % 256)) (x + 1) (n / 2 ^ (8 * 1) % 256)) (x + 2) (n / 2 ^ (8 * 2) % 256)) (m_pl z) (m_sz z) (m_sta z) (m_sin z) (m_rea z) (m_fnd z) (m_many z) (m_made z) (m_backs z) (m_lm z))) := hD
  refine lv_iinc (lv' := [(3, .int (nI (2 + 1))), (0, .ref (n_h g)), (1, .int (nI x)), (2, .int (nI n))]) (v := nI (2 + 1)) hx hb d_M_write_34 hl (k := 0) rfl (nI_add _ _) (by decide) rfl (fun ls hl => ?_)
  have hl : lv_has ls 4 [(3, .int (nI 3)), (0, .ref (n_h g)), (1, .int (nI x)), (2, .int (nI n))] := hl
  refine lv_goto (tgt := 11) hx hb d_M_write_37 (by decide) ?_
  refine lv_iload_n hx hb d_M_write_11 rfl (lv_at hl 0 rfl) ?_
  refine lv_iconst (v := nI 4) hx hb d_M_write_12 (by decide) ?_
  refine lv_icmp_ge (tgt := 40) hx hb d_M_write_13 (by decide) (fun h9 => ?_) (fun h9 => ?_)
  · rw [nI_leI (by omega) (by omega)] at h9
    exact absurd h9 (by omega)
  rw [nI_leI (by omega) (by omega)] at h9
  refine lv_aload_n hx hb d_M_write_16 rfl (lv_at hl 1 rfl) ?_
  refine va_get (D := D) (ci := 2) (v := .ref (n_aO g)) (C := RM) (T := TM) (N := 12) hx hb hk inM hown hK hP 0 rfl rfl 1 (by decide) (hk _ zk454) (fun _ h9 => h9) rfl d_M_write_17 ?_
  refine lv_iload_n hx hb d_M_write_20 rfl (lv_at hl 2 rfl) ?_
  refine lv_iload_n hx hb d_M_write_21 rfl (lv_at hl 0 rfl) ?_
  refine lv_iadd hx hb d_M_write_22 ?_
  refine zh_t (show (nI x + nI 3) = nI (x + 3) from nI_add _ _) ?_
  refine lv_iload_n hx hb d_M_write_23 rfl (lv_at hl 3 rfl) ?_
  refine lv_bipush (v := nI 8) hx hb d_M_write_24 (by decide) ?_
  refine lv_iload_n hx hb d_M_write_26 rfl (lv_at hl 0 rfl) ?_
  refine lv_imul hx hb d_M_write_27 ?_
  refine zh_t (show (nI 8 * nI 3) = nI (8 * 3) from pk_mul _ _) ?_
  refine lv_ishr hx hb d_M_write_28 ?_
  refine lv_sipush (v := nI 255) hx hb d_M_write_29 (by decide) ?_
  refine lv_iand hx hb d_M_write_32 ?_
  refine zh_t (show ((((nI n) >>> ((nI (8 * 3)) &&& 31))) &&& (nI 255)) = nI (n / 2 ^ (8 * 3) % 256) from mh_shr hn 3 (by decide)) ?_
  refine va_iast hx hb hK hP hD hS 1 0 rfl rfl (vp_in_nI (by omega) (by decide)) d_M_write_33 (fun H locs hP hD hS => ?_)
  rw [zh_upd (by omega)] at hP hD
  have hP : va_P D zcl (mW g (mmk 0 (va_up (va_up (va_up (va_up (m_oct z) (x + 0) (n / 2 ^ (8 * 0) % 256)) (x + 1) (n / 2 ^ (8 * 1) % 256)) (x + 2) (n / 2 ^ (8 * 2) % 256)) (x + 3) (n / 2 ^ (8 * 3) % 256)) (m_pl z) (m_sz z) (m_sta z) (m_sin z) (m_rea z) (m_fnd z) (m_many z) (m_made z) (m_backs z) (m_lm z))) H := hP
  have hD : va_D A (mW g (mmk 0 (va_up (va_up (va_up (va_up (m_oct z) (x + 0) (n / 2 ^ (8 * 0) % 256)) (x + 1) (n / 2 ^ (8 * 1) % 256)) (x + 2) (n / 2 ^ (8 * 2) % 256)) (x + 3) (n / 2 ^ (8 * 3) % 256)) (m_pl z) (m_sz z) (m_sta z) (m_sin z) (m_rea z) (m_fnd z) (m_many z) (m_made z) (m_backs z) (m_lm z))) := hD
  refine lv_iinc (lv' := [(3, .int (nI (3 + 1))), (0, .ref (n_h g)), (1, .int (nI x)), (2, .int (nI n))]) (v := nI (3 + 1)) hx hb d_M_write_34 hl (k := 0) rfl (nI_add _ _) (by decide) rfl (fun ls hl => ?_)
  have hl : lv_has ls 4 [(3, .int (nI 4)), (0, .ref (n_h g)), (1, .int (nI x)), (2, .int (nI n))] := hl
  refine lv_goto (tgt := 11) hx hb d_M_write_37 (by decide) ?_
  refine lv_iload_n hx hb d_M_write_11 rfl (lv_at hl 0 rfl) ?_
  refine lv_iconst (v := nI 4) hx hb d_M_write_12 (by decide) ?_
  refine lv_icmp_ge (tgt := 40) hx hb d_M_write_13 (by decide) (fun h9 => ?_) (fun h9 => ?_)
  rotate_left 1
  · rw [nI_leI (by omega) (by omega)] at h9
    exact absurd h9 (by omega)
  rw [nI_leI (by omega) (by omega)] at h9
  exact W.vret hx hb hr (fun t ht hW => ⟨⟨(mq_wr z x n), rfl, ⟨y, hy, Or.inr ⟨hy0, by rw [hvn, hnn]⟩⟩, by rw [ht]; exact hP, va_K.moved hW.alike hK, hD⟩, hS.F ht⟩) hS.2.2 d_M_write_40
set_option maxHeartbeats 1000000 in
set_option maxRecDepth 100000 in
theorem c_M_lostAt_ok (l : Launch) (D : va_G) (t0 : Nat) (g : MG) (z : MT) (sz : Nat) (v : Int32) (hz : mOK z) : Met l y_M_lostAt w_M_lostAt ({ frames := 1, cells := 0, slots := 0, locals := 40 }) (zPre D t0 (mT g) (mW g z) sz [.ref (n_h g), .int v]) (va_Qi (fun r u => (¬ (0 ≤ v.toInt ∧ v.toInt < m_lm z) ∧ u = mu_err z 1) ∨ ((0 ≤ v.toInt ∧ v.toInt < m_lm z) ∧ u = mu_err z 0 ∧ r = nI (m_fnd z v.toInt.toNat))) (fun (u : MT) t => zPost D (mT g) (va_A (mW g z) sz) (mW g u) t) (va_A (mW g z) sz)) 0 0 (va_A (mW g z) sz) := by
  refine Met.ofW (cc := c_M_lostAt) (maxL := 2) (ret := (some .int)) (by decide) rfl ?_
  intro p e s m args below meth c s₁ B hml hv
  obtain ⟨rfl, hsz, hP, hK, hD0, hE⟩ := hv
  have hx := B.exec
  have hb := B.bytes
  have hr := B.returns
  have hts := atoms_spec (ws := w_M_lostAt) B.pre
  have hk : ∀ w ∈ zB, w.before _ s = true := fun w h => hts w (List.mem_cons_of_mem _ h)
  have hown : s.vm.findClass "ZoneHeapModel" = some m.cls := findClass_of_methodNamed B.named
  have hlocks := B.notSynchronized
  subst hsz
  have hD := hD0.self (sz := s.heap.size)
  generalize hAe : va_A (mW g z) s.heap.size = A at hD hE ⊢
  have hA : ∀ q : Nat, s.heap.size ≤ q → A q := fun q h => by rw [← hAe]; exact Or.inr h
  have hS : va_S A s.heap s.heap [] := va_S.rf
  have hl := lv_entry ([.ref (n_h g), .int v]) (n := 2) (Nat.le_of_ble_eq_true rfl)
  rw [lg_entry_eq]
  generalize (lg_sl ([.ref (n_h g), .int v]) ++ List.replicate (2 - (lg_sl ([.ref (n_h g), .int v])).length) Slot.unset).toArray = ls at hl ⊢
  have hl : lv_has ls 2 [(0, .ref (n_h g)), (1, .int v)] := hl
  have hlm := hz.2.2.2.1
  refine lv_aload_n hx hb d_M_lostAt_0 rfl (lv_at hl 0 rfl) ?_
  refine lv_iload_n hx hb d_M_lostAt_1 rfl (lv_at hl 1 rfl) ?_
  refine lv_if_lt (tgt := 13) hx hb d_M_lostAt_2 (by decide) (fun h => ?_) (fun h => ?_)
  · refine lv_iconst (v := nI 1) hx hb d_M_lostAt_13 (by decide) ?_
    refine zh_t (show nI 1 = zb true from rfl) ?_
    refine lv_goto (tgt := 18) hx hb d_M_lostAt_14 (by decide) ?_
    refine lv_iconst (v := nI 1) hx hb d_M_lostAt_18 (by decide) ?_
    refine zci (zrV (n := 2) (As := [.int (zb true), .int (nI 1)]) (rest := []) ⟨hx, hb, hml, hown, hk⟩ (c_M_fails_ok l D t0 g z s.heap.size true 1) zk499 zk501 ks_M_fails zk5 kc_M_fails ⟨rfl, by decide, by decide, by decide⟩ rfl rfl ⟨Nat.le_of_ble_eq_true rfl, Nat.le_of_ble_eq_true rfl⟩ ⟨hP, hK, hD, hS, hA, hE⟩ (va_recv hK hP (ci := 2) (q0 := 0) rfl rfl) rfl hl.1 rfl (Nat.le_of_ble_eq_true rfl) d_M_lostAt_19 ⟨Nat.le_of_ble_eq_true rfl, Nat.le_of_ble_eq_true rfl⟩) ⟨hP, hK, hD, hS, hA, hE⟩ (fun r u H locs hu hP hK hD hS => ?_)
    obtain ⟨rfl, rfl⟩ := hu
    have hP : va_P D zcl (mW g (mmk 1 (m_oct z) (m_pl z) (m_sz z) (m_sta z) (m_sin z) (m_rea z) (m_fnd z) (m_many z) (m_made z) (m_backs z) (m_lm z))) H := hP
    have hD : va_D A (mW g (mmk 1 (m_oct z) (m_pl z) (m_sz z) (m_sta z) (m_sin z) (m_rea z) (m_fnd z) (m_many z) (m_made z) (m_backs z) (m_lm z))) := hD
    have hK : va_K D zcl (mT g) s := hK
    refine lv_if_eq (tgt := 27) hx hb d_M_lostAt_22 (by decide) (fun h9 => ?_) (fun h9 => ?_)
    · rw [zh_zb] at h9
      exact absurd h9 (by decide)
    refine lv_iconst (v := nI 0) hx hb d_M_lostAt_25 (by decide) ?_
    exact W.iret hx hb hr (fun t ht hW => ⟨⟨_, (mu_err z 1), rfl, Or.inl ⟨by have := zi_lt0 h; omega, rfl⟩, by rw [ht]; exact hP, va_K.moved hW.alike hK, hD⟩, hS.F ht⟩) hS.2.2 d_M_lostAt_26
  obtain ⟨x, hx31, rfl⟩ := nI_of h
  refine lv_iload_n hx hb d_M_lostAt_5 rfl (lv_at hl 1 rfl) ?_
  refine lv_aload_n hx hb d_M_lostAt_6 rfl (lv_at hl 0 rfl) ?_
  refine va_get (D := D) (ci := 2) (v := .int (nI (m_lm z))) (C := RM) (T := TM) (N := 12) hx hb hk inM hown hK hP 0 rfl rfl 11 (by decide) (hk _ zk464) (fun _ h9 => h9) rfl d_M_lostAt_7 ?_
  refine lv_icmp_lt (tgt := 17) hx hb d_M_lostAt_10 (by decide) (fun h => ?_) (fun h => ?_)
  rotate_left 1
  · rw [nI_ltI (by omega) (by omega)] at h
    refine lv_iconst (v := nI 1) hx hb d_M_lostAt_13 (by decide) ?_
    refine zh_t (show nI 1 = zb true from rfl) ?_
    refine lv_goto (tgt := 18) hx hb d_M_lostAt_14 (by decide) ?_
    refine lv_iconst (v := nI 1) hx hb d_M_lostAt_18 (by decide) ?_
    refine zci (zrV (n := 2) (As := [.int (zb true), .int (nI 1)]) (rest := []) ⟨hx, hb, hml, hown, hk⟩ (c_M_fails_ok l D t0 g z s.heap.size true 1) zk499 zk501 ks_M_fails zk5 kc_M_fails ⟨rfl, by decide, by decide, by decide⟩ rfl rfl ⟨Nat.le_of_ble_eq_true rfl, Nat.le_of_ble_eq_true rfl⟩ ⟨hP, hK, hD, hS, hA, hE⟩ (va_recv hK hP (ci := 2) (q0 := 0) rfl rfl) rfl hl.1 rfl (Nat.le_of_ble_eq_true rfl) d_M_lostAt_19 ⟨Nat.le_of_ble_eq_true rfl, Nat.le_of_ble_eq_true rfl⟩) ⟨hP, hK, hD, hS, hA, hE⟩ (fun r u H locs hu hP hK hD hS => ?_)
    obtain ⟨rfl, rfl⟩ := hu
    have hP : va_P D zcl (mW g (mmk 1 (m_oct z) (m_pl z) (m_sz z) (m_sta z) (m_sin z) (m_rea z) (m_fnd z) (m_many z) (m_made z) (m_backs z) (m_lm z))) H := hP
    have hD : va_D A (mW g (mmk 1 (m_oct z) (m_pl z) (m_sz z) (m_sta z) (m_sin z) (m_rea z) (m_fnd z) (m_many z) (m_made z) (m_backs z) (m_lm z))) := hD
    have hK : va_K D zcl (mT g) s := hK
    refine lv_if_eq (tgt := 27) hx hb d_M_lostAt_22 (by decide) (fun h9 => ?_) (fun h9 => ?_)
    · rw [zh_zb] at h9
      exact absurd h9 (by decide)
    refine lv_iconst (v := nI 0) hx hb d_M_lostAt_25 (by decide) ?_
    exact W.iret hx hb hr (fun t ht hW => ⟨⟨_, (mu_err z 1), rfl, Or.inl ⟨by rw [nI_toInt hx31]; omega, rfl⟩, by rw [ht]; exact hP, va_K.moved hW.alike hK, hD⟩, hS.F ht⟩) hS.2.2 d_M_lostAt_26
  rw [nI_ltI (by omega) (by omega)] at h
  refine lv_iconst (v := nI 0) hx hb d_M_lostAt_17 (by decide) ?_
  refine zh_t (show nI 0 = zb false from rfl) ?_
  refine lv_iconst (v := nI 1) hx hb d_M_lostAt_18 (by decide) ?_
  refine zci (zrV (n := 2) (As := [.int (zb false), .int (nI 1)]) (rest := []) ⟨hx, hb, hml, hown, hk⟩ (c_M_fails_ok l D t0 g z s.heap.size false 1) zk499 zk501 ks_M_fails zk5 kc_M_fails ⟨rfl, by decide, by decide, by decide⟩ rfl rfl ⟨Nat.le_of_ble_eq_true rfl, Nat.le_of_ble_eq_true rfl⟩ ⟨hP, hK, hD, hS, hA, hE⟩ (va_recv hK hP (ci := 2) (q0 := 0) rfl rfl) rfl hl.1 rfl (Nat.le_of_ble_eq_true rfl) d_M_lostAt_19 ⟨Nat.le_of_ble_eq_true rfl, Nat.le_of_ble_eq_true rfl⟩) ⟨hP, hK, hD, hS, hA, hE⟩ (fun r u H locs hu hP hK hD hS => ?_)
  obtain ⟨rfl, rfl⟩ := hu
  have hP : va_P D zcl (mW g (mmk 0 (m_oct z) (m_pl z) (m_sz z) (m_sta z) (m_sin z) (m_rea z) (m_fnd z) (m_many z) (m_made z) (m_backs z) (m_lm z))) H := hP
  have hD : va_D A (mW g (mmk 0 (m_oct z) (m_pl z) (m_sz z) (m_sta z) (m_sin z) (m_rea z) (m_fnd z) (m_many z) (m_made z) (m_backs z) (m_lm z))) := hD
  have hK : va_K D zcl (mT g) s := hK
  refine lv_if_eq (tgt := 27) hx hb d_M_lostAt_22 (by decide) (fun h9 => ?_) (fun h9 => ?_)
  rotate_left 1
  · rw [zh_zb] at h9
    exact absurd rfl h9
  refine lv_aload_n hx hb d_M_lostAt_27 rfl (lv_at hl 0 rfl) ?_
  refine va_get (D := D) (ci := 2) (v := .ref (n_aF g)) (C := RM) (T := TM) (N := 12) hx hb hk inM hown hK hP 0 rfl rfl 7 (by decide) (hk _ zk460) (fun _ h9 => h9) rfl d_M_lostAt_28 ?_
  refine lv_iload_n hx hb d_M_lostAt_31 rfl (lv_at hl 1 rfl) ?_
  refine va_iald hx hb hK hP 7 6 rfl rfl (vp_in_nI (by omega) (by decide)) d_M_lostAt_32 ?_
  refine zh_t (show nI (m_fnd z (nI x).toNatClampNeg) = nI (m_fnd z x) from by rw [nI_clamp (by omega)]) ?_
  exact W.iret hx hb hr (fun t ht hW => ⟨⟨_, (mu_err z 0), rfl, Or.inr ⟨by rw [nI_toInt hx31]; omega, rfl, by rw [nI_toInt hx31]; rfl⟩, by rw [ht]; exact hP, va_K.moved hW.alike hK, hD⟩, hS.F ht⟩) hS.2.2 d_M_lostAt_33
set_option maxHeartbeats 1000000 in
set_option maxRecDepth 100000 in
theorem c_M_get_ok (l : Launch) (D : va_G) (t0 : Nat) (g : MG) (z : MT) (sz : Nat) (v : Int32) (hz : mOK z) : Met l y_M_get w_M_get ({ frames := 3, cells := 0, slots := 0, locals := 90 }) (zPre D t0 (mT g) (mW g z) sz [.ref (n_h g), .int v]) (va_Qi (fun r u => (¬ (0 ≤ v.toInt ∧ v.toInt ≤ 2048) ∧ u = mu_err z 1) ∨ ((0 ≤ v.toInt ∧ v.toInt ≤ 2048) ∧ ∃ k : Nat, mroom z v.toInt.toNat k ∧ r = nI (16 * k) ∧ ((k = 0 ∧ u = mu_err z 0) ∨ (k ≠ 0 ∧ u = mq_make (mu_err z 0) k v.toInt.toNat)))) (fun (u : MT) t => zPost D (mT g) (va_A (mW g z) sz) (mW g u) t) (va_A (mW g z) sz)) 0 0 (va_A (mW g z) sz) := by
  refine Met.ofW (cc := c_M_get) (maxL := 2) (ret := (some .int)) (by decide) rfl ?_
  intro p e s m args below meth c s₁ B hml hv
  obtain ⟨rfl, hsz, hP, hK, hD0, hE⟩ := hv
  have hx := B.exec
  have hb := B.bytes
  have hr := B.returns
  have hts := atoms_spec (ws := w_M_get) B.pre
  have hk : ∀ w ∈ zB, w.before _ s = true := fun w h => hts w (List.mem_cons_of_mem _ h)
  have hown : s.vm.findClass "ZoneHeapModel" = some m.cls := findClass_of_methodNamed B.named
  have hlocks := B.notSynchronized
  subst hsz
  have hD := hD0.self (sz := s.heap.size)
  generalize hAe : va_A (mW g z) s.heap.size = A at hD hE ⊢
  have hA : ∀ q : Nat, s.heap.size ≤ q → A q := fun q h => by rw [← hAe]; exact Or.inr h
  have hS : va_S A s.heap s.heap [] := va_S.rf
  have hl := lv_entry ([.ref (n_h g), .int v]) (n := 2) (Nat.le_of_ble_eq_true rfl)
  rw [lg_entry_eq]
  generalize (lg_sl ([.ref (n_h g), .int v]) ++ List.replicate (2 - (lg_sl ([.ref (n_h g), .int v])).length) Slot.unset).toArray = ls at hl ⊢
  have hl : lv_has ls 2 [(0, .ref (n_h g)), (1, .int v)] := hl
  refine lv_aload_n hx hb d_M_get_0 rfl (lv_at hl 0 rfl) ?_
  refine lv_iload_n hx hb d_M_get_1 rfl (lv_at hl 1 rfl) ?_
  refine lv_if_lt (tgt := 12) hx hb d_M_get_2 (by decide) (fun h => ?_) (fun h => ?_)
  · refine lv_iconst (v := nI 1) hx hb d_M_get_12 (by decide) ?_
    refine zh_t (show nI 1 = zb true from rfl) ?_
    refine lv_goto (tgt := 17) hx hb d_M_get_13 (by decide) ?_
    refine lv_iconst (v := nI 1) hx hb d_M_get_17 (by decide) ?_
    refine zci (zrV (n := 2) (As := [.int (zb true), .int (nI 1)]) (rest := []) ⟨hx, hb, hml, hown, hk⟩ (c_M_fails_ok l D t0 g z s.heap.size true 1) zk499 zk501 ks_M_fails zk5 kc_M_fails ⟨rfl, by decide, by decide, by decide⟩ rfl rfl ⟨Nat.le_of_ble_eq_true rfl, Nat.le_of_ble_eq_true rfl⟩ ⟨hP, hK, hD, hS, hA, hE⟩ (va_recv hK hP (ci := 2) (q0 := 0) rfl rfl) rfl hl.1 rfl (Nat.le_of_ble_eq_true rfl) d_M_get_18 ⟨Nat.le_of_ble_eq_true rfl, Nat.le_of_ble_eq_true rfl⟩) ⟨hP, hK, hD, hS, hA, hE⟩ (fun r u H locs hu hP hK hD hS => ?_)
    obtain ⟨rfl, rfl⟩ := hu
    have hP : va_P D zcl (mW g (mmk 1 (m_oct z) (m_pl z) (m_sz z) (m_sta z) (m_sin z) (m_rea z) (m_fnd z) (m_many z) (m_made z) (m_backs z) (m_lm z))) H := hP
    have hD : va_D A (mW g (mmk 1 (m_oct z) (m_pl z) (m_sz z) (m_sta z) (m_sin z) (m_rea z) (m_fnd z) (m_many z) (m_made z) (m_backs z) (m_lm z))) := hD
    have hK : va_K D zcl (mT g) s := hK
    refine lv_if_eq (tgt := 26) hx hb d_M_get_21 (by decide) (fun h9 => ?_) (fun h9 => ?_)
    · rw [zh_zb] at h9
      exact absurd h9 (by decide)
    refine lv_iconst (v := nI 0) hx hb d_M_get_24 (by decide) ?_
    exact W.iret hx hb hr (fun t ht hW => ⟨⟨_, (mu_err z 1), rfl, Or.inl ⟨by have := zi_lt0 h; omega, rfl⟩, by rw [ht]; exact hP, va_K.moved hW.alike hK, hD⟩, hS.F ht⟩) hS.2.2 d_M_get_25
  obtain ⟨x, hx31, rfl⟩ := nI_of h
  refine lv_iload_n hx hb d_M_get_5 rfl (lv_at hl 1 rfl) ?_
  refine lv_sipush (v := nI 2048) hx hb d_M_get_6 (by decide) ?_
  refine lv_icmp_le (tgt := 16) hx hb d_M_get_9 (by decide) (fun h => ?_) (fun h => ?_)
  rotate_left 1
  · rw [nI_leI (by omega) (by omega)] at h
    refine lv_iconst (v := nI 1) hx hb d_M_get_12 (by decide) ?_
    refine zh_t (show nI 1 = zb true from rfl) ?_
    refine lv_goto (tgt := 17) hx hb d_M_get_13 (by decide) ?_
    refine lv_iconst (v := nI 1) hx hb d_M_get_17 (by decide) ?_
    refine zci (zrV (n := 2) (As := [.int (zb true), .int (nI 1)]) (rest := []) ⟨hx, hb, hml, hown, hk⟩ (c_M_fails_ok l D t0 g z s.heap.size true 1) zk499 zk501 ks_M_fails zk5 kc_M_fails ⟨rfl, by decide, by decide, by decide⟩ rfl rfl ⟨Nat.le_of_ble_eq_true rfl, Nat.le_of_ble_eq_true rfl⟩ ⟨hP, hK, hD, hS, hA, hE⟩ (va_recv hK hP (ci := 2) (q0 := 0) rfl rfl) rfl hl.1 rfl (Nat.le_of_ble_eq_true rfl) d_M_get_18 ⟨Nat.le_of_ble_eq_true rfl, Nat.le_of_ble_eq_true rfl⟩) ⟨hP, hK, hD, hS, hA, hE⟩ (fun r u H locs hu hP hK hD hS => ?_)
    obtain ⟨rfl, rfl⟩ := hu
    have hP : va_P D zcl (mW g (mmk 1 (m_oct z) (m_pl z) (m_sz z) (m_sta z) (m_sin z) (m_rea z) (m_fnd z) (m_many z) (m_made z) (m_backs z) (m_lm z))) H := hP
    have hD : va_D A (mW g (mmk 1 (m_oct z) (m_pl z) (m_sz z) (m_sta z) (m_sin z) (m_rea z) (m_fnd z) (m_many z) (m_made z) (m_backs z) (m_lm z))) := hD
    have hK : va_K D zcl (mT g) s := hK
    refine lv_if_eq (tgt := 26) hx hb d_M_get_21 (by decide) (fun h9 => ?_) (fun h9 => ?_)
    · rw [zh_zb] at h9
      exact absurd h9 (by decide)
    refine lv_iconst (v := nI 0) hx hb d_M_get_24 (by decide) ?_
    exact W.iret hx hb hr (fun t ht hW => ⟨⟨_, (mu_err z 1), rfl, Or.inl ⟨by rw [nI_toInt hx31]; omega, rfl⟩, by rw [ht]; exact hP, va_K.moved hW.alike hK, hD⟩, hS.F ht⟩) hS.2.2 d_M_get_25
  rw [nI_leI (by omega) (by omega)] at h
  refine lv_iconst (v := nI 0) hx hb d_M_get_16 (by decide) ?_
  refine zh_t (show nI 0 = zb false from rfl) ?_
  refine lv_iconst (v := nI 1) hx hb d_M_get_17 (by decide) ?_
  refine zci (zrV (n := 2) (As := [.int (zb false), .int (nI 1)]) (rest := []) ⟨hx, hb, hml, hown, hk⟩ (c_M_fails_ok l D t0 g z s.heap.size false 1) zk499 zk501 ks_M_fails zk5 kc_M_fails ⟨rfl, by decide, by decide, by decide⟩ rfl rfl ⟨Nat.le_of_ble_eq_true rfl, Nat.le_of_ble_eq_true rfl⟩ ⟨hP, hK, hD, hS, hA, hE⟩ (va_recv hK hP (ci := 2) (q0 := 0) rfl rfl) rfl hl.1 rfl (Nat.le_of_ble_eq_true rfl) d_M_get_18 ⟨Nat.le_of_ble_eq_true rfl, Nat.le_of_ble_eq_true rfl⟩) ⟨hP, hK, hD, hS, hA, hE⟩ (fun r u H locs hu hP hK hD hS => ?_)
  obtain ⟨rfl, rfl⟩ := hu
  have hP : va_P D zcl (mW g (mmk 0 (m_oct z) (m_pl z) (m_sz z) (m_sta z) (m_sin z) (m_rea z) (m_fnd z) (m_many z) (m_made z) (m_backs z) (m_lm z))) H := hP
  have hD : va_D A (mW g (mmk 0 (m_oct z) (m_pl z) (m_sz z) (m_sta z) (m_sin z) (m_rea z) (m_fnd z) (m_many z) (m_made z) (m_backs z) (m_lm z))) := hD
  have hK : va_K D zcl (mT g) s := hK
  refine lv_if_eq (tgt := 26) hx hb d_M_get_21 (by decide) (fun h9 => ?_) (fun h9 => ?_)
  rotate_left 1
  · rw [zh_zb] at h9
    exact absurd rfl h9
  have hvn : (nI x).toInt.toNat = x := by rw [nI_toInt hx31]; rfl
  refine lv_aload_n hx hb d_M_get_26 rfl (lv_at hl 0 rfl) ?_
  refine lv_iload_n hx hb d_M_get_27 rfl (lv_at hl 1 rfl) ?_
  refine zci (zrV (n := 1) (As := [.int (nI x)]) (rest := []) ⟨hx, hb, hml, hown, hk⟩ (c_M_make_ok l D t0 g (mmk 0 (m_oct z) (m_pl z) (m_sz z) (m_sta z) (m_sin z) (m_rea z) (m_fnd z) (m_many z) (m_made z) (m_backs z) (m_lm z)) H.size x (by omega) hz) zk503 zk505 ks_M_make zk5 kc_M_make ⟨rfl, by decide, by decide, by decide⟩ rfl rfl ⟨Nat.le_of_ble_eq_true rfl, Nat.le_of_ble_eq_true rfl⟩ ⟨hP, hK, hD, hS, hA, hE⟩ (va_recv hK hP (ci := 2) (q0 := 0) rfl rfl) rfl hl.1 rfl (Nat.le_of_ble_eq_true rfl) d_M_get_28 ⟨Nat.le_of_ble_eq_true rfl, Nat.le_of_ble_eq_true rfl⟩) ⟨hP, hK, hD, hS, hA, hE⟩ (fun r u H locs hu hP hK hD hS => ?_)
  obtain ⟨k, hroom, rfl, hcase⟩ := hu
  rcases hcase with ⟨hk0, hue⟩ | ⟨hk0, hue⟩
  · rw [hue] at hP hD
    exact W.iret hx hb hr (fun t ht hW => ⟨⟨_, (mu_err z 0), rfl, Or.inr ⟨by rw [nI_toInt hx31]; omega, k, by rw [hvn]; exact hroom, rfl, Or.inl ⟨hk0, rfl⟩⟩, by rw [ht]; exact hP, va_K.moved hW.alike hK, hD⟩, hS.F ht⟩) hS.2.2 d_M_get_31
  rw [hue] at hP hD
  exact W.iret hx hb hr (fun t ht hW => ⟨⟨_, (mq_make (mu_err z 0) k x), rfl, Or.inr ⟨by rw [nI_toInt hx31]; omega, k, by rw [hvn]; exact hroom, rfl, Or.inr ⟨hk0, by rw [hvn]⟩⟩, by rw [ht]; exact hP, va_K.moved hW.alike hK, hD⟩, hS.F ht⟩) hS.2.2 d_M_get_31
