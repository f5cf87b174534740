def mbad (z : MT) (v : Int32) (y : Nat) : Prop := (¬ (0 ≤ v.toInt ∧ v.toInt ≤ 8188) ∧ y = 1) ∨ ((0 ≤ v.toInt ∧ v.toInt ≤ 8188) ∧ ((y = 2 ∧ ∃ j : Nat, j < 4 ∧ ∀ k : Nat, k < m_many z → ¬ mof z (nI (v.toInt.toNat + j)) 1 k) ∨ (y = 0 ∧ ∀ j : Nat, j < 4 → ∃ k : Nat, k < m_many z ∧ mof z (nI (v.toInt.toNat + j)) 1 k)))
def mzone (z : MT) (v : Int32) (k : Nat) : Prop := (m_pl z k : Int) - 16 ≤ v.toInt ∧ v.toInt < m_pl z k + 16 * zc (m_sz z k) + 16
def mkind (z : MT) (v : Int32) (y : Nat) : Prop :=
  (y = 1 ∧ ∃ k : Nat, k < m_many z ∧ mof z v 1 k) ∨
  ((∀ k : Nat, k < m_many z → ¬ mof z v 1 k) ∧ ((y = 2 ∧ ∃ k : Nat, k < m_many z ∧ mof z v 2 k) ∨
    ((∀ k : Nat, k < m_many z → ¬ mof z v 2 k) ∧ ((y = 3 ∧ ∃ k : Nat, k < m_many z ∧ mzone z v k) ∨ (y = 0 ∧ ∀ k : Nat, k < m_many z → ¬ mzone z v k)))))
set_option maxHeartbeats 1000000 in
set_option maxRecDepth 100000 in
theorem c_M_block_ok (l : Launch) (D : va_G) (t0 : Nat) (g : MG) (z : MT) (sz : Nat) (v : Int32) (hz : mOK z) : Met l y_M_block w_M_block ({ frames := 1, cells := 0, slots := 0, locals := 40 }) (zPre D t0 (mT g) (mW g z) sz [.ref (n_h g), .int v]) (va_Qi (fun r u => (¬ (0 ≤ v.toInt ∧ v.toInt < 8192) ∧ u = mu_err z 1) ∨ ((0 ≤ v.toInt ∧ v.toInt < 8192) ∧ u = mu_err z 0 ∧ ((r = -1 ∧ ∀ k : Nat, k < m_many z → ¬ mof z v 1 k) ∨ ∃ k : Nat, k < m_many z ∧ mof z v 1 k ∧ r = nI (m_pl z k)))) (fun (u : MT) t => zPost D (mT g) (va_A (mW g z) sz) (mW g u) t) (va_A (mW g z) sz)) 0 0 (va_A (mW g z) sz) := by
  refine Met.ofW (cc := c_M_block) (maxL := 3) (ret := (some .int)) (by decide) rfl ?_
  intro p e s m args below meth c s₁ B hml hv
  obtain ⟨rfl, hsz, hP, hK, hD0, hE⟩ := hv
  have hx := B.exec
  have hb := B.bytes
  have hr := B.returns
  have hts := atoms_spec (ws := w_M_block) B.pre
  have hk : ∀ w ∈ zB, w.before _ s = true := fun w h => hts w (List.mem_cons_of_mem _ h)
  have hown : s.vm.findClass "ZoneHeapModel" = some m.cls := findClass_of_methodNamed B.named
  have hlocks := B.notSynchronized
  subst hsz
  have hD := hD0.self (sz := s.heap.size)
  generalize hAe : va_A (mW g z) s.heap.size = A at hD hE ⊢
  have hA : ∀ q : Nat, s.heap.size ≤ q → A q := fun q h => by rw [← hAe]; exact Or.inr h
  have hS : va_S A s.heap s.heap [] := va_S.rf
  have hl := lv_entry ([.ref (n_h g), .int v]) (n := 3) (Nat.le_of_ble_eq_true rfl)
  rw [lg_entry_eq]
  generalize (lg_sl ([.ref (n_h g), .int v]) ++ List.replicate (3 - (lg_sl ([.ref (n_h g), .int v])).length) Slot.unset).toArray = ls at hl ⊢
  have hl : lv_has ls 3 [(0, .ref (n_h g)), (1, .int v)] := hl
  have hm := hz.many
  refine lv_aload_n hx hb d_M_block_0 rfl (lv_at hl 0 rfl) ?_
  refine lv_iload_n hx hb d_M_block_1 rfl (lv_at hl 1 rfl) ?_
  refine lv_if_lt (tgt := 12) hx hb d_M_block_2 (by decide) (fun h => ?_) (fun h => ?_)
  · refine lv_iconst (v := nI 1) hx hb d_M_block_12 (by decide) ?_
    refine zh_t (show nI 1 = zb true from rfl) ?_
    refine lv_goto (tgt := 17) hx hb d_M_block_13 (by decide) ?_
    refine lv_iconst (v := nI 1) hx hb d_M_block_17 (by decide) ?_
    refine zci (zrV (n := 2) (As := [.int (zb true), .int (nI 1)]) (rest := []) ⟨hx, hb, hml, hown, hk⟩ (c_M_fails_ok l D t0 g z s.heap.size true 1) zk499 zk501 ks_M_fails zk5 kc_M_fails ⟨rfl, by decide, by decide, by decide⟩ rfl rfl ⟨Nat.le_of_ble_eq_true rfl, Nat.le_of_ble_eq_true rfl⟩ ⟨hP, hK, hD, hS, hA, hE⟩ (va_recv hK hP (ci := 2) (q0 := 0) rfl rfl) rfl hl.1 rfl (Nat.le_of_ble_eq_true rfl) d_M_block_18 ⟨Nat.le_of_ble_eq_true rfl, Nat.le_of_ble_eq_true rfl⟩) ⟨hP, hK, hD, hS, hA, hE⟩ (fun r u H locs hu hP hK hD hS => ?_)
    obtain ⟨rfl, rfl⟩ := hu
    have hP : va_P D zcl (mW g (mmk 1 (m_oct z) (m_pl z) (m_sz z) (m_sta z) (m_sin z) (m_rea z) (m_fnd z) (m_many z) (m_made z) (m_backs z) (m_lm z))) H := hP
    have hD : va_D A (mW g (mmk 1 (m_oct z) (m_pl z) (m_sz z) (m_sta z) (m_sin z) (m_rea z) (m_fnd z) (m_many z) (m_made z) (m_backs z) (m_lm z))) := hD
    have hK : va_K D zcl (mT g) s := hK
    refine lv_if_eq (tgt := 26) hx hb d_M_block_21 (by decide) (fun h9 => ?_) (fun h9 => ?_)
    · rw [zh_zb] at h9
      exact absurd h9 (by decide)
    refine lv_iconst (v := nI 0) hx hb d_M_block_24 (by decide) ?_
    exact W.iret hx hb hr (fun t ht hW => ⟨⟨_, (mu_err z 1), rfl, Or.inl ⟨by have := zi_lt0 h; omega, rfl⟩, by rw [ht]; exact hP, va_K.moved hW.alike hK, hD⟩, hS.F ht⟩) hS.2.2 d_M_block_25
  obtain ⟨x, hx31, rfl⟩ := nI_of h
  refine lv_iload_n hx hb d_M_block_5 rfl (lv_at hl 1 rfl) ?_
  refine lv_sipush (v := nI 8192) hx hb d_M_block_6 (by decide) ?_
  refine lv_icmp_lt (tgt := 16) hx hb d_M_block_9 (by decide) (fun h => ?_) (fun h => ?_)
  rotate_left 1
  · rw [nI_ltI (by omega) (by omega)] at h
    refine lv_iconst (v := nI 1) hx hb d_M_block_12 (by decide) ?_
    refine zh_t (show nI 1 = zb true from rfl) ?_
    refine lv_goto (tgt := 17) hx hb d_M_block_13 (by decide) ?_
    refine lv_iconst (v := nI 1) hx hb d_M_block_17 (by decide) ?_
    refine zci (zrV (n := 2) (As := [.int (zb true), .int (nI 1)]) (rest := []) ⟨hx, hb, hml, hown, hk⟩ (c_M_fails_ok l D t0 g z s.heap.size true 1) zk499 zk501 ks_M_fails zk5 kc_M_fails ⟨rfl, by decide, by decide, by decide⟩ rfl rfl ⟨Nat.le_of_ble_eq_true rfl, Nat.le_of_ble_eq_true rfl⟩ ⟨hP, hK, hD, hS, hA, hE⟩ (va_recv hK hP (ci := 2) (q0 := 0) rfl rfl) rfl hl.1 rfl (Nat.le_of_ble_eq_true rfl) d_M_block_18 ⟨Nat.le_of_ble_eq_true rfl, Nat.le_of_ble_eq_true rfl⟩) ⟨hP, hK, hD, hS, hA, hE⟩ (fun r u H locs hu hP hK hD hS => ?_)
    obtain ⟨rfl, rfl⟩ := hu
    have hP : va_P D zcl (mW g (mmk 1 (m_oct z) (m_pl z) (m_sz z) (m_sta z) (m_sin z) (m_rea z) (m_fnd z) (m_many z) (m_made z) (m_backs z) (m_lm z))) H := hP
    have hD : va_D A (mW g (mmk 1 (m_oct z) (m_pl z) (m_sz z) (m_sta z) (m_sin z) (m_rea z) (m_fnd z) (m_many z) (m_made z) (m_backs z) (m_lm z))) := hD
    have hK : va_K D zcl (mT g) s := hK
    refine lv_if_eq (tgt := 26) hx hb d_M_block_21 (by decide) (fun h9 => ?_) (fun h9 => ?_)
    · rw [zh_zb] at h9
      exact absurd h9 (by decide)
    refine lv_iconst (v := nI 0) hx hb d_M_block_24 (by decide) ?_
    exact W.iret hx hb hr (fun t ht hW => ⟨⟨_, (mu_err z 1), rfl, Or.inl ⟨by rw [nI_toInt hx31]; omega, rfl⟩, by rw [ht]; exact hP, va_K.moved hW.alike hK, hD⟩, hS.F ht⟩) hS.2.2 d_M_block_25
  rw [nI_ltI (by omega) (by omega)] at h
  refine lv_iconst (v := nI 0) hx hb d_M_block_16 (by decide) ?_
  refine zh_t (show nI 0 = zb false from rfl) ?_
  refine lv_iconst (v := nI 1) hx hb d_M_block_17 (by decide) ?_
  refine zci (zrV (n := 2) (As := [.int (zb false), .int (nI 1)]) (rest := []) ⟨hx, hb, hml, hown, hk⟩ (c_M_fails_ok l D t0 g z s.heap.size false 1) zk499 zk501 ks_M_fails zk5 kc_M_fails ⟨rfl, by decide, by decide, by decide⟩ rfl rfl ⟨Nat.le_of_ble_eq_true rfl, Nat.le_of_ble_eq_true rfl⟩ ⟨hP, hK, hD, hS, hA, hE⟩ (va_recv hK hP (ci := 2) (q0 := 0) rfl rfl) rfl hl.1 rfl (Nat.le_of_ble_eq_true rfl) d_M_block_18 ⟨Nat.le_of_ble_eq_true rfl, Nat.le_of_ble_eq_true rfl⟩) ⟨hP, hK, hD, hS, hA, hE⟩ (fun r u H locs hu hP hK hD hS => ?_)
  obtain ⟨rfl, rfl⟩ := hu
  have hP : va_P D zcl (mW g (mmk 0 (m_oct z) (m_pl z) (m_sz z) (m_sta z) (m_sin z) (m_rea z) (m_fnd z) (m_many z) (m_made z) (m_backs z) (m_lm z))) H := hP
  have hD : va_D A (mW g (mmk 0 (m_oct z) (m_pl z) (m_sz z) (m_sta z) (m_sin z) (m_rea z) (m_fnd z) (m_many z) (m_made z) (m_backs z) (m_lm z))) := hD
  have hK : va_K D zcl (mT g) s := hK
  refine lv_if_eq (tgt := 26) hx hb d_M_block_21 (by decide) (fun h9 => ?_) (fun h9 => ?_)
  rotate_left 1
  · rw [zh_zb] at h9
    exact absurd rfl h9
  refine lv_aload_n hx hb d_M_block_26 rfl (lv_at hl 0 rfl) ?_
  refine lv_iload_n hx hb d_M_block_27 rfl (lv_at hl 1 rfl) ?_
  refine lv_iconst (v := nI 1) hx hb d_M_block_28 (by decide) ?_
  refine vp_callSi (zrV (n := 2) (As := [.int (nI x), .int (nI 1)]) (rest := []) ⟨hx, hb, hml, hown, hk⟩ (c_M_of_ok l D t0 g (mmk 0 (m_oct z) (m_pl z) (m_sz z) (m_sta z) (m_sin z) (m_rea z) (m_fnd z) (m_many z) (m_made z) (m_backs z) (m_lm z)) H.size (nI x) 1 (by decide) hz) zk538 zk540 ks_M_of zk5 kc_M_of ⟨rfl, by decide, by decide, by decide⟩ rfl rfl ⟨Nat.le_of_ble_eq_true rfl, Nat.le_of_ble_eq_true rfl⟩ ⟨hP, hK, hD, hS, hA, hE⟩ (va_recv hK hP (ci := 2) (q0 := 0) rfl rfl) rfl hl.1 rfl (Nat.le_of_ble_eq_true rfl) d_M_block_29 ⟨Nat.le_of_ble_eq_true rfl, Nat.le_of_ble_eq_true rfl⟩).run (fun r hr1 => ?_)
  have hr1 : zfst (mof z (nI x) 1) (m_many z) r := hr1
  rcases hr1 with ⟨rfl, hno⟩ | ⟨k, hk5, rfl, hl1, hfirst⟩
  · refine lv_istore_n (lv' := [(2, .int ((-1))), (0, .ref (n_h g)), (1, .int (nI x))]) hx hb d_M_block_32 rfl hl (by decide) rfl (fun ls hl => ?_)
    refine lv_iload_n hx hb d_M_block_33 rfl (lv_at hl 0 rfl) ?_
    refine lv_if_ge (tgt := 41) hx hb d_M_block_34 (by decide) (fun h9 => ?_) (fun h9 => ?_)
    · exact absurd h9 (by decide)
    refine lv_iconst (v := ((-1))) hx hb d_M_block_37 (by decide) ?_
    refine lv_goto (tgt := 47) hx hb d_M_block_38 (by decide) ?_
    exact W.iret hx hb hr (fun t ht hW => ⟨⟨_, (mu_err z 0), rfl, Or.inr ⟨by rw [nI_toInt hx31]; omega, rfl, Or.inl ⟨rfl, hno⟩⟩, by rw [ht]; exact hP, va_K.moved hW.alike hK, hD⟩, hS.F ht⟩) hS.2.2 d_M_block_47
  refine lv_istore_n (lv' := [(2, .int (nI k)), (0, .ref (n_h g)), (1, .int (nI x))]) hx hb d_M_block_32 rfl hl (by decide) rfl (fun ls hl => ?_)
  refine lv_iload_n hx hb d_M_block_33 rfl (lv_at hl 0 rfl) ?_
  refine lv_if_ge (tgt := 41) hx hb d_M_block_34 (by decide) (fun h9 => ?_) (fun h9 => ?_)
  rotate_left 1
  · rw [show (0 : Int32) = nI 0 from rfl, nI_leI (by omega) (by omega)] at h9
    exact absurd h9 (by omega)
  rw [show (0 : Int32) = nI 0 from rfl, nI_leI (by omega) (by omega)] at h9
  have hat := hz.at hk5
  refine lv_aload_n hx hb d_M_block_41 rfl (lv_at hl 1 rfl) ?_
  refine va_get (D := D) (ci := 2) (v := .ref (n_aP g)) (C := RM) (T := TM) (N := 12) hx hb hk inM hown hK hP 0 rfl rfl 2 (by decide) (hk _ zk455) (fun _ h9 => h9) rfl d_M_block_42 ?_
  refine lv_iload_n hx hb d_M_block_45 rfl (lv_at hl 0 rfl) ?_
  refine va_iald hx hb hK hP 2 1 rfl rfl (vp_in_nI (by omega) (by decide)) d_M_block_46 ?_
  refine zh_t (show nI (m_pl z (nI k).toNatClampNeg) = nI (m_pl z k) from by rw [nI_clamp (by omega)]) ?_
  exact W.iret hx hb hr (fun t ht hW => ⟨⟨_, (mu_err z 0), rfl, Or.inr ⟨by rw [nI_toInt hx31]; omega, rfl, Or.inr ⟨k, hk5, hl1, rfl⟩⟩, by rw [ht]; exact hP, va_K.moved hW.alike hK, hD⟩, hS.F ht⟩) hS.2.2 d_M_block_47
set_option maxHeartbeats 1000000 in
set_option maxRecDepth 100000 in
theorem c_M_kind_ok (l : Launch) (D : va_G) (t0 : Nat) (g : MG) (z : MT) (sz : Nat) (v : Int32) (hz : mOK z) : Met l y_M_kind w_M_kind ({ frames := 1, cells := 0, slots := 0, locals := 40 }) (zPre D t0 (mT g) (mW g z) sz [.ref (n_h g), .int v]) (va_Qi (fun r u => (¬ (0 ≤ v.toInt ∧ v.toInt < 8192) ∧ u = mu_err z 1) ∨ ((0 ≤ v.toInt ∧ v.toInt < 8192) ∧ u = mu_err z 0 ∧ ∃ y : Nat, mkind z v y ∧ r = nI y)) (fun (u : MT) t => zPost D (mT g) (va_A (mW g z) sz) (mW g u) t) (va_A (mW g z) sz)) 0 0 (va_A (mW g z) sz) := by
  refine Met.ofW (cc := c_M_kind) (maxL := 3) (ret := (some .int)) (by decide) rfl ?_
  intro p e s m args below meth c s₁ B hml hv
  obtain ⟨rfl, hsz, hP, hK, hD0, hE⟩ := hv
  have hx := B.exec
  have hb := B.bytes
  have hr := B.returns
  have hts := atoms_spec (ws := w_M_kind) B.pre
  have hk : ∀ w ∈ zB, w.before _ s = true := fun w h => hts w (List.mem_cons_of_mem _ h)
  have hown : s.vm.findClass "ZoneHeapModel" = some m.cls := findClass_of_methodNamed B.named
  have hlocks := B.notSynchronized
  subst hsz
  have hD := hD0.self (sz := s.heap.size)
  generalize hAe : va_A (mW g z) s.heap.size = A at hD hE ⊢
  have hA : ∀ q : Nat, s.heap.size ≤ q → A q := fun q h => by rw [← hAe]; exact Or.inr h
  have hS : va_S A s.heap s.heap [] := va_S.rf
  have hl := lv_entry ([.ref (n_h g), .int v]) (n := 3) (Nat.le_of_ble_eq_true rfl)
  rw [lg_entry_eq]
  generalize (lg_sl ([.ref (n_h g), .int v]) ++ List.replicate (3 - (lg_sl ([.ref (n_h g), .int v])).length) Slot.unset).toArray = ls at hl ⊢
  have hl : lv_has ls 3 [(0, .ref (n_h g)), (1, .int v)] := hl
  have hm := hz.many
  refine lv_aload_n hx hb d_M_kind_0 rfl (lv_at hl 0 rfl) ?_
  refine lv_iload_n hx hb d_M_kind_1 rfl (lv_at hl 1 rfl) ?_
  refine lv_if_lt (tgt := 12) hx hb d_M_kind_2 (by decide) (fun h => ?_) (fun h => ?_)
  · refine lv_iconst (v := nI 1) hx hb d_M_kind_12 (by decide) ?_
    refine zh_t (show nI 1 = zb true from rfl) ?_
    refine lv_goto (tgt := 17) hx hb d_M_kind_13 (by decide) ?_
    refine lv_iconst (v := nI 1) hx hb d_M_kind_17 (by decide) ?_
    refine zci (zrV (n := 2) (As := [.int (zb true), .int (nI 1)]) (rest := []) ⟨hx, hb, hml, hown, hk⟩ (c_M_fails_ok l D t0 g z s.heap.size true 1) zk499 zk501 ks_M_fails zk5 kc_M_fails ⟨rfl, by decide, by decide, by decide⟩ rfl rfl ⟨Nat.le_of_ble_eq_true rfl, Nat.le_of_ble_eq_true rfl⟩ ⟨hP, hK, hD, hS, hA, hE⟩ (va_recv hK hP (ci := 2) (q0 := 0) rfl rfl) rfl hl.1 rfl (Nat.le_of_ble_eq_true rfl) d_M_kind_18 ⟨Nat.le_of_ble_eq_true rfl, Nat.le_of_ble_eq_true rfl⟩) ⟨hP, hK, hD, hS, hA, hE⟩ (fun r u H locs hu hP hK hD hS => ?_)
    obtain ⟨rfl, rfl⟩ := hu
    have hP : va_P D zcl (mW g (mmk 1 (m_oct z) (m_pl z) (m_sz z) (m_sta z) (m_sin z) (m_rea z) (m_fnd z) (m_many z) (m_made z) (m_backs z) (m_lm z))) H := hP
    have hD : va_D A (mW g (mmk 1 (m_oct z) (m_pl z) (m_sz z) (m_sta z) (m_sin z) (m_rea z) (m_fnd z) (m_many z) (m_made z) (m_backs z) (m_lm z))) := hD
    have hK : va_K D zcl (mT g) s := hK
    refine lv_if_eq (tgt := 26) hx hb d_M_kind_21 (by decide) (fun h9 => ?_) (fun h9 => ?_)
    · rw [zh_zb] at h9
      exact absurd h9 (by decide)
    refine lv_iconst (v := nI 0) hx hb d_M_kind_24 (by decide) ?_
    exact W.iret hx hb hr (fun t ht hW => ⟨⟨_, (mu_err z 1), rfl, Or.inl ⟨by have := zi_lt0 h; omega, rfl⟩, by rw [ht]; exact hP, va_K.moved hW.alike hK, hD⟩, hS.F ht⟩) hS.2.2 d_M_kind_25
  obtain ⟨x, hx31, rfl⟩ := nI_of h
  refine lv_iload_n hx hb d_M_kind_5 rfl (lv_at hl 1 rfl) ?_
  refine lv_sipush (v := nI 8192) hx hb d_M_kind_6 (by decide) ?_
  refine lv_icmp_lt (tgt := 16) hx hb d_M_kind_9 (by decide) (fun h => ?_) (fun h => ?_)
  rotate_left 1
  · rw [nI_ltI (by omega) (by omega)] at h
    refine lv_iconst (v := nI 1) hx hb d_M_kind_12 (by decide) ?_
    refine zh_t (show nI 1 = zb true from rfl) ?_
    refine lv_goto (tgt := 17) hx hb d_M_kind_13 (by decide) ?_
    refine lv_iconst (v := nI 1) hx hb d_M_kind_17 (by decide) ?_
    refine zci (zrV (n := 2) (As := [.int (zb true), .int (nI 1)]) (rest := []) ⟨hx, hb, hml, hown, hk⟩ (c_M_fails_ok l D t0 g z s.heap.size true 1) zk499 zk501 ks_M_fails zk5 kc_M_fails ⟨rfl, by decide, by decide, by decide⟩ rfl rfl ⟨Nat.le_of_ble_eq_true rfl, Nat.le_of_ble_eq_true rfl⟩ ⟨hP, hK, hD, hS, hA, hE⟩ (va_recv hK hP (ci := 2) (q0 := 0) rfl rfl) rfl hl.1 rfl (Nat.le_of_ble_eq_true rfl) d_M_kind_18 ⟨Nat.le_of_ble_eq_true rfl, Nat.le_of_ble_eq_true rfl⟩) ⟨hP, hK, hD, hS, hA, hE⟩ (fun r u H locs hu hP hK hD hS => ?_)
    obtain ⟨rfl, rfl⟩ := hu
    have hP : va_P D zcl (mW g (mmk 1 (m_oct z) (m_pl z) (m_sz z) (m_sta z) (m_sin z) (m_rea z) (m_fnd z) (m_many z) (m_made z) (m_backs z) (m_lm z))) H := hP
    have hD : va_D A (mW g (mmk 1 (m_oct z) (m_pl z) (m_sz z) (m_sta z) (m_sin z) (m_rea z) (m_fnd z) (m_many z) (m_made z) (m_backs z) (m_lm z))) := hD
    have hK : va_K D zcl (mT g) s := hK
    refine lv_if_eq (tgt := 26) hx hb d_M_kind_21 (by decide) (fun h9 => ?_) (fun h9 => ?_)
    · rw [zh_zb] at h9
      exact absurd h9 (by decide)
    refine lv_iconst (v := nI 0) hx hb d_M_kind_24 (by decide) ?_
    exact W.iret hx hb hr (fun t ht hW => ⟨⟨_, (mu_err z 1), rfl, Or.inl ⟨by rw [nI_toInt hx31]; omega, rfl⟩, by rw [ht]; exact hP, va_K.moved hW.alike hK, hD⟩, hS.F ht⟩) hS.2.2 d_M_kind_25
  rw [nI_ltI (by omega) (by omega)] at h
  refine lv_iconst (v := nI 0) hx hb d_M_kind_16 (by decide) ?_
  refine zh_t (show nI 0 = zb false from rfl) ?_
  refine lv_iconst (v := nI 1) hx hb d_M_kind_17 (by decide) ?_
  refine zci (zrV (n := 2) (As := [.int (zb false), .int (nI 1)]) (rest := []) ⟨hx, hb, hml, hown, hk⟩ (c_M_fails_ok l D t0 g z s.heap.size false 1) zk499 zk501 ks_M_fails zk5 kc_M_fails ⟨rfl, by decide, by decide, by decide⟩ rfl rfl ⟨Nat.le_of_ble_eq_true rfl, Nat.le_of_ble_eq_true rfl⟩ ⟨hP, hK, hD, hS, hA, hE⟩ (va_recv hK hP (ci := 2) (q0 := 0) rfl rfl) rfl hl.1 rfl (Nat.le_of_ble_eq_true rfl) d_M_kind_18 ⟨Nat.le_of_ble_eq_true rfl, Nat.le_of_ble_eq_true rfl⟩) ⟨hP, hK, hD, hS, hA, hE⟩ (fun r u H locs hu hP hK hD hS => ?_)
  obtain ⟨rfl, rfl⟩ := hu
  have hP : va_P D zcl (mW g (mmk 0 (m_oct z) (m_pl z) (m_sz z) (m_sta z) (m_sin z) (m_rea z) (m_fnd z) (m_many z) (m_made z) (m_backs z) (m_lm z))) H := hP
  have hD : va_D A (mW g (mmk 0 (m_oct z) (m_pl z) (m_sz z) (m_sta z) (m_sin z) (m_rea z) (m_fnd z) (m_many z) (m_made z) (m_backs z) (m_lm z))) := hD
  have hK : va_K D zcl (mT g) s := hK
  refine lv_if_eq (tgt := 26) hx hb d_M_kind_21 (by decide) (fun h9 => ?_) (fun h9 => ?_)
  rotate_left 1
  · rw [zh_zb] at h9
    exact absurd rfl h9
  refine lv_aload_n hx hb d_M_kind_26 rfl (lv_at hl 0 rfl) ?_
  refine lv_iload_n hx hb d_M_kind_27 rfl (lv_at hl 1 rfl) ?_
  refine lv_iconst (v := nI 1) hx hb d_M_kind_28 (by decide) ?_
  refine vp_callSi (zrV (n := 2) (As := [.int (nI x), .int (nI 1)]) (rest := []) ⟨hx, hb, hml, hown, hk⟩ (c_M_of_ok l D t0 g (mmk 0 (m_oct z) (m_pl z) (m_sz z) (m_sta z) (m_sin z) (m_rea z) (m_fnd z) (m_many z) (m_made z) (m_backs z) (m_lm z)) H.size (nI x) 1 (by decide) hz) zk538 zk540 ks_M_of zk5 kc_M_of ⟨rfl, by decide, by decide, by decide⟩ rfl rfl ⟨Nat.le_of_ble_eq_true rfl, Nat.le_of_ble_eq_true rfl⟩ ⟨hP, hK, hD, hS, hA, hE⟩ (va_recv hK hP (ci := 2) (q0 := 0) rfl rfl) rfl hl.1 rfl (Nat.le_of_ble_eq_true rfl) d_M_kind_29 ⟨Nat.le_of_ble_eq_true rfl, Nat.le_of_ble_eq_true rfl⟩).run (fun r hr1 => ?_)
  have hr1 : zfst (mof z (nI x) 1) (m_many z) r := hr1
  rcases hr1 with ⟨rfl, hno1⟩ | ⟨k, hk5, rfl, hl1, hfirst⟩
  rotate_left 1
  · refine lv_if_lt (tgt := 37) hx hb d_M_kind_32 (by decide) (fun h9 => ?_) (fun h9 => ?_)
    · rw [show (0 : Int32) = nI 0 from rfl, nI_ltI (by omega) (by omega)] at h9
      exact absurd h9 (by omega)
    rw [show (0 : Int32) = nI 0 from rfl, nI_ltI (by omega) (by omega)] at h9
    refine lv_iconst (v := nI 1) hx hb d_M_kind_35 (by decide) ?_
    exact W.iret hx hb hr (fun t ht hW => ⟨⟨_, (mu_err z 0), rfl, Or.inr ⟨by rw [nI_toInt hx31]; omega, rfl, 1, Or.inl ⟨rfl, k, hk5, hl1⟩, rfl⟩, by rw [ht]; exact hP, va_K.moved hW.alike hK, hD⟩, hS.F ht⟩) hS.2.2 d_M_kind_36
  refine lv_if_lt (tgt := 37) hx hb d_M_kind_32 (by decide) (fun h9 => ?_) (fun h9 => ?_)
  rotate_left 1
  · exact absurd (by decide) h9
  refine lv_aload_n hx hb d_M_kind_37 rfl (lv_at hl 0 rfl) ?_
  refine lv_iload_n hx hb d_M_kind_38 rfl (lv_at hl 1 rfl) ?_
  refine lv_iconst (v := nI 2) hx hb d_M_kind_39 (by decide) ?_
  refine vp_callSi (zrV (n := 2) (As := [.int (nI x), .int (nI 2)]) (rest := []) ⟨hx, hb, hml, hown, hk⟩ (c_M_of_ok l D t0 g (mmk 0 (m_oct z) (m_pl z) (m_sz z) (m_sta z) (m_sin z) (m_rea z) (m_fnd z) (m_many z) (m_made z) (m_backs z) (m_lm z)) H.size (nI x) 2 (by decide) hz) zk538 zk540 ks_M_of zk5 kc_M_of ⟨rfl, by decide, by decide, by decide⟩ rfl rfl ⟨Nat.le_of_ble_eq_true rfl, Nat.le_of_ble_eq_true rfl⟩ ⟨hP, hK, hD, hS, hA, hE⟩ (va_recv hK hP (ci := 2) (q0 := 0) rfl rfl) rfl hl.1 rfl (Nat.le_of_ble_eq_true rfl) d_M_kind_40 ⟨Nat.le_of_ble_eq_true rfl, Nat.le_of_ble_eq_true rfl⟩).run (fun r hr1 => ?_)
  have hr1 : zfst (mof z (nI x) 2) (m_many z) r := hr1
  rcases hr1 with ⟨rfl, hno2⟩ | ⟨k, hk5, rfl, hl1, hfirst⟩
  rotate_left 1
  · refine lv_if_lt (tgt := 48) hx hb d_M_kind_43 (by decide) (fun h9 => ?_) (fun h9 => ?_)
    · rw [show (0 : Int32) = nI 0 from rfl, nI_ltI (by omega) (by omega)] at h9
      exact absurd h9 (by omega)
    rw [show (0 : Int32) = nI 0 from rfl, nI_ltI (by omega) (by omega)] at h9
    refine lv_iconst (v := nI 2) hx hb d_M_kind_46 (by decide) ?_
    exact W.iret hx hb hr (fun t ht hW => ⟨⟨_, (mu_err z 0), rfl, Or.inr ⟨by rw [nI_toInt hx31]; omega, rfl, 2, Or.inr ⟨hno1, Or.inl ⟨rfl, k, hk5, hl1⟩⟩, rfl⟩, by rw [ht]; exact hP, va_K.moved hW.alike hK, hD⟩, hS.F ht⟩) hS.2.2 d_M_kind_47
  refine lv_if_lt (tgt := 48) hx hb d_M_kind_43 (by decide) (fun h9 => ?_) (fun h9 => ?_)
  rotate_left 1
  · exact absurd (by decide) h9
  refine lv_iconst (v := nI 0) hx hb d_M_kind_48 (by decide) ?_
  refine lv_istore_n (lv' := [(2, .int (nI 0)), (0, .ref (n_h g)), (1, .int (nI x))]) hx hb d_M_kind_49 rfl hl (by decide) rfl (fun ls hl => ?_)
  refine zh_loop0 (A := Nat) (fun q ls => lv_has ls 3 [(0, .ref (n_h g)), (1, .int (nI x)), (2, .int (nI q))] ∧ (q ≤ m_many z) ∧ (∀ j : Nat, j < q → ¬ mzone z (nI x) j)) (fun q => m_many z - q) ?_ 0 ⟨lv_sub hl [1, 2, 0] rfl, Nat.zero_le _, fun j hj => absurd hj (Nat.not_lt_zero _)⟩
  rintro i ls ⟨hl, hi, hno⟩ ih
  have hl : lv_has ls 3 [(0, .ref (n_h g)), (1, .int (nI x)), (2, .int (nI i))] := hl
  have hi : i ≤ m_many z := hi
  have hno : ∀ j : Nat, j < i → ¬ mzone z (nI x) j := hno
  refine lv_iload_n hx hb d_M_kind_50 rfl (lv_at hl 2 rfl) ?_
  refine lv_aload_n hx hb d_M_kind_51 rfl (lv_at hl 0 rfl) ?_
  refine va_get (D := D) (ci := 2) (v := .int (nI (m_many z))) (C := RM) (T := TM) (N := 12) hx hb hk inM hown hK hP 0 rfl rfl 8 (by decide) (hk _ zk461) (fun _ h9 => h9) rfl d_M_kind_52 ?_
  refine lv_icmp_ge (tgt := 102) hx hb d_M_kind_55 (by decide) (fun h2 => ?_) (fun h2 => ?_)
  · rw [nI_leI (by omega) (by omega)] at h2
    refine lv_iconst (v := nI 0) hx hb d_M_kind_102 (by decide) ?_
    exact W.iret hx hb hr (fun t ht hW => ⟨⟨_, (mu_err z 0), rfl, Or.inr ⟨by rw [nI_toInt hx31]; omega, rfl, 0, Or.inr ⟨hno1, Or.inr ⟨hno2, Or.inr ⟨rfl, fun k hk => hno k (by omega)⟩⟩⟩, rfl⟩, by rw [ht]; exact hP, va_K.moved hW.alike hK, hD⟩, hS.F ht⟩) hS.2.2 d_M_kind_103
  rw [nI_leI (by omega) (by omega)] at h2
  have hat := hz.at (k := i) (by omega)
  refine lv_iload_n hx hb d_M_kind_58 rfl (lv_at hl 1 rfl) ?_
  refine lv_aload_n hx hb d_M_kind_59 rfl (lv_at hl 0 rfl) ?_
  refine va_get (D := D) (ci := 2) (v := .ref (n_aP g)) (C := RM) (T := TM) (N := 12) hx hb hk inM hown hK hP 0 rfl rfl 2 (by decide) (hk _ zk455) (fun _ h9 => h9) rfl d_M_kind_60 ?_
  refine lv_iload_n hx hb d_M_kind_63 rfl (lv_at hl 2 rfl) ?_
  refine va_iald hx hb hK hP 2 1 rfl rfl (vp_in_nI (by omega) (by decide)) d_M_kind_64 ?_
  refine zh_t (show nI (m_pl z (nI i).toNatClampNeg) = nI (m_pl z i) from by rw [nI_clamp (by omega)]) ?_
  refine lv_bipush (v := nI 16) hx hb d_M_kind_65 (by decide) ?_
  refine lv_isub hx hb d_M_kind_67 ?_
  refine zh_t (show (nI (m_pl z i) - nI 16) = nI (m_pl z i - 16) from pk_sub (by omega)) ?_
  refine lv_icmp_lt (tgt := 96) hx hb d_M_kind_68 (by decide) (fun h3 => ?_) (fun h3 => ?_)
  · rw [nI_ltI (by omega) (by omega)] at h3
    refine lv_iinc (lv' := [(2, .int (nI (i + 1))), (0, .ref (n_h g)), (1, .int (nI x))]) (v := nI (i + 1)) hx hb d_M_kind_96 hl (k := 2) rfl (nI_add _ _) (by decide) rfl (fun ls hl => ?_)
    refine lv_goto (tgt := 50) hx hb d_M_kind_99 (by decide) ?_
    exact ih (i + 1) ls ⟨lv_sub hl [1, 2, 0] rfl, by omega, lt_s hno (fun q => by have q1 := q.1; rw [nI_toInt hx31] at q1; omega)⟩ (by show _ < _; (try dsimp only); omega)
  rw [nI_ltI (by omega) (by omega)] at h3
  refine lv_iload_n hx hb d_M_kind_71 rfl (lv_at hl 1 rfl) ?_
  refine lv_aload_n hx hb d_M_kind_72 rfl (lv_at hl 0 rfl) ?_
  refine va_get (D := D) (ci := 2) (v := .ref (n_aP g)) (C := RM) (T := TM) (N := 12) hx hb hk inM hown hK hP 0 rfl rfl 2 (by decide) (hk _ zk455) (fun _ h9 => h9) rfl d_M_kind_73 ?_
  refine lv_iload_n hx hb d_M_kind_76 rfl (lv_at hl 2 rfl) ?_
  refine va_iald hx hb hK hP 2 1 rfl rfl (vp_in_nI (by omega) (by decide)) d_M_kind_77 ?_
  refine zh_t (show nI (m_pl z (nI i).toNatClampNeg) = nI (m_pl z i) from by rw [nI_clamp (by omega)]) ?_
  refine lv_aload_n hx hb d_M_kind_78 rfl (lv_at hl 0 rfl) ?_
  refine va_get (D := D) (ci := 2) (v := .ref (n_aS g)) (C := RM) (T := TM) (N := 12) hx hb hk inM hown hK hP 0 rfl rfl 3 (by decide) (hk _ zk456) (fun _ h9 => h9) rfl d_M_kind_79 ?_
  refine lv_iload_n hx hb d_M_kind_82 rfl (lv_at hl 2 rfl) ?_
  refine va_iald hx hb hK hP 3 2 rfl rfl (vp_in_nI (by omega) (by decide)) d_M_kind_83 ?_
  refine zh_t (show nI (m_sz z (nI i).toNatClampNeg) = nI (m_sz z i) from by rw [nI_clamp (by omega)]) ?_
  refine vp_callSi (zrS (n := 1) (As := [.int (nI (m_sz z i))]) (rest := [.int (nI (m_pl z i)), .int (nI x)]) ⟨hx, hb, hml, hown, hk⟩ (c_M_taken_ok l D t0 (mT g) (mW g (mmk 0 (m_oct z) (m_pl z) (m_sz z) (m_sta z) (m_sin z) (m_rea z) (m_fnd z) (m_many z) (m_made z) (m_backs z) (m_lm z))) H.size (m_sz z i) hat.2.2.1) zk511 zk512 zk5 kc_M_taken ⟨by decide, by decide, by decide⟩ rfl rfl ⟨Nat.le_of_ble_eq_true rfl, Nat.le_of_ble_eq_true rfl⟩ ⟨hP, hK, hD, hS, hA, hE⟩ rfl hl.1 rfl (Nat.le_of_ble_eq_true rfl) d_M_kind_84 ⟨Nat.le_of_ble_eq_true rfl, Nat.le_of_ble_eq_true rfl⟩).run (fun r hr1 => ?_)
  subst hr1
  refine lv_iadd hx hb d_M_kind_87 ?_
  refine zh_t (show (nI (m_pl z i) + nI (16 * zc (m_sz z i))) = nI (m_pl z i + (16 * zc (m_sz z i))) from nI_add _ _) ?_
  refine lv_bipush (v := nI 16) hx hb d_M_kind_88 (by decide) ?_
  refine lv_iadd hx hb d_M_kind_90 ?_
  refine zh_t (show (nI (m_pl z i + (16 * zc (m_sz z i))) + nI 16) = nI ((m_pl z i + (16 * zc (m_sz z i))) + 16) from nI_add _ _) ?_
  refine lv_icmp_ge (tgt := 96) hx hb d_M_kind_91 (by decide) (fun h4 => ?_) (fun h4 => ?_)
  · rw [nI_leI (by omega) (by omega)] at h4
    refine lv_iinc (lv' := [(2, .int (nI (i + 1))), (0, .ref (n_h g)), (1, .int (nI x))]) (v := nI (i + 1)) hx hb d_M_kind_96 hl (k := 2) rfl (nI_add _ _) (by decide) rfl (fun ls hl => ?_)
    refine lv_goto (tgt := 50) hx hb d_M_kind_99 (by decide) ?_
    exact ih (i + 1) ls ⟨lv_sub hl [1, 2, 0] rfl, by omega, lt_s hno (fun q => by have q1 := q.2; rw [nI_toInt hx31] at q1; omega)⟩ (by show _ < _; (try dsimp only); omega)
  rw [nI_leI (by omega) (by omega)] at h4
  refine lv_iconst (v := nI 3) hx hb d_M_kind_94 (by decide) ?_
  exact W.iret hx hb hr (fun t ht hW => ⟨⟨_, (mu_err z 0), rfl, Or.inr ⟨by rw [nI_toInt hx31]; omega, rfl, 3, Or.inr ⟨hno1, Or.inr ⟨hno2, Or.inl ⟨rfl, i, by omega, by constructor <;> (rw [nI_toInt hx31]; omega)⟩⟩⟩, rfl⟩, by rw [ht]; exact hP, va_K.moved hW.alike hK, hD⟩, hS.F ht⟩) hS.2.2 d_M_kind_95
set_option maxHeartbeats 1000000 in
set_option maxRecDepth 100000 in
theorem c_M_bad_ok (l : Launch) (D : va_G) (t0 : Nat) (g : MG) (z : MT) (sz : Nat) (v : Int32) (hz : mOK z) : Met l y_M_bad w_M_bad ({ frames := 1, cells := 0, slots := 0, locals := 40 }) (zPre D t0 (mT g) (mW g z) sz [.ref (n_h g), .int v]) (va_Qi (fun r u => ∃ y : Nat, mbad z v y ∧ r = zb (decide (y ≠ 0)) ∧ u = mu_err z y) (fun (u : MT) t => zPost D (mT g) (va_A (mW g z) sz) (mW g u) t) (va_A (mW g z) sz)) 0 0 (va_A (mW g z) sz) := by
  refine Met.ofW (cc := c_M_bad) (maxL := 3) (ret := (some .boolean)) (by decide) rfl ?_
  intro p e s m args below meth c s₁ B hml hv
  obtain ⟨rfl, hsz, hP, hK, hD0, hE⟩ := hv
  have hx := B.exec
  have hb := B.bytes
  have hr := B.returns
  have hts := atoms_spec (ws := w_M_bad) B.pre
  have hk : ∀ w ∈ zB, w.before _ s = true := fun w h => hts w (List.mem_cons_of_mem _ h)
  have hown : s.vm.findClass "ZoneHeapModel" = some m.cls := findClass_of_methodNamed B.named
  have hlocks := B.notSynchronized
  subst hsz
  have hD := hD0.self (sz := s.heap.size)
  generalize hAe : va_A (mW g z) s.heap.size = A at hD hE ⊢
  have hA : ∀ q : Nat, s.heap.size ≤ q → A q := fun q h => by rw [← hAe]; exact Or.inr h
  have hS : va_S A s.heap s.heap [] := va_S.rf
  have hl := lv_entry ([.ref (n_h g), .int v]) (n := 3) (Nat.le_of_ble_eq_true rfl)
  rw [lg_entry_eq]
  generalize (lg_sl ([.ref (n_h g), .int v]) ++ List.replicate (3 - (lg_sl ([.ref (n_h g), .int v])).length) Slot.unset).toArray = ls at hl ⊢
  have hl : lv_has ls 3 [(0, .ref (n_h g)), (1, .int v)] := hl
  have hm := hz.many
  refine lv_aload_n hx hb d_M_bad_0 rfl (lv_at hl 0 rfl) ?_
  refine lv_iload_n hx hb d_M_bad_1 rfl (lv_at hl 1 rfl) ?_
  refine lv_if_lt (tgt := 12) hx hb d_M_bad_2 (by decide) (fun h => ?_) (fun h => ?_)
  · refine lv_iconst (v := nI 1) hx hb d_M_bad_12 (by decide) ?_
    refine zh_t (show nI 1 = zb true from rfl) ?_
    refine lv_goto (tgt := 17) hx hb d_M_bad_13 (by decide) ?_
    refine lv_iconst (v := nI 1) hx hb d_M_bad_17 (by decide) ?_
    refine zci (zrV (n := 2) (As := [.int (zb true), .int (nI 1)]) (rest := []) ⟨hx, hb, hml, hown, hk⟩ (c_M_fails_ok l D t0 g z s.heap.size true 1) zk499 zk501 ks_M_fails zk5 kc_M_fails ⟨rfl, by decide, by decide, by decide⟩ rfl rfl ⟨Nat.le_of_ble_eq_true rfl, Nat.le_of_ble_eq_true rfl⟩ ⟨hP, hK, hD, hS, hA, hE⟩ (va_recv hK hP (ci := 2) (q0 := 0) rfl rfl) rfl hl.1 rfl (Nat.le_of_ble_eq_true rfl) d_M_bad_18 ⟨Nat.le_of_ble_eq_true rfl, Nat.le_of_ble_eq_true rfl⟩) ⟨hP, hK, hD, hS, hA, hE⟩ (fun r u H locs hu hP hK hD hS => ?_)
    obtain ⟨rfl, rfl⟩ := hu
    have hP : va_P D zcl (mW g (mmk 1 (m_oct z) (m_pl z) (m_sz z) (m_sta z) (m_sin z) (m_rea z) (m_fnd z) (m_many z) (m_made z) (m_backs z) (m_lm z))) H := hP
    have hD : va_D A (mW g (mmk 1 (m_oct z) (m_pl z) (m_sz z) (m_sta z) (m_sin z) (m_rea z) (m_fnd z) (m_many z) (m_made z) (m_backs z) (m_lm z))) := hD
    have hK : va_K D zcl (mT g) s := hK
    refine lv_if_eq (tgt := 26) hx hb d_M_bad_21 (by decide) (fun h9 => ?_) (fun h9 => ?_)
    · rw [zh_zb] at h9
      exact absurd h9 (by decide)
    refine lv_iconst (v := nI 1) hx hb d_M_bad_24 (by decide) ?_
    refine zh_t (show nI 1 = zb true from rfl) ?_
    exact W.zret hx hb hr (zh_nar _) (fun t ht hW => ⟨⟨_, (mu_err z 1), rfl, ⟨1, Or.inl ⟨by have := zi_lt0 h; omega, rfl⟩, rfl, rfl⟩, by rw [ht]; exact hP, va_K.moved hW.alike hK, hD⟩, hS.F ht⟩) hS.2.2 d_M_bad_25
  obtain ⟨x, hx31, rfl⟩ := nI_of h
  refine lv_iload_n hx hb d_M_bad_5 rfl (lv_at hl 1 rfl) ?_
  refine lv_sipush (v := nI 8188) hx hb d_M_bad_6 (by decide) ?_
  refine lv_icmp_le (tgt := 16) hx hb d_M_bad_9 (by decide) (fun h => ?_) (fun h => ?_)
  rotate_left 1
  · rw [nI_leI (by omega) (by omega)] at h
    refine lv_iconst (v := nI 1) hx hb d_M_bad_12 (by decide) ?_
    refine zh_t (show nI 1 = zb true from rfl) ?_
    refine lv_goto (tgt := 17) hx hb d_M_bad_13 (by decide) ?_
    refine lv_iconst (v := nI 1) hx hb d_M_bad_17 (by decide) ?_
    refine zci (zrV (n := 2) (As := [.int (zb true), .int (nI 1)]) (rest := []) ⟨hx, hb, hml, hown, hk⟩ (c_M_fails_ok l D t0 g z s.heap.size true 1) zk499 zk501 ks_M_fails zk5 kc_M_fails ⟨rfl, by decide, by decide, by decide⟩ rfl rfl ⟨Nat.le_of_ble_eq_true rfl, Nat.le_of_ble_eq_true rfl⟩ ⟨hP, hK, hD, hS, hA, hE⟩ (va_recv hK hP (ci := 2) (q0 := 0) rfl rfl) rfl hl.1 rfl (Nat.le_of_ble_eq_true rfl) d_M_bad_18 ⟨Nat.le_of_ble_eq_true rfl, Nat.le_of_ble_eq_true rfl⟩) ⟨hP, hK, hD, hS, hA, hE⟩ (fun r u H locs hu hP hK hD hS => ?_)
    obtain ⟨rfl, rfl⟩ := hu
    have hP : va_P D zcl (mW g (mmk 1 (m_oct z) (m_pl z) (m_sz z) (m_sta z) (m_sin z) (m_rea z) (m_fnd z) (m_many z) (m_made z) (m_backs z) (m_lm z))) H := hP
    have hD : va_D A (mW g (mmk 1 (m_oct z) (m_pl z) (m_sz z) (m_sta z) (m_sin z) (m_rea z) (m_fnd z) (m_many z) (m_made z) (m_backs z) (m_lm z))) := hD
    have hK : va_K D zcl (mT g) s := hK
    refine lv_if_eq (tgt := 26) hx hb d_M_bad_21 (by decide) (fun h9 => ?_) (fun h9 => ?_)
    · rw [zh_zb] at h9
      exact absurd h9 (by decide)
    refine lv_iconst (v := nI 1) hx hb d_M_bad_24 (by decide) ?_
    refine zh_t (show nI 1 = zb true from rfl) ?_
    exact W.zret hx hb hr (zh_nar _) (fun t ht hW => ⟨⟨_, (mu_err z 1), rfl, ⟨1, Or.inl ⟨by rw [nI_toInt hx31]; omega, rfl⟩, rfl, rfl⟩, by rw [ht]; exact hP, va_K.moved hW.alike hK, hD⟩, hS.F ht⟩) hS.2.2 d_M_bad_25
  rw [nI_leI (by omega) (by omega)] at h
  refine lv_iconst (v := nI 0) hx hb d_M_bad_16 (by decide) ?_
  refine zh_t (show nI 0 = zb false from rfl) ?_
  refine lv_iconst (v := nI 1) hx hb d_M_bad_17 (by decide) ?_
  refine zci (zrV (n := 2) (As := [.int (zb false), .int (nI 1)]) (rest := []) ⟨hx, hb, hml, hown, hk⟩ (c_M_fails_ok l D t0 g z s.heap.size false 1) zk499 zk501 ks_M_fails zk5 kc_M_fails ⟨rfl, by decide, by decide, by decide⟩ rfl rfl ⟨Nat.le_of_ble_eq_true rfl, Nat.le_of_ble_eq_true rfl⟩ ⟨hP, hK, hD, hS, hA, hE⟩ (va_recv hK hP (ci := 2) (q0 := 0) rfl rfl) rfl hl.1 rfl (Nat.le_of_ble_eq_true rfl) d_M_bad_18 ⟨Nat.le_of_ble_eq_true rfl, Nat.le_of_ble_eq_true rfl⟩) ⟨hP, hK, hD, hS, hA, hE⟩ (fun r u H locs hu hP hK hD hS => ?_)
  obtain ⟨rfl, rfl⟩ := hu
  have hP : va_P D zcl (mW g (mmk 0 (m_oct z) (m_pl z) (m_sz z) (m_sta z) (m_sin z) (m_rea z) (m_fnd z) (m_many z) (m_made z) (m_backs z) (m_lm z))) H := hP
  have hD : va_D A (mW g (mmk 0 (m_oct z) (m_pl z) (m_sz z) (m_sta z) (m_sin z) (m_rea z) (m_fnd z) (m_many z) (m_made z) (m_backs z) (m_lm z))) := hD
  have hK : va_K D zcl (mT g) s := hK
  refine lv_if_eq (tgt := 26) hx hb d_M_bad_21 (by decide) (fun h9 => ?_) (fun h9 => ?_)
  rotate_left 1
  · rw [zh_zb] at h9
    exact absurd rfl h9
  have hvn : (nI x).toInt.toNat = x := by rw [nI_toInt hx31]; rfl
  have hin : 0 ≤ (nI x).toInt ∧ (nI x).toInt ≤ 8188 := by rw [nI_toInt hx31]; omega
  refine lv_iconst (v := nI 0) hx hb d_M_bad_26 (by decide) ?_
  refine lv_istore_n (lv' := [(2, .int (nI 0)), (0, .ref (n_h g)), (1, .int (nI x))]) hx hb d_M_bad_27 rfl hl (by decide) rfl (fun ls hl => ?_)
  refine lv_iload_n hx hb d_M_bad_28 rfl (lv_at hl 0 rfl) ?_
  refine lv_iconst (v := nI 4) hx hb d_M_bad_29 (by decide) ?_
  refine lv_icmp_ge (tgt := 65) hx hb d_M_bad_30 (by decide) (fun h9 => ?_) (fun h9 => ?_)
  · rw [nI_leI (by omega) (by omega)] at h9
    exact absurd h9 (by omega)
  rw [nI_leI (by omega) (by omega)] at h9
  refine lv_aload_n hx hb d_M_bad_33 rfl (lv_at hl 1 rfl) ?_
  refine lv_aload_n hx hb d_M_bad_34 rfl (lv_at hl 1 rfl) ?_
  refine lv_iload_n hx hb d_M_bad_35 rfl (lv_at hl 2 rfl) ?_
  refine lv_iload_n hx hb d_M_bad_36 rfl (lv_at hl 0 rfl) ?_
  refine lv_iadd hx hb d_M_bad_37 ?_
  refine zh_t (show (nI x + nI 0) = nI (x + 0) from nI_add _ _) ?_
  refine lv_iconst (v := nI 1) hx hb d_M_bad_38 (by decide) ?_
  refine vp_callSi (zrV (n := 2) (As := [.int (nI (x + 0)), .int (nI 1)]) (rest := [.ref (n_h g)]) ⟨hx, hb, hml, hown, hk⟩ (c_M_of_ok l D t0 g (mmk 0 (m_oct z) (m_pl z) (m_sz z) (m_sta z) (m_sin z) (m_rea z) (m_fnd z) (m_many z) (m_made z) (m_backs z) (m_lm z)) H.size (nI (x + 0)) 1 (by decide) hz) zk538 zk540 ks_M_of zk5 kc_M_of ⟨rfl, by decide, by decide, by decide⟩ rfl rfl ⟨Nat.le_of_ble_eq_true rfl, Nat.le_of_ble_eq_true rfl⟩ ⟨hP, hK, hD, hS, hA, hE⟩ (va_recv hK hP (ci := 2) (q0 := 0) rfl rfl) rfl hl.1 rfl (Nat.le_of_ble_eq_true rfl) d_M_bad_39 ⟨Nat.le_of_ble_eq_true rfl, Nat.le_of_ble_eq_true rfl⟩).run (fun r hr1 => ?_)
  have hr1 : zfst (mof z (nI (x + 0)) 1) (m_many z) r := hr1
  rcases hr1 with ⟨rfl, hno⟩ | ⟨k0, hk0, rfl, hl0, hfirst⟩
  · refine lv_if_ge (tgt := 49) hx hb d_M_bad_42 (by decide) (fun h9 => ?_) (fun h9 => ?_)
    · exact absurd h9 (by decide)
    refine lv_iconst (v := nI 1) hx hb d_M_bad_45 (by decide) ?_
    refine zh_t (show nI 1 = zb true from rfl) ?_
    refine lv_goto (tgt := 50) hx hb d_M_bad_46 (by decide) ?_
    refine lv_iconst (v := nI 2) hx hb d_M_bad_50 (by decide) ?_
    refine zci (zrV (n := 2) (As := [.int (zb true), .int (nI 2)]) (rest := []) ⟨hx, hb, hml, hown, hk⟩ (c_M_fails_ok l D t0 g (mmk 0 (m_oct z) (m_pl z) (m_sz z) (m_sta z) (m_sin z) (m_rea z) (m_fnd z) (m_many z) (m_made z) (m_backs z) (m_lm z)) H.size true 2) zk499 zk501 ks_M_fails zk5 kc_M_fails ⟨rfl, by decide, by decide, by decide⟩ rfl rfl ⟨Nat.le_of_ble_eq_true rfl, Nat.le_of_ble_eq_true rfl⟩ ⟨hP, hK, hD, hS, hA, hE⟩ (va_recv hK hP (ci := 2) (q0 := 0) rfl rfl) rfl hl.1 rfl (Nat.le_of_ble_eq_true rfl) d_M_bad_51 ⟨Nat.le_of_ble_eq_true rfl, Nat.le_of_ble_eq_true rfl⟩) ⟨hP, hK, hD, hS, hA, hE⟩ (fun r u H locs hu hP hK hD hS => ?_)
    obtain ⟨rfl, rfl⟩ := hu
    have hP : va_P D zcl (mW g (mmk 2 (m_oct z) (m_pl z) (m_sz z) (m_sta z) (m_sin z) (m_rea z) (m_fnd z) (m_many z) (m_made z) (m_backs z) (m_lm z))) H := hP
    have hD : va_D A (mW g (mmk 2 (m_oct z) (m_pl z) (m_sz z) (m_sta z) (m_sin z) (m_rea z) (m_fnd z) (m_many z) (m_made z) (m_backs z) (m_lm z))) := hD
    have hK : va_K D zcl (mT g) s := hK
    refine lv_if_eq (tgt := 59) hx hb d_M_bad_54 (by decide) (fun h9 => ?_) (fun h9 => ?_)
    · rw [zh_zb] at h9
      exact absurd h9 (by decide)
    refine lv_iconst (v := nI 1) hx hb d_M_bad_57 (by decide) ?_
    refine zh_t (show nI 1 = zb true from rfl) ?_
    exact W.zret hx hb hr (zh_nar _) (fun t ht hW => ⟨⟨_, (mu_err z 2), rfl, ⟨2, Or.inr ⟨hin, Or.inl ⟨rfl, 0, by decide, by rw [hvn]; exact hno⟩⟩, rfl, rfl⟩, by rw [ht]; exact hP, va_K.moved hW.alike hK, hD⟩, hS.F ht⟩) hS.2.2 d_M_bad_58
  refine lv_if_ge (tgt := 49) hx hb d_M_bad_42 (by decide) (fun h9 => ?_) (fun h9 => ?_)
  rotate_left 1
  · rw [show (0 : Int32) = nI 0 from rfl, nI_leI (by omega) (by omega)] at h9
    exact absurd h9 (by omega)
  rw [show (0 : Int32) = nI 0 from rfl, nI_leI (by omega) (by omega)] at h9
  refine lv_iconst (v := nI 0) hx hb d_M_bad_49 (by decide) ?_
  refine zh_t (show nI 0 = zb false from rfl) ?_
  refine lv_iconst (v := nI 2) hx hb d_M_bad_50 (by decide) ?_
  refine zci (zrV (n := 2) (As := [.int (zb false), .int (nI 2)]) (rest := []) ⟨hx, hb, hml, hown, hk⟩ (c_M_fails_ok l D t0 g (mmk 0 (m_oct z) (m_pl z) (m_sz z) (m_sta z) (m_sin z) (m_rea z) (m_fnd z) (m_many z) (m_made z) (m_backs z) (m_lm z)) H.size false 2) zk499 zk501 ks_M_fails zk5 kc_M_fails ⟨rfl, by decide, by decide, by decide⟩ rfl rfl ⟨Nat.le_of_ble_eq_true rfl, Nat.le_of_ble_eq_true rfl⟩ ⟨hP, hK, hD, hS, hA, hE⟩ (va_recv hK hP (ci := 2) (q0 := 0) rfl rfl) rfl hl.1 rfl (Nat.le_of_ble_eq_true rfl) d_M_bad_51 ⟨Nat.le_of_ble_eq_true rfl, Nat.le_of_ble_eq_true rfl⟩) ⟨hP, hK, hD, hS, hA, hE⟩ (fun r u H locs hu hP hK hD hS => ?_)
  obtain ⟨rfl, rfl⟩ := hu
  have hP : va_P D zcl (mW g (mmk 0 (m_oct z) (m_pl z) (m_sz z) (m_sta z) (m_sin z) (m_rea z) (m_fnd z) (m_many z) (m_made z) (m_backs z) (m_lm z))) H := hP
  have hD : va_D A (mW g (mmk 0 (m_oct z) (m_pl z) (m_sz z) (m_sta z) (m_sin z) (m_rea z) (m_fnd z) (m_many z) (m_made z) (m_backs z) (m_lm z))) := hD
  have hK : va_K D zcl (mT g) s := hK
  refine lv_if_eq (tgt := 59) hx hb d_M_bad_54 (by decide) (fun h9 => ?_) (fun h9 => ?_)
  rotate_left 1
  · rw [zh_zb] at h9
    exact absurd rfl h9
  refine lv_iinc (lv' := [(2, .int (nI (0 + 1))), (0, .ref (n_h g)), (1, .int (nI x))]) (v := nI (0 + 1)) hx hb d_M_bad_59 hl (k := 0) rfl (nI_add _ _) (by decide) rfl (fun ls hl => ?_)
  have hl : lv_has ls 3 [(2, .int (nI 1)), (0, .ref (n_h g)), (1, .int (nI x))] := hl
  refine lv_goto (tgt := 28) hx hb d_M_bad_62 (by decide) ?_
  refine lv_iload_n hx hb d_M_bad_28 rfl (lv_at hl 0 rfl) ?_
  refine lv_iconst (v := nI 4) hx hb d_M_bad_29 (by decide) ?_
  refine lv_icmp_ge (tgt := 65) hx hb d_M_bad_30 (by decide) (fun h9 => ?_) (fun h9 => ?_)
  · rw [nI_leI (by omega) (by omega)] at h9
    exact absurd h9 (by omega)
  rw [nI_leI (by omega) (by omega)] at h9
  refine lv_aload_n hx hb d_M_bad_33 rfl (lv_at hl 1 rfl) ?_
  refine lv_aload_n hx hb d_M_bad_34 rfl (lv_at hl 1 rfl) ?_
  refine lv_iload_n hx hb d_M_bad_35 rfl (lv_at hl 2 rfl) ?_
  refine lv_iload_n hx hb d_M_bad_36 rfl (lv_at hl 0 rfl) ?_
  refine lv_iadd hx hb d_M_bad_37 ?_
  refine zh_t (show (nI x + nI 1) = nI (x + 1) from nI_add _ _) ?_
  refine lv_iconst (v := nI 1) hx hb d_M_bad_38 (by decide) ?_
  refine vp_callSi (zrV (n := 2) (As := [.int (nI (x + 1)), .int (nI 1)]) (rest := [.ref (n_h g)]) ⟨hx, hb, hml, hown, hk⟩ (c_M_of_ok l D t0 g (mmk 0 (m_oct z) (m_pl z) (m_sz z) (m_sta z) (m_sin z) (m_rea z) (m_fnd z) (m_many z) (m_made z) (m_backs z) (m_lm z)) H.size (nI (x + 1)) 1 (by decide) hz) zk538 zk540 ks_M_of zk5 kc_M_of ⟨rfl, by decide, by decide, by decide⟩ rfl rfl ⟨Nat.le_of_ble_eq_true rfl, Nat.le_of_ble_eq_true rfl⟩ ⟨hP, hK, hD, hS, hA, hE⟩ (va_recv hK hP (ci := 2) (q0 := 0) rfl rfl) rfl hl.1 rfl (Nat.le_of_ble_eq_true rfl) d_M_bad_39 ⟨Nat.le_of_ble_eq_true rfl, Nat.le_of_ble_eq_true rfl⟩).run (fun r hr1 => ?_)
  have hr1 : zfst (mof z (nI (x + 1)) 1) (m_many z) r := hr1
  rcases hr1 with ⟨rfl, hno⟩ | ⟨k1, hk1, rfl, hl1, hfirst⟩
  · refine lv_if_ge (tgt := 49) hx hb d_M_bad_42 (by decide) (fun h9 => ?_) (fun h9 => ?_)
    · exact absurd h9 (by decide)
    refine lv_iconst (v := nI 1) hx hb d_M_bad_45 (by decide) ?_
    refine zh_t (show nI 1 = zb true from rfl) ?_
    refine lv_goto (tgt := 50) hx hb d_M_bad_46 (by decide) ?_
    refine lv_iconst (v := nI 2) hx hb d_M_bad_50 (by decide) ?_
    refine zci (zrV (n := 2) (As := [.int (zb true), .int (nI 2)]) (rest := []) ⟨hx, hb, hml, hown, hk⟩ (c_M_fails_ok l D t0 g (mmk 0 (m_oct z) (m_pl z) (m_sz z) (m_sta z) (m_sin z) (m_rea z) (m_fnd z) (m_many z) (m_made z) (m_backs z) (m_lm z)) H.size true 2) zk499 zk501 ks_M_fails zk5 kc_M_fails ⟨rfl, by decide, by decide, by decide⟩ rfl rfl ⟨Nat.le_of_ble_eq_true rfl, Nat.le_of_ble_eq_true rfl⟩ ⟨hP, hK, hD, hS, hA, hE⟩ (va_recv hK hP (ci := 2) (q0 := 0) rfl rfl) rfl hl.1 rfl (Nat.le_of_ble_eq_true rfl) d_M_bad_51 ⟨Nat.le_of_ble_eq_true rfl, Nat.le_of_ble_eq_true rfl⟩) ⟨hP, hK, hD, hS, hA, hE⟩ (fun r u H locs hu hP hK hD hS => ?_)
    obtain ⟨rfl, rfl⟩ := hu
    have hP : va_P D zcl (mW g (mmk 2 (m_oct z) (m_pl z) (m_sz z) (m_sta z) (m_sin z) (m_rea z) (m_fnd z) (m_many z) (m_made z) (m_backs z) (m_lm z))) H := hP
    have hD : va_D A (mW g (mmk 2 (m_oct z) (m_pl z) (m_sz z) (m_sta z) (m_sin z) (m_rea z) (m_fnd z) (m_many z) (m_made z) (m_backs z) (m_lm z))) := hD
    have hK : va_K D zcl (mT g) s := hK
    refine lv_if_eq (tgt := 59) hx hb d_M_bad_54 (by decide) (fun h9 => ?_) (fun h9 => ?_)
    · rw [zh_zb] at h9
      exact absurd h9 (by decide)
    refine lv_iconst (v := nI 1) hx hb d_M_bad_57 (by decide) ?_
    refine zh_t (show nI 1 = zb true from rfl) ?_
    exact W.zret hx hb hr (zh_nar _) (fun t ht hW => ⟨⟨_, (mu_err z 2), rfl, ⟨2, Or.inr ⟨hin, Or.inl ⟨rfl, 1, by decide, by rw [hvn]; exact hno⟩⟩, rfl, rfl⟩, by rw [ht]; exact hP, va_K.moved hW.alike hK, hD⟩, hS.F ht⟩) hS.2.2 d_M_bad_58
  refine lv_if_ge (tgt := 49) hx hb d_M_bad_42 (by decide) (fun h9 => ?_) (fun h9 => ?_)
  rotate_left 1
  · rw [show (0 : Int32) = nI 0 from rfl, nI_leI (by omega) (by omega)] at h9
    exact absurd h9 (by omega)
  rw [show (0 : Int32) = nI 0 from rfl, nI_leI (by omega) (by omega)] at h9
  refine lv_iconst (v := nI 0) hx hb d_M_bad_49 (by decide) ?_
  refine zh_t (show nI 0 = zb false from rfl) ?_
  refine lv_iconst (v := nI 2) hx hb d_M_bad_50 (by decide) ?_
  refine zci (zrV (n := 2) (As := [.int (zb false), .int (nI 2)]) (rest := []) ⟨hx, hb, hml, hown, hk⟩ (c_M_fails_ok l D t0 g (mmk 0 (m_oct z) (m_pl z) (m_sz z) (m_sta z) (m_sin z) (m_rea z) (m_fnd z) (m_many z) (m_made z) (m_backs z) (m_lm z)) H.size false 2) zk499 zk501 ks_M_fails zk5 kc_M_fails ⟨rfl, by decide, by decide, by decide⟩ rfl rfl ⟨Nat.le_of_ble_eq_true rfl, Nat.le_of_ble_eq_true rfl⟩ ⟨hP, hK, hD, hS, hA, hE⟩ (va_recv hK hP (ci := 2) (q0 := 0) rfl rfl) rfl hl.1 rfl (Nat.le_of_ble_eq_true rfl) d_M_bad_51 ⟨Nat.le_of_ble_eq_true rfl, Nat.le_of_ble_eq_true rfl⟩) ⟨hP, hK, hD, hS, hA, hE⟩ (fun r u H locs hu hP hK hD hS => ?_)
  obtain ⟨rfl, rfl⟩ := hu
  have hP : va_P D zcl (mW g (mmk 0 (m_oct z) (m_pl z) (m_sz z) (m_sta z) (m_sin z) (m_rea z) (m_fnd z) (m_many z) (m_made z) (m_backs z) (m_lm z))) H := hP
  have hD : va_D A (mW g (mmk 0 (m_oct z) (m_pl z) (m_sz z) (m_sta z) (m_sin z) (m_rea z) (m_fnd z) (m_many z) (m_made z) (m_backs z) (m_lm z))) := hD
  have hK : va_K D zcl (mT g) s := hK
  refine lv_if_eq (tgt := 59) hx hb d_M_bad_54 (by decide) (fun h9 => ?_) (fun h9 => ?_)
  rotate_left 1
  · rw [zh_zb] at h9
    exact absurd rfl h9
  refine lv_iinc (lv' := [(2, .int (nI (1 + 1))), (0, .ref (n_h g)), (1, .int (nI x))]) (v := nI (1 + 1)) hx hb d_M_bad_59 hl (k := 0) rfl (nI_add _ _) (by decide) rfl (fun ls hl => ?_)
  have hl : lv_has ls 3 [(2, .int (nI 2)), (0, .ref (n_h g)), (1, .int (nI x))] := hl
  refine lv_goto (tgt := 28) hx hb d_M_bad_62 (by decide) ?_
  refine lv_iload_n hx hb d_M_bad_28 rfl (lv_at hl 0 rfl) ?_
  refine lv_iconst (v := nI 4) hx hb d_M_bad_29 (by decide) ?_
  refine lv_icmp_ge (tgt := 65) hx hb d_M_bad_30 (by decide) (fun h9 => ?_) (fun h9 => ?_)
  · rw [nI_leI (by omega) (by omega)] at h9
    exact absurd h9 (by omega)
  rw [nI_leI (by omega) (by omega)] at h9
  refine lv_aload_n hx hb d_M_bad_33 rfl (lv_at hl 1 rfl) ?_
  refine lv_aload_n hx hb d_M_bad_34 rfl (lv_at hl 1 rfl) ?_
  refine lv_iload_n hx hb d_M_bad_35 rfl (lv_at hl 2 rfl) ?_
  refine lv_iload_n hx hb d_M_bad_36 rfl (lv_at hl 0 rfl) ?_
  refine lv_iadd hx hb d_M_bad_37 ?_
  refine zh_t (show (nI x + nI 2) = nI (x + 2) from nI_add _ _) ?_
  refine lv_iconst (v := nI 1) hx hb d_M_bad_38 (by decide) ?_
  refine vp_callSi (zrV (n := 2) (As := [.int (nI (x + 2)), .int (nI 1)]) (rest := [.ref (n_h g)]) ⟨hx, hb, hml, hown, hk⟩ (c_M_of_ok l D t0 g (mmk 0 (m_oct z) (m_pl z) (m_sz z) (m_sta z) (m_sin z) (m_rea z) (m_fnd z) (m_many z) (m_made z) (m_backs z) (m_lm z)) H.size (nI (x + 2)) 1 (by decide) hz) zk538 zk540 ks_M_of zk5 kc_M_of ⟨rfl, by decide, by decide, by decide⟩ rfl rfl ⟨Nat.le_of_ble_eq_true rfl, Nat.le_of_ble_eq_true rfl⟩ ⟨hP, hK, hD, hS, hA, hE⟩ (va_recv hK hP (ci := 2) (q0 := 0) rfl rfl) rfl hl.1 rfl (Nat.le_of_ble_eq_true rfl) d_M_bad_39 ⟨Nat.le_of_ble_eq_true rfl, Nat.le_of_ble_eq_true rfl⟩).run (fun r hr1 => ?_)
  have hr1 : zfst (mof z (nI (x + 2)) 1) (m_many z) r := hr1
  rcases hr1 with ⟨rfl, hno⟩ | ⟨k2, hk2, rfl, hl2, hfirst⟩
  · refine lv_if_ge (tgt := 49) hx hb d_M_bad_42 (by decide) (fun h9 => ?_) (fun h9 => ?_)
    · exact absurd h9 (by decide)
    refine lv_iconst (v := nI 1) hx hb d_M_bad_45 (by decide) ?_
    refine zh_t (show nI 1 = zb true from rfl) ?_
    refine lv_goto (tgt := 50) hx hb d_M_bad_46 (by decide) ?_
    refine lv_iconst (v := nI 2) hx hb d_M_bad_50 (by decide) ?_
    refine zci (zrV (n := 2) (As := [.int (zb true), .int (nI 2)]) (rest := []) ⟨hx, hb, hml, hown, hk⟩ (c_M_fails_ok l D t0 g (mmk 0 (m_oct z) (m_pl z) (m_sz z) (m_sta z) (m_sin z) (m_rea z) (m_fnd z) (m_many z) (m_made z) (m_backs z) (m_lm z)) H.size true 2) zk499 zk501 ks_M_fails zk5 kc_M_fails ⟨rfl, by decide, by decide, by decide⟩ rfl rfl ⟨Nat.le_of_ble_eq_true rfl, Nat.le_of_ble_eq_true rfl⟩ ⟨hP, hK, hD, hS, hA, hE⟩ (va_recv hK hP (ci := 2) (q0 := 0) rfl rfl) rfl hl.1 rfl (Nat.le_of_ble_eq_true rfl) d_M_bad_51 ⟨Nat.le_of_ble_eq_true rfl, Nat.le_of_ble_eq_true rfl⟩) ⟨hP, hK, hD, hS, hA, hE⟩ (fun r u H locs hu hP hK hD hS => ?_)
    obtain ⟨rfl, rfl⟩ := hu
    have hP : va_P D zcl (mW g (mmk 2 (m_oct z) (m_pl z) (m_sz z) (m_sta z) (m_sin z) (m_rea z) (m_fnd z) (m_many z) (m_made z) (m_backs z) (m_lm z))) H := hP
    have hD : va_D A (mW g (mmk 2 (m_oct z) (m_pl z) (m_sz z) (m_sta z) (m_sin z) (m_rea z) (m_fnd z) (m_many z) (m_made z) (m_backs z) (m_lm z))) := hD
    have hK : va_K D zcl (mT g) s := hK
    refine lv_if_eq (tgt := 59) hx hb d_M_bad_54 (by decide) (fun h9 => ?_) (fun h9 => ?_)
    · rw [zh_zb] at h9
      exact absurd h9 (by decide)
    refine lv_iconst (v := nI 1) hx hb d_M_bad_57 (by decide) ?_
    refine zh_t (show nI 1 = zb true from rfl) ?_
    exact W.zret hx hb hr (zh_nar _) (fun t ht hW => ⟨⟨_, (mu_err z 2), rfl, ⟨2, Or.inr ⟨hin, Or.inl ⟨rfl, 2, by decide, by rw [hvn]; exact hno⟩⟩, rfl, rfl⟩, by rw [ht]; exact hP, va_K.moved hW.alike hK, hD⟩, hS.F ht⟩) hS.2.2 d_M_bad_58
  refine lv_if_ge (tgt := 49) hx hb d_M_bad_42 (by decide) (fun h9 => ?_) (fun h9 => ?_)
  rotate_left 1
  · rw [show (0 : Int32) = nI 0 from rfl, nI_leI (by omega) (by omega)] at h9
    exact absurd h9 (by omega)
  rw [show (0 : Int32) = nI 0 from rfl, nI_leI (by omega) (by omega)] at h9
  refine lv_iconst (v := nI 0) hx hb d_M_bad_49 (by decide) ?_
  refine zh_t (show nI 0 = zb false from rfl) ?_
  refine lv_iconst (v := nI 2) hx hb d_M_bad_50 (by decide) ?_
  refine zci (zrV (n := 2) (As := [.int (zb false), .int (nI 2)]) (rest := []) ⟨hx, hb, hml, hown, hk⟩ (c_M_fails_ok l D t0 g (mmk 0 (m_oct z) (m_pl z) (m_sz z) (m_sta z) (m_sin z) (m_rea z) (m_fnd z) (m_many z) (m_made z) (m_backs z) (m_lm z)) H.size false 2) zk499 zk501 ks_M_fails zk5 kc_M_fails ⟨rfl, by decide, by decide, by decide⟩ rfl rfl ⟨Nat.le_of_ble_eq_true rfl, Nat.le_of_ble_eq_true rfl⟩ ⟨hP, hK, hD, hS, hA, hE⟩ (va_recv hK hP (ci := 2) (q0 := 0) rfl rfl) rfl hl.1 rfl (Nat.le_of_ble_eq_true rfl) d_M_bad_51 ⟨Nat.le_of_ble_eq_true rfl, Nat.le_of_ble_eq_true rfl⟩) ⟨hP, hK, hD, hS, hA, hE⟩ (fun r u H locs hu hP hK hD hS => ?_)
  obtain ⟨rfl, rfl⟩ := hu
  have hP : va_P D zcl (mW g (mmk 0 (m_oct z) (m_pl z) (m_sz z) (m_sta z) (m_sin z) (m_rea z) (m_fnd z) (m_many z) (m_made z) (m_backs z) (m_lm z))) H := hP
  have hD : va_D A (mW g (mmk 0 (m_oct z) (m_pl z) (m_sz z) (m_sta z) (m_sin z) (m_rea z) (m_fnd z) (m_many z) (m_made z) (m_backs z) (m_lm z))) := hD
  have hK : va_K D zcl (mT g) s := hK
  refine lv_if_eq (tgt := 59) hx hb d_M_bad_54 (by decide) (fun h9 => ?_) (fun h9 => ?_)
  rotate_left 1
  · rw [zh_zb] at h9
    exact absurd rfl h9
  refine lv_iinc (lv' := [(2, .int (nI (2 + 1))), (0, .ref (n_h g)), (1, .int (nI x))]) (v := nI (2 + 1)) hx hb d_M_bad_59 hl (k := 0) rfl (nI_add _ _) (by decide) rfl (fun ls hl => ?_)
  have hl : lv_has ls 3 [(2, .int (nI 3)), (0, .ref (n_h g)), (1, .int (nI x))] := hl
  refine lv_goto (tgt := 28) hx hb d_M_bad_62 (by decide) ?_
  refine lv_iload_n hx hb d_M_bad_28 rfl (lv_at hl 0 rfl) ?_
  refine lv_iconst (v := nI 4) hx hb d_M_bad_29 (by decide) ?_
  refine lv_icmp_ge (tgt := 65) hx hb d_M_bad_30 (by decide) (fun h9 => ?_) (fun h9 => ?_)
  · rw [nI_leI (by omega) (by omega)] at h9
    exact absurd h9 (by omega)
  rw [nI_leI (by omega) (by omega)] at h9
  refine lv_aload_n hx hb d_M_bad_33 rfl (lv_at hl 1 rfl) ?_
  refine lv_aload_n hx hb d_M_bad_34 rfl (lv_at hl 1 rfl) ?_
  refine lv_iload_n hx hb d_M_bad_35 rfl (lv_at hl 2 rfl) ?_
  refine lv_iload_n hx hb d_M_bad_36 rfl (lv_at hl 0 rfl) ?_
  refine lv_iadd hx hb d_M_bad_37 ?_
  refine zh_t (show (nI x + nI 3) = nI (x + 3) from nI_add _ _) ?_
  refine lv_iconst (v := nI 1) hx hb d_M_bad_38 (by decide) ?_
  refine vp_callSi (zrV (n := 2) (As := [.int (nI (x + 3)), .int (nI 1)]) (rest := [.ref (n_h g)]) ⟨hx, hb, hml, hown, hk⟩ (c_M_of_ok l D t0 g (mmk 0 (m_oct z) (m_pl z) (m_sz z) (m_sta z) (m_sin z) (m_rea z) (m_fnd z) (m_many z) (m_made z) (m_backs z) (m_lm z)) H.size (nI (x + 3)) 1 (by decide) hz) zk538 zk540 ks_M_of zk5 kc_M_of ⟨rfl, by decide, by decide, by decide⟩ rfl rfl ⟨Nat.le_of_ble_eq_true rfl, Nat.le_of_ble_eq_true rfl⟩ ⟨hP, hK, hD, hS, hA, hE⟩ (va_recv hK hP (ci := 2) (q0 := 0) rfl rfl) rfl hl.1 rfl (Nat.le_of_ble_eq_true rfl) d_M_bad_39 ⟨Nat.le_of_ble_eq_true rfl, Nat.le_of_ble_eq_true rfl⟩).run (fun r hr1 => ?_)
  have hr1 : zfst (mof z (nI (x + 3)) 1) (m_many z) r := hr1
  rcases hr1 with ⟨rfl, hno⟩ | ⟨k3, hk3, rfl, hl3, hfirst⟩
  · refine lv_if_ge (tgt := 49) hx hb d_M_bad_42 (by decide) (fun h9 => ?_) (fun h9 => ?_)
    · exact absurd h9 (by decide)
    refine lv_iconst (v := nI 1) hx hb d_M_bad_45 (by decide) ?_
    refine zh_t (show nI 1 = zb true from rfl) ?_
    refine lv_goto (tgt := 50) hx hb d_M_bad_46 (by decide) ?_
    refine lv_iconst (v := nI 2) hx hb d_M_bad_50 (by decide) ?_
    refine zci (zrV (n := 2) (As := [.int (zb true), .int (nI 2)]) (rest := []) ⟨hx, hb, hml, hown, hk⟩ (c_M_fails_ok l D t0 g (mmk 0 (m_oct z) (m_pl z) (m_sz z) (m_sta z) (m_sin z) (m_rea z) (m_fnd z) (m_many z) (m_made z) (m_backs z) (m_lm z)) H.size true 2) zk499 zk501 ks_M_fails zk5 kc_M_fails ⟨rfl, by decide, by decide, by decide⟩ rfl rfl ⟨Nat.le_of_ble_eq_true rfl, Nat.le_of_ble_eq_true rfl⟩ ⟨hP, hK, hD, hS, hA, hE⟩ (va_recv hK hP (ci := 2) (q0 := 0) rfl rfl) rfl hl.1 rfl (Nat.le_of_ble_eq_true rfl) d_M_bad_51 ⟨Nat.le_of_ble_eq_true rfl, Nat.le_of_ble_eq_true rfl⟩) ⟨hP, hK, hD, hS, hA, hE⟩ (fun r u H locs hu hP hK hD hS => ?_)
    obtain ⟨rfl, rfl⟩ := hu
    have hP : va_P D zcl (mW g (mmk 2 (m_oct z) (m_pl z) (m_sz z) (m_sta z) (m_sin z) (m_rea z) (m_fnd z) (m_many z) (m_made z) (m_backs z) (m_lm z))) H := hP
    have hD : va_D A (mW g (mmk 2 (m_oct z) (m_pl z) (m_sz z) (m_sta z) (m_sin z) (m_rea z) (m_fnd z) (m_many z) (m_made z) (m_backs z) (m_lm z))) := hD
    have hK : va_K D zcl (mT g) s := hK
    refine lv_if_eq (tgt := 59) hx hb d_M_bad_54 (by decide) (fun h9 => ?_) (fun h9 => ?_)
    · rw [zh_zb] at h9
      exact absurd h9 (by decide)
    refine lv_iconst (v := nI 1) hx hb d_M_bad_57 (by decide) ?_
    refine zh_t (show nI 1 = zb true from rfl) ?_
    exact W.zret hx hb hr (zh_nar _) (fun t ht hW => ⟨⟨_, (mu_err z 2), rfl, ⟨2, Or.inr ⟨hin, Or.inl ⟨rfl, 3, by decide, by rw [hvn]; exact hno⟩⟩, rfl, rfl⟩, by rw [ht]; exact hP, va_K.moved hW.alike hK, hD⟩, hS.F ht⟩) hS.2.2 d_M_bad_58
  refine lv_if_ge (tgt := 49) hx hb d_M_bad_42 (by decide) (fun h9 => ?_) (fun h9 => ?_)
  rotate_left 1
  · rw [show (0 : Int32) = nI 0 from rfl, nI_leI (by omega) (by omega)] at h9
    exact absurd h9 (by omega)
  rw [show (0 : Int32) = nI 0 from rfl, nI_leI (by omega) (by omega)] at h9
  refine lv_iconst (v := nI 0) hx hb d_M_bad_49 (by decide) ?_
  refine zh_t (show nI 0 = zb false from rfl) ?_
  refine lv_iconst (v := nI 2) hx hb d_M_bad_50 (by decide) ?_
  refine zci (zrV (n := 2) (As := [.int (zb false), .int (nI 2)]) (rest := []) ⟨hx, hb, hml, hown, hk⟩ (c_M_fails_ok l D t0 g (mmk 0 (m_oct z) (m_pl z) (m_sz z) (m_sta z) (m_sin z) (m_rea z) (m_fnd z) (m_many z) (m_made z) (m_backs z) (m_lm z)) H.size false 2) zk499 zk501 ks_M_fails zk5 kc_M_fails ⟨rfl, by decide, by decide, by decide⟩ rfl rfl ⟨Nat.le_of_ble_eq_true rfl, Nat.le_of_ble_eq_true rfl⟩ ⟨hP, hK, hD, hS, hA, hE⟩ (va_recv hK hP (ci := 2) (q0 := 0) rfl rfl) rfl hl.1 rfl (Nat.le_of_ble_eq_true rfl) d_M_bad_51 ⟨Nat.le_of_ble_eq_true rfl, Nat.le_of_ble_eq_true rfl⟩) ⟨hP, hK, hD, hS, hA, hE⟩ (fun r u H locs hu hP hK hD hS => ?_)
  obtain ⟨rfl, rfl⟩ := hu
  have hP : va_P D zcl (mW g (mmk 0 (m_oct z) (m_pl z) (m_sz z) (m_sta z) (m_sin z) (m_rea z) (m_fnd z) (m_many z) (m_made z) (m_backs z) (m_lm z))) H := hP
  have hD : va_D A (mW g (mmk 0 (m_oct z) (m_pl z) (m_sz z) (m_sta z) (m_sin z) (m_rea z) (m_fnd z) (m_many z) (m_made z) (m_backs z) (m_lm z))) := hD
  have hK : va_K D zcl (mT g) s := hK
  refine lv_if_eq (tgt := 59) hx hb d_M_bad_54 (by decide) (fun h9 => ?_) (fun h9 => ?_)
  rotate_left 1
  · rw [zh_zb] at h9
    exact absurd rfl h9
  refine lv_iinc (lv' := [(2, .int (nI (3 + 1))), (0, .ref (n_h g)), (1, .int (nI x))]) (v := nI (3 + 1)) hx hb d_M_bad_59 hl (k := 0) rfl (nI_add _ _) (by decide) rfl (fun ls hl => ?_)
  have hl : lv_has ls 3 [(2, .int (nI 4)), (0, .ref (n_h g)), (1, .int (nI x))] := hl
  refine lv_goto (tgt := 28) hx hb d_M_bad_62 (by decide) ?_
  refine lv_iload_n hx hb d_M_bad_28 rfl (lv_at hl 0 rfl) ?_
  refine lv_iconst (v := nI 4) hx hb d_M_bad_29 (by decide) ?_
  refine lv_icmp_ge (tgt := 65) hx hb d_M_bad_30 (by decide) (fun h9 => ?_) (fun h9 => ?_)
  rotate_left 1
  · rw [nI_leI (by omega) (by omega)] at h9
    exact absurd h9 (by omega)
  rw [nI_leI (by omega) (by omega)] at h9
  refine lv_iconst (v := nI 0) hx hb d_M_bad_65 (by decide) ?_
  refine zh_t (show nI 0 = zb false from rfl) ?_
  exact W.zret hx hb hr (zh_nar _) (fun t ht hW => ⟨⟨_, (mu_err z 0), rfl, ⟨0, Or.inr ⟨hin, Or.inr ⟨rfl, fun j hj => by rw [hvn]; rcases (show j = 0 ∨ j = 1 ∨ j = 2 ∨ j = 3 by omega) with rfl | rfl | rfl | rfl; (exact ⟨k0, hk0, hl0⟩); (exact ⟨k1, hk1, hl1⟩); (exact ⟨k2, hk2, hl2⟩); (exact ⟨k3, hk3, hl3⟩)⟩⟩, rfl, rfl⟩, by rw [ht]; exact hP, va_K.moved hW.alike hK, hD⟩, hS.F ht⟩) hS.2.2 d_M_bad_66
