set_option maxHeartbeats 1000000 in
set_option maxRecDepth 100000 in
theorem c_M_again_ok (l : Launch) (D : va_G) (t0 : Nat) (g : MG) (z : MT) (sz : Nat) (v v2 : Int32) (hz : mOK z) (hbk : m_backs z + 1 < 100000) : Met l y_M_again w_M_again ({ frames := 3, cells := 0, slots := 0, locals := 90 }) (zPre D t0 (mT g) (mW g z) sz [.ref (n_h g), .int v, .int v2]) (va_Qi (fun r u => (¬ (0 ≤ v2.toInt ∧ v2.toInt ≤ 2048) ∧ u = mu_err z 1) ∨ ((0 ≤ v2.toInt ∧ v2.toInt ≤ 2048) ∧ ((∃ y : Nat, mnot z v y ∧ u = mu_err z y) ∨ (∃ b : Nat, b < m_many z ∧ mlive z v 1 b ∧ ∃ k : Nat, mroom z v2.toInt.toNat k ∧ r = nI (16 * k) ∧ ((k = 0 ∧ u = mu_err z 0) ∨ (k ≠ 0 ∧ mgive (mq_mark (mq_cpy (mq_make (mu_err z 0) k v2.toInt.toNat) (m_pl z b) (16 * k) (min v2.toInt.toNat (m_sz z b))) b) u)))))) (fun (u : MT) t => zPost D (mT g) (va_A (mW g z) sz) (mW g u) t) (va_A (mW g z) sz)) 0 0 (va_A (mW g z) sz) := by
  refine Met.ofW (cc := c_M_again) (maxL := 6) (ret := (some .int)) (by decide) rfl ?_
  intro p e s m args below meth c s₁ B hml hv
  obtain ⟨rfl, hsz, hP, hK, hD0, hE⟩ := hv
  have hx := B.exec
  have hb := B.bytes
  have hr := B.returns
  have hts := atoms_spec (ws := w_M_again) B.pre
  have hk : ∀ w ∈ zB, w.before _ s = true := fun w h => hts w (List.mem_cons_of_mem _ h)
  have hown : s.vm.findClass "ZoneHeapModel" = some m.cls := findClass_of_methodNamed B.named
  have hlocks := B.notSynchronized
  subst hsz
  have hD := hD0.self (sz := s.heap.size)
  generalize hAe : va_A (mW g z) s.heap.size = A at hD hE ⊢
  have hA : ∀ q : Nat, s.heap.size ≤ q → A q := fun q h => by rw [← hAe]; exact Or.inr h
  have hS : va_S A s.heap s.heap [] := va_S.rf
  have hl := lv_entry ([.ref (n_h g), .int v, .int v2]) (n := 6) (Nat.le_of_ble_eq_true rfl)
  rw [lg_entry_eq]
  generalize (lg_sl ([.ref (n_h g), .int v, .int v2]) ++ List.replicate (6 - (lg_sl ([.ref (n_h g), .int v, .int v2])).length) Slot.unset).toArray = ls at hl ⊢
  have hl : lv_has ls 6 [(0, .ref (n_h g)), (1, .int v), (2, .int v2)] := hl
  have hm := hz.many
  refine lv_aload_n hx hb d_M_again_0 rfl (lv_at hl 0 rfl) ?_
  refine lv_iload_n hx hb d_M_again_1 rfl (lv_at hl 2 rfl) ?_
  refine lv_if_lt (tgt := 12) hx hb d_M_again_2 (by decide) (fun h => ?_) (fun h => ?_)
  · refine lv_iconst (v := nI 1) hx hb d_M_again_12 (by decide) ?_
    refine zh_t (show nI 1 = zb true from rfl) ?_
    refine lv_goto (tgt := 17) hx hb d_M_again_13 (by decide) ?_
    refine lv_iconst (v := nI 1) hx hb d_M_again_17 (by decide) ?_
    refine zci (zrV (n := 2) (As := [.int (zb true), .int (nI 1)]) (rest := []) ⟨hx, hb, hml, hown, hk⟩ (c_M_fails_ok l D t0 g z s.heap.size true 1) zk499 zk501 ks_M_fails zk5 kc_M_fails ⟨rfl, by decide, by decide, by decide⟩ rfl rfl ⟨Nat.le_of_ble_eq_true rfl, Nat.le_of_ble_eq_true rfl⟩ ⟨hP, hK, hD, hS, hA, hE⟩ (va_recv hK hP (ci := 2) (q0 := 0) rfl rfl) rfl hl.1 rfl (Nat.le_of_ble_eq_true rfl) d_M_again_18 ⟨Nat.le_of_ble_eq_true rfl, Nat.le_of_ble_eq_true rfl⟩) ⟨hP, hK, hD, hS, hA, hE⟩ (fun r u H locs hu hP hK hD hS => ?_)
    obtain ⟨rfl, rfl⟩ := hu
    have hP : va_P D zcl (mW g (mmk 1 (m_oct z) (m_pl z) (m_sz z) (m_sta z) (m_sin z) (m_rea z) (m_fnd z) (m_many z) (m_made z) (m_backs z) (m_lm z))) H := hP
    have hD : va_D A (mW g (mmk 1 (m_oct z) (m_pl z) (m_sz z) (m_sta z) (m_sin z) (m_rea z) (m_fnd z) (m_many z) (m_made z) (m_backs z) (m_lm z))) := hD
    have hK : va_K D zcl (mT g) s := hK
    refine lv_if_eq (tgt := 26) hx hb d_M_again_21 (by decide) (fun h9 => ?_) (fun h9 => ?_)
    · rw [zh_zb] at h9
      exact absurd h9 (by decide)
    refine lv_iconst (v := nI 0) hx hb d_M_again_24 (by decide) ?_
    exact W.iret hx hb hr (fun t ht hW => ⟨⟨_, (mu_err z 1), rfl, Or.inl ⟨by have := zi_lt0 h; omega, rfl⟩, by rw [ht]; exact hP, va_K.moved hW.alike hK, hD⟩, hS.F ht⟩) hS.2.2 d_M_again_25
  obtain ⟨n, hn31, rfl⟩ := nI_of h
  refine lv_iload_n hx hb d_M_again_5 rfl (lv_at hl 2 rfl) ?_
  refine lv_sipush (v := nI 2048) hx hb d_M_again_6 (by decide) ?_
  refine lv_icmp_le (tgt := 16) hx hb d_M_again_9 (by decide) (fun h => ?_) (fun h => ?_)
  rotate_left 1
  · rw [nI_leI (by omega) (by omega)] at h
    refine lv_iconst (v := nI 1) hx hb d_M_again_12 (by decide) ?_
    refine zh_t (show nI 1 = zb true from rfl) ?_
    refine lv_goto (tgt := 17) hx hb d_M_again_13 (by decide) ?_
    refine lv_iconst (v := nI 1) hx hb d_M_again_17 (by decide) ?_
    refine zci (zrV (n := 2) (As := [.int (zb true), .int (nI 1)]) (rest := []) ⟨hx, hb, hml, hown, hk⟩ (c_M_fails_ok l D t0 g z s.heap.size true 1) zk499 zk501 ks_M_fails zk5 kc_M_fails ⟨rfl, by decide, by decide, by decide⟩ rfl rfl ⟨Nat.le_of_ble_eq_true rfl, Nat.le_of_ble_eq_true rfl⟩ ⟨hP, hK, hD, hS, hA, hE⟩ (va_recv hK hP (ci := 2) (q0 := 0) rfl rfl) rfl hl.1 rfl (Nat.le_of_ble_eq_true rfl) d_M_again_18 ⟨Nat.le_of_ble_eq_true rfl, Nat.le_of_ble_eq_true rfl⟩) ⟨hP, hK, hD, hS, hA, hE⟩ (fun r u H locs hu hP hK hD hS => ?_)
    obtain ⟨rfl, rfl⟩ := hu
    have hP : va_P D zcl (mW g (mmk 1 (m_oct z) (m_pl z) (m_sz z) (m_sta z) (m_sin z) (m_rea z) (m_fnd z) (m_many z) (m_made z) (m_backs z) (m_lm z))) H := hP
    have hD : va_D A (mW g (mmk 1 (m_oct z) (m_pl z) (m_sz z) (m_sta z) (m_sin z) (m_rea z) (m_fnd z) (m_many z) (m_made z) (m_backs z) (m_lm z))) := hD
    have hK : va_K D zcl (mT g) s := hK
    refine lv_if_eq (tgt := 26) hx hb d_M_again_21 (by decide) (fun h9 => ?_) (fun h9 => ?_)
    · rw [zh_zb] at h9
      exact absurd h9 (by decide)
    refine lv_iconst (v := nI 0) hx hb d_M_again_24 (by decide) ?_
    exact W.iret hx hb hr (fun t ht hW => ⟨⟨_, (mu_err z 1), rfl, Or.inl ⟨by rw [nI_toInt hn31]; omega, rfl⟩, by rw [ht]; exact hP, va_K.moved hW.alike hK, hD⟩, hS.F ht⟩) hS.2.2 d_M_again_25
  rw [nI_leI (by omega) (by omega)] at h
  refine lv_iconst (v := nI 0) hx hb d_M_again_16 (by decide) ?_
  refine zh_t (show nI 0 = zb false from rfl) ?_
  refine lv_iconst (v := nI 1) hx hb d_M_again_17 (by decide) ?_
  refine zci (zrV (n := 2) (As := [.int (zb false), .int (nI 1)]) (rest := []) ⟨hx, hb, hml, hown, hk⟩ (c_M_fails_ok l D t0 g z s.heap.size false 1) zk499 zk501 ks_M_fails zk5 kc_M_fails ⟨rfl, by decide, by decide, by decide⟩ rfl rfl ⟨Nat.le_of_ble_eq_true rfl, Nat.le_of_ble_eq_true rfl⟩ ⟨hP, hK, hD, hS, hA, hE⟩ (va_recv hK hP (ci := 2) (q0 := 0) rfl rfl) rfl hl.1 rfl (Nat.le_of_ble_eq_true rfl) d_M_again_18 ⟨Nat.le_of_ble_eq_true rfl, Nat.le_of_ble_eq_true rfl⟩) ⟨hP, hK, hD, hS, hA, hE⟩ (fun r u H locs hu hP hK hD hS => ?_)
  obtain ⟨rfl, rfl⟩ := hu
  have hP : va_P D zcl (mW g (mmk 0 (m_oct z) (m_pl z) (m_sz z) (m_sta z) (m_sin z) (m_rea z) (m_fnd z) (m_many z) (m_made z) (m_backs z) (m_lm z))) H := hP
  have hD : va_D A (mW g (mmk 0 (m_oct z) (m_pl z) (m_sz z) (m_sta z) (m_sin z) (m_rea z) (m_fnd z) (m_many z) (m_made z) (m_backs z) (m_lm z))) := hD
  have hK : va_K D zcl (mT g) s := hK
  refine lv_if_eq (tgt := 26) hx hb d_M_again_21 (by decide) (fun h9 => ?_) (fun h9 => ?_)
  rotate_left 1
  · rw [zh_zb] at h9
    exact absurd rfl h9
  have hvn : (nI n).toInt.toNat = n := by rw [nI_toInt hn31]; rfl
  have hin : 0 ≤ (nI n).toInt ∧ (nI n).toInt ≤ 2048 := by rw [nI_toInt hn31]; omega
  have hn : n ≤ 2048 := h
  refine lv_aload_n hx hb d_M_again_26 rfl (lv_at hl 0 rfl) ?_
  refine lv_iload_n hx hb d_M_again_27 rfl (lv_at hl 1 rfl) ?_
  refine lv_iconst (v := nI 1) hx hb d_M_again_28 (by decide) ?_
  refine vp_callSi (zrV (n := 2) (As := [.int v, .int (nI 1)]) (rest := []) ⟨hx, hb, hml, hown, hk⟩ (c_M_at_ok l D t0 g (mmk 0 (m_oct z) (m_pl z) (m_sz z) (m_sta z) (m_sin z) (m_rea z) (m_fnd z) (m_many z) (m_made z) (m_backs z) (m_lm z)) H.size v 1 (by decide) hz) zk518 zk520 ks_M_at zk5 kc_M_at ⟨rfl, by decide, by decide, by decide⟩ rfl rfl ⟨Nat.le_of_ble_eq_true rfl, Nat.le_of_ble_eq_true rfl⟩ ⟨hP, hK, hD, hS, hA, hE⟩ (va_recv hK hP (ci := 2) (q0 := 0) rfl rfl) rfl hl.1 rfl (Nat.le_of_ble_eq_true rfl) d_M_again_29 ⟨Nat.le_of_ble_eq_true rfl, Nat.le_of_ble_eq_true rfl⟩).run (fun r hr1 => ?_)
  have hr1 : zfst (mlive z v 1) (m_many z) r := hr1
  rcases hr1 with ⟨rfl, hno1⟩ | ⟨b, hb5, rfl, hlv, hfirst⟩
  · refine lv_istore_n (lv' := [(3, .int ((-1))), (0, .ref (n_h g)), (1, .int v), (2, .int (nI n))]) hx hb d_M_again_32 rfl hl (by decide) rfl (fun ls hl => ?_)
    refine lv_aload_n hx hb d_M_again_33 rfl (lv_at hl 1 rfl) ?_
    refine lv_iload_n hx hb d_M_again_34 rfl (lv_at hl 0 rfl) ?_
    refine lv_if_ge (tgt := 42) hx hb d_M_again_35 (by decide) (fun h9 => ?_) (fun h9 => ?_)
    · exact absurd h9 (by decide)
    refine lv_iconst (v := nI 1) hx hb d_M_again_38 (by decide) ?_
    refine zh_t (show nI 1 = zb true from rfl) ?_
    refine lv_goto (tgt := 43) hx hb d_M_again_39 (by decide) ?_
    refine lv_aload_n hx hb d_M_again_43 rfl (lv_at hl 1 rfl) ?_
    refine lv_iload_n hx hb d_M_again_44 rfl (lv_at hl 2 rfl) ?_
    refine lv_iconst (v := nI 2) hx hb d_M_again_45 (by decide) ?_
    refine vp_callSi (zrV (n := 2) (As := [.int v, .int (nI 2)]) (rest := [.int (zb true), .ref (n_h g)]) ⟨hx, hb, hml, hown, hk⟩ (c_M_at_ok l D t0 g (mmk 0 (m_oct z) (m_pl z) (m_sz z) (m_sta z) (m_sin z) (m_rea z) (m_fnd z) (m_many z) (m_made z) (m_backs z) (m_lm z)) H.size v 2 (by decide) hz) zk518 zk520 ks_M_at zk5 kc_M_at ⟨rfl, by decide, by decide, by decide⟩ rfl rfl ⟨Nat.le_of_ble_eq_true rfl, Nat.le_of_ble_eq_true rfl⟩ ⟨hP, hK, hD, hS, hA, hE⟩ (va_recv hK hP (ci := 2) (q0 := 0) rfl rfl) rfl hl.1 rfl (Nat.le_of_ble_eq_true rfl) d_M_again_46 ⟨Nat.le_of_ble_eq_true rfl, Nat.le_of_ble_eq_true rfl⟩).run (fun r2 hr2 => ?_)
    have hr2 : zfst (mlive z v 2) (m_many z) r2 := hr2
    rcases hr2 with ⟨rfl, hno2⟩ | ⟨j2, hj2, rfl, hlv2, -⟩
    · refine lv_if_lt (tgt := 56) hx hb d_M_again_49 (by decide) (fun h9 => ?_) (fun h9 => ?_)
      rotate_left 1
      · exact absurd (by decide) h9
      refine lv_iconst (v := nI 1) hx hb d_M_again_56 (by decide) ?_
      refine zci (zrV (n := 2) (As := [.int (zb true), .int (nI 1)]) (rest := []) ⟨hx, hb, hml, hown, hk⟩ (c_M_fails_ok l D t0 g (mmk 0 (m_oct z) (m_pl z) (m_sz z) (m_sta z) (m_sin z) (m_rea z) (m_fnd z) (m_many z) (m_made z) (m_backs z) (m_lm z)) H.size true 1) zk499 zk501 ks_M_fails zk5 kc_M_fails ⟨rfl, by decide, by decide, by decide⟩ rfl rfl ⟨Nat.le_of_ble_eq_true rfl, Nat.le_of_ble_eq_true rfl⟩ ⟨hP, hK, hD, hS, hA, hE⟩ (va_recv hK hP (ci := 2) (q0 := 0) rfl rfl) rfl hl.1 rfl (Nat.le_of_ble_eq_true rfl) d_M_again_57 ⟨Nat.le_of_ble_eq_true rfl, Nat.le_of_ble_eq_true rfl⟩) ⟨hP, hK, hD, hS, hA, hE⟩ (fun r u H locs hu hP hK hD hS => ?_)
      obtain ⟨rfl, rfl⟩ := hu
      have hP : va_P D zcl (mW g (mmk 1 (m_oct z) (m_pl z) (m_sz z) (m_sta z) (m_sin z) (m_rea z) (m_fnd z) (m_many z) (m_made z) (m_backs z) (m_lm z))) H := hP
      have hD : va_D A (mW g (mmk 1 (m_oct z) (m_pl z) (m_sz z) (m_sta z) (m_sin z) (m_rea z) (m_fnd z) (m_many z) (m_made z) (m_backs z) (m_lm z))) := hD
      have hK : va_K D zcl (mT g) s := hK
      refine lv_if_eq (tgt := 65) hx hb d_M_again_60 (by decide) (fun h9 => ?_) (fun h9 => ?_)
      · rw [zh_zb] at h9
        exact absurd h9 (by decide)
      refine lv_iconst (v := nI 0) hx hb d_M_again_63 (by decide) ?_
      exact W.iret hx hb hr (fun t ht hW => ⟨⟨_, (mu_err z 1), rfl, Or.inr ⟨hin, Or.inl ⟨1, ⟨hno1, Or.inr ⟨rfl, hno2⟩⟩, rfl⟩⟩, by rw [ht]; exact hP, va_K.moved hW.alike hK, hD⟩, hS.F ht⟩) hS.2.2 d_M_again_64
    refine lv_if_lt (tgt := 56) hx hb d_M_again_49 (by decide) (fun h9 => ?_) (fun h9 => ?_)
    · rw [show (0 : Int32) = nI 0 from rfl, nI_ltI (by omega) (by omega)] at h9
      exact absurd h9 (by omega)
    rw [show (0 : Int32) = nI 0 from rfl, nI_ltI (by omega) (by omega)] at h9
    refine lv_iconst (v := nI 2) hx hb d_M_again_52 (by decide) ?_
    refine lv_goto (tgt := 57) hx hb d_M_again_53 (by decide) ?_
    refine zci (zrV (n := 2) (As := [.int (zb true), .int (nI 2)]) (rest := []) ⟨hx, hb, hml, hown, hk⟩ (c_M_fails_ok l D t0 g (mmk 0 (m_oct z) (m_pl z) (m_sz z) (m_sta z) (m_sin z) (m_rea z) (m_fnd z) (m_many z) (m_made z) (m_backs z) (m_lm z)) H.size true 2) zk499 zk501 ks_M_fails zk5 kc_M_fails ⟨rfl, by decide, by decide, by decide⟩ rfl rfl ⟨Nat.le_of_ble_eq_true rfl, Nat.le_of_ble_eq_true rfl⟩ ⟨hP, hK, hD, hS, hA, hE⟩ (va_recv hK hP (ci := 2) (q0 := 0) rfl rfl) rfl hl.1 rfl (Nat.le_of_ble_eq_true rfl) d_M_again_57 ⟨Nat.le_of_ble_eq_true rfl, Nat.le_of_ble_eq_true rfl⟩) ⟨hP, hK, hD, hS, hA, hE⟩ (fun r u H locs hu hP hK hD hS => ?_)
    obtain ⟨rfl, rfl⟩ := hu
    have hP : va_P D zcl (mW g (mmk 2 (m_oct z) (m_pl z) (m_sz z) (m_sta z) (m_sin z) (m_rea z) (m_fnd z) (m_many z) (m_made z) (m_backs z) (m_lm z))) H := hP
    have hD : va_D A (mW g (mmk 2 (m_oct z) (m_pl z) (m_sz z) (m_sta z) (m_sin z) (m_rea z) (m_fnd z) (m_many z) (m_made z) (m_backs z) (m_lm z))) := hD
    have hK : va_K D zcl (mT g) s := hK
    refine lv_if_eq (tgt := 65) hx hb d_M_again_60 (by decide) (fun h9 => ?_) (fun h9 => ?_)
    · rw [zh_zb] at h9
      exact absurd h9 (by decide)
    refine lv_iconst (v := nI 0) hx hb d_M_again_63 (by decide) ?_
    exact W.iret hx hb hr (fun t ht hW => ⟨⟨_, (mu_err z 2), rfl, Or.inr ⟨hin, Or.inl ⟨2, ⟨hno1, Or.inl ⟨rfl, j2, hj2, hlv2⟩⟩, rfl⟩⟩, by rw [ht]; exact hP, va_K.moved hW.alike hK, hD⟩, hS.F ht⟩) hS.2.2 d_M_again_64
  refine lv_istore_n (lv' := [(3, .int (nI b)), (0, .ref (n_h g)), (1, .int v), (2, .int (nI n))]) hx hb d_M_again_32 rfl hl (by decide) rfl (fun ls hl => ?_)
  refine lv_aload_n hx hb d_M_again_33 rfl (lv_at hl 1 rfl) ?_
  refine lv_iload_n hx hb d_M_again_34 rfl (lv_at hl 0 rfl) ?_
  refine lv_if_ge (tgt := 42) hx hb d_M_again_35 (by decide) (fun h9 => ?_) (fun h9 => ?_)
  rotate_left 1
  · rw [show (0 : Int32) = nI 0 from rfl, nI_leI (by omega) (by omega)] at h9
    exact absurd h9 (by omega)
  rw [show (0 : Int32) = nI 0 from rfl, nI_leI (by omega) (by omega)] at h9
  refine lv_iconst (v := nI 0) hx hb d_M_again_42 (by decide) ?_
  refine zh_t (show nI 0 = zb false from rfl) ?_
  refine lv_aload_n hx hb d_M_again_43 rfl (lv_at hl 1 rfl) ?_
  refine lv_iload_n hx hb d_M_again_44 rfl (lv_at hl 2 rfl) ?_
  refine lv_iconst (v := nI 2) hx hb d_M_again_45 (by decide) ?_
  refine vp_callSi (zrV (n := 2) (As := [.int v, .int (nI 2)]) (rest := [.int (zb false), .ref (n_h g)]) ⟨hx, hb, hml, hown, hk⟩ (c_M_at_ok l D t0 g (mmk 0 (m_oct z) (m_pl z) (m_sz z) (m_sta z) (m_sin z) (m_rea z) (m_fnd z) (m_many z) (m_made z) (m_backs z) (m_lm z)) H.size v 2 (by decide) hz) zk518 zk520 ks_M_at zk5 kc_M_at ⟨rfl, by decide, by decide, by decide⟩ rfl rfl ⟨Nat.le_of_ble_eq_true rfl, Nat.le_of_ble_eq_true rfl⟩ ⟨hP, hK, hD, hS, hA, hE⟩ (va_recv hK hP (ci := 2) (q0 := 0) rfl rfl) rfl hl.1 rfl (Nat.le_of_ble_eq_true rfl) d_M_again_46 ⟨Nat.le_of_ble_eq_true rfl, Nat.le_of_ble_eq_true rfl⟩).run (fun r2 hr2 => ?_)
  have hr2 : zfst (mlive z v 2) (m_many z) r2 := hr2
  rcases hr2 with ⟨rfl, hno2⟩ | ⟨j2, hj2, rfl, hlv2, -⟩
  · refine lv_if_lt (tgt := 56) hx hb d_M_again_49 (by decide) (fun h9 => ?_) (fun h9 => ?_)
    rotate_left 1
    · exact absurd (by decide) h9
    refine lv_iconst (v := nI 1) hx hb d_M_again_56 (by decide) ?_
    refine zci (zrV (n := 2) (As := [.int (zb false), .int (nI 1)]) (rest := []) ⟨hx, hb, hml, hown, hk⟩ (c_M_fails_ok l D t0 g (mmk 0 (m_oct z) (m_pl z) (m_sz z) (m_sta z) (m_sin z) (m_rea z) (m_fnd z) (m_many z) (m_made z) (m_backs z) (m_lm z)) H.size false 1) zk499 zk501 ks_M_fails zk5 kc_M_fails ⟨rfl, by decide, by decide, by decide⟩ rfl rfl ⟨Nat.le_of_ble_eq_true rfl, Nat.le_of_ble_eq_true rfl⟩ ⟨hP, hK, hD, hS, hA, hE⟩ (va_recv hK hP (ci := 2) (q0 := 0) rfl rfl) rfl hl.1 rfl (Nat.le_of_ble_eq_true rfl) d_M_again_57 ⟨Nat.le_of_ble_eq_true rfl, Nat.le_of_ble_eq_true rfl⟩) ⟨hP, hK, hD, hS, hA, hE⟩ (fun r u H locs hu hP hK hD hS => ?_)
    obtain ⟨rfl, rfl⟩ := hu
    have hP : va_P D zcl (mW g (mmk 0 (m_oct z) (m_pl z) (m_sz z) (m_sta z) (m_sin z) (m_rea z) (m_fnd z) (m_many z) (m_made z) (m_backs z) (m_lm z))) H := hP
    have hD : va_D A (mW g (mmk 0 (m_oct z) (m_pl z) (m_sz z) (m_sta z) (m_sin z) (m_rea z) (m_fnd z) (m_many z) (m_made z) (m_backs z) (m_lm z))) := hD
    have hK : va_K D zcl (mT g) s := hK
    refine lv_if_eq (tgt := 65) hx hb d_M_again_60 (by decide) (fun h9 => ?_) (fun h9 => ?_)
    rotate_left 1
    · rw [zh_zb] at h9
      exact absurd rfl h9
    have hat := hz.at hb5
    have hpl : v = nI (m_pl z b) := hlv.1.symm
    refine lv_aload_n hx hb d_M_again_65 rfl (lv_at hl 1 rfl) ?_
    refine lv_iload_n hx hb d_M_again_66 rfl (lv_at hl 3 rfl) ?_
    refine zci (zrV (n := 1) (As := [.int (nI n)]) (rest := []) ⟨hx, hb, hml, hown, hk⟩ (c_M_make_ok l D t0 g (mmk 0 (m_oct z) (m_pl z) (m_sz z) (m_sta z) (m_sin z) (m_rea z) (m_fnd z) (m_many z) (m_made z) (m_backs z) (m_lm z)) H.size n hn hz) zk503 zk505 ks_M_make zk5 kc_M_make ⟨rfl, by decide, by decide, by decide⟩ rfl rfl ⟨Nat.le_of_ble_eq_true rfl, Nat.le_of_ble_eq_true rfl⟩ ⟨hP, hK, hD, hS, hA, hE⟩ (va_recv hK hP (ci := 2) (q0 := 0) rfl rfl) rfl hl.1 rfl (Nat.le_of_ble_eq_true rfl) d_M_again_67 ⟨Nat.le_of_ble_eq_true rfl, Nat.le_of_ble_eq_true rfl⟩) ⟨hP, hK, hD, hS, hA, hE⟩ (fun r u H locs hu hP hK hD hS => ?_)
    obtain ⟨k, hroom, rfl, hcase⟩ := hu
    have hroom : mroom z n k := hroom
    have hk512 : k ≤ 512 := by
      rcases hroom with ⟨e0, -⟩ | ⟨e1, e2, -, -⟩ <;> omega
    refine lv_istore (lv' := [(4, .int (nI (16 * k))), (3, .int (nI b)), (0, .ref (n_h g)), (1, .int v), (2, .int (nI n))]) hx hb d_M_again_70 hl (by decide) rfl (fun ls hl => ?_)
    refine lv_iload hx hb d_M_again_72 (lv_at hl 0 rfl) ?_
    refine lv_if_ne (tgt := 79) hx hb d_M_again_74 (by decide) (fun hk0 => ?_) (fun hk0 => ?_)
    rotate_left 1
    · rw [show (0 : Int32) = nI 0 from rfl, nI_eq (by omega) (by omega)] at hk0
      rcases hcase with ⟨-, hue⟩ | ⟨q, -⟩
      · rw [hue] at hP hD
        refine lv_iconst (v := nI 0) hx hb d_M_again_77 (by decide) ?_
        exact W.iret hx hb hr (fun t ht hW => ⟨⟨_, (mu_err z 0), rfl, Or.inr ⟨hin, Or.inr ⟨b, hb5, hlv, k, by rw [hvn]; exact hroom, by rw [show k = 0 by omega], Or.inl ⟨by omega, rfl⟩⟩⟩, by rw [ht]; exact hP, va_K.moved hW.alike hK, hD⟩, hS.F ht⟩) hS.2.2 d_M_again_78
      exact absurd (show k = 0 by omega) q
    rw [show (0 : Int32) = nI 0 from rfl, nI_eq (by omega) (by omega)] at hk0
    rcases hcase with ⟨q, -⟩ | ⟨hkn, hue⟩
    · exact absurd (show 16 * k = 0 by omega) hk0
    rw [hue] at hP hD
    have hP : va_P D zcl (mW g (mq_make (mu_err z 0) k n)) H := hP
    have hD : va_D A (mW g (mq_make (mu_err z 0) k n)) := hD
    have hK : va_K D zcl (mT g) s := hK
    have hmk : mOK (mq_make (mu_err z 0) k n) := mOK.make (z := mu_err z 0) hz hn hroom hkn
    obtain ⟨y, hye⟩ : ∃ q : MT, q = mq_make (mu_err z 0) k n := ⟨_, rfl⟩
    rw [← hye] at hP hD hmk
    have hP : va_P D zcl (mW g y) H := hP
    have hD : va_D A (mW g y) := hD
    have hK : va_K D zcl (mT g) s := hK
    have hyb : m_sz y b = m_sz z b := by rw [hye]; exact va_up_ne (k := m_many z) _ _ (by omega)
    have hypb : m_pl y b = m_pl z b := by rw [hye]; exact va_up_ne (k := m_many z) _ _ (by omega)
    have hymany : m_many y = m_many z + 1 := by rw [hye]; rfl
    have hyp : m_pl y (m_many z) = 16 * k := by rw [hye]; exact va_up_self _ _ _
    have hys : m_sz y (m_many z) = n := by rw [hye]; exact va_up_self _ _ _
    have hya := hmk.at (k := m_many z) (by omega)
    have hyo := hmk.1.2 b (m_many z) (by omega) (by omega) (by omega)
    have hyo : m_pl y b / 16 + zc (m_sz y b) + 1 ≤ m_pl y (m_many z) / 16 ∨ m_pl y (m_many z) / 16 + zc (m_sz y (m_many z)) + 1 ≤ m_pl y b / 16 := hyo
    have hyd := (hmk.2.1 b).1 (by omega)
    have hz1 := zc_ge (m_sz z b)
    have hz2 := zc_ge n
    rw [hyb, hypb, hyp, hys] at hyo
    rw [hypb] at hyd
    rw [hyp, hys] at hya
    subst hpl
    refine lv_iconst (v := nI 0) hx hb d_M_again_79 (by decide) ?_
    refine lv_istore (lv' := [(5, .int (nI 0)), (4, .int (nI (16 * k))), (3, .int (nI b)), (0, .ref (n_h g)), (1, .int (nI (m_pl z b))), (2, .int (nI n))]) hx hb d_M_again_80 hl (by decide) rfl (fun ls hl => ?_)
    refine zh_loopH (A := Nat) (fun q H locs ls => lv_has ls 6 [(0, .ref (n_h g)), (1, .int (nI (m_pl z b))), (2, .int (nI n)), (3, .int (nI b)), (4, .int (nI (16 * k))), (5, .int (nI q))] ∧ va_P D zcl (mW g (mq_cpy y (m_pl z b) (16 * k) q)) H ∧ va_K D zcl (mT g) s ∧ va_D A (mW g (mq_cpy y (m_pl z b) (16 * k) q)) ∧ va_S A s.heap H locs ∧ (q ≤ min n (m_sz z b))) (fun q => n - q) ?_ 0 ⟨lv_sub hl [3, 4, 5, 2, 1, 0] rfl, by rw [show mq_cpy y (m_pl z b) (16 * k) 0 = y from by unfold mq_cpy; rw [zcpy_0]; rfl]; exact hP, hK, by rw [show mq_cpy y (m_pl z b) (16 * k) 0 = y from by unfold mq_cpy; rw [zcpy_0]; rfl]; exact hD, hS, Nat.zero_le _⟩
    rintro j H locs ls ⟨hl, hP, hK, hD, hS, hj⟩ ih
    have hl : lv_has ls 6 [(0, .ref (n_h g)), (1, .int (nI (m_pl z b))), (2, .int (nI n)), (3, .int (nI b)), (4, .int (nI (16 * k))), (5, .int (nI j))] := hl
    have hP : va_P D zcl (mW g (mq_cpy y (m_pl z b) (16 * k) j)) H := hP
    have hK : va_K D zcl (mT g) s := hK
    have hD : va_D A (mW g (mq_cpy y (m_pl z b) (16 * k) j)) := hD
    have hj : j ≤ min n (m_sz z b) := hj
    have hj1 : j ≤ n ∧ j ≤ m_sz z b := by omega
    have hP : va_P D zcl (mW g (mmk (m_err y) (va_cpy (m_oct y) (m_oct y) (m_pl z b) (16 * k) j) (m_pl y) (m_sz y) (m_sta y) (m_sin y) (m_rea y) (m_fnd y) (m_many y) (m_made y) (m_backs y) (m_lm y))) H := hP
    have hD : va_D A (mW g (mmk (m_err y) (va_cpy (m_oct y) (m_oct y) (m_pl z b) (16 * k) j) (m_pl y) (m_sz y) (m_sta y) (m_sin y) (m_rea y) (m_fnd y) (m_many y) (m_made y) (m_backs y) (m_lm y))) := hD
    have hK : va_K D zcl (mT g) s := hK
    refine lv_iload hx hb d_M_again_82 (lv_at hl 5 rfl) ?_
    refine lv_iload_n hx hb d_M_again_84 rfl (lv_at hl 2 rfl) ?_
    refine lv_icmp_ge (tgt := 124) hx hb d_M_again_85 (by decide) (fun h8 => ?_) (fun h8 => ?_)
    · rw [nI_leI (by omega) (by omega)] at h8
      have hje : j = min n (m_sz z b) := by omega
      have hP : va_P D zcl (mW g (mq_cpy y (m_pl z b) (16 * k) j)) H := hP
      have hD : va_D A (mW g (mq_cpy y (m_pl z b) (16 * k) j)) := hD
      have hK : va_K D zcl (mT g) s := hK
      have hz8 : mOK (mq_cpy y (m_pl z b) (16 * k) j) := ⟨hmk.1, hmk.2.1, fun i => by show va_cpy (m_oct y) (m_oct y) (m_pl z b) (16 * k) j i < 256; unfold va_cpy; split <;> exact hmk.2.2.1 _, hmk.2.2.2.1, hmk.2.2.2.2⟩
      have hbk8 : m_backs (mq_cpy y (m_pl z b) (16 * k) j) + 1 < 100000 := by rw [hye]; exact hbk
      have hb8 : b < m_many (mq_cpy y (m_pl z b) (16 * k) j) := by rw [hye]; show b < m_many z + 1; omega
      refine lv_aload_n hx hb d_M_again_124 rfl (lv_at hl 0 rfl) ?_
      refine lv_iload_n hx hb d_M_again_125 rfl (lv_at hl 3 rfl) ?_
      refine zcv (zrV (n := 1) (As := [.int (nI b)]) (rest := []) ⟨hx, hb, hml, hown, hk⟩ (c_M_give_ok l D t0 g (mq_cpy y (m_pl z b) (16 * k) j) H.size b hb8 hz8 hbk8) zk522 zk524 ks_M_give zk5 kc_M_give ⟨rfl, by decide, by decide, by decide⟩ rfl rfl ⟨Nat.le_of_ble_eq_true rfl, Nat.le_of_ble_eq_true rfl⟩ ⟨hP, hK, hD, hS, hA, hE⟩ (va_recv hK hP (ci := 2) (q0 := 0) rfl rfl) rfl hl.1 rfl (Nat.le_of_ble_eq_true rfl) d_M_again_126 ⟨Nat.le_of_ble_eq_true rfl, Nat.le_of_ble_eq_true rfl⟩) ⟨hP, hK, hD, hS, hA, hE⟩ (fun u H locs hu hP hK hD hS => ?_)
      refine lv_iload hx hb d_M_again_129 (lv_at hl 4 rfl) ?_
      exact W.iret hx hb hr (fun t ht hW => ⟨⟨_, u, rfl, Or.inr ⟨hin, Or.inr ⟨b, hb5, hlv, k, by rw [hvn]; exact hroom, rfl, Or.inr ⟨hkn, by rw [hvn, ← hje, ← hye]; exact hu⟩⟩⟩, by rw [ht]; exact hP, va_K.moved hW.alike hK, hD⟩, hS.F ht⟩) hS.2.2 d_M_again_131
    rw [nI_leI (by omega) (by omega)] at h8
    refine lv_iload hx hb d_M_again_88 (lv_at hl 5 rfl) ?_
    refine lv_aload_n hx hb d_M_again_90 rfl (lv_at hl 0 rfl) ?_
    refine va_get (D := D) (ci := 2) (v := .ref (n_aS g)) (C := RM) (T := TM) (N := 12) hx hb hk inM hown hK hP 0 rfl rfl 3 (by decide) (hk _ zk456) (fun _ h9 => h9) rfl d_M_again_91 ?_
    refine lv_iload_n hx hb d_M_again_94 rfl (lv_at hl 3 rfl) ?_
    refine va_iald hx hb hK hP 3 2 rfl rfl (vp_in_nI (by omega) (by decide)) d_M_again_95 ?_
    refine zh_t (show nI (m_sz y (nI b).toNatClampNeg) = nI (m_sz y b) from by rw [nI_clamp (by omega)]) ?_
    refine zh_t (show nI (m_sz y b) = nI (m_sz z b) from by rw [hyb]) ?_
    refine lv_icmp_ge (tgt := 124) hx hb d_M_again_96 (by decide) (fun h7 => ?_) (fun h7 => ?_)
    · rw [nI_leI (by omega) (by omega)] at h7
      have hje : j = min n (m_sz z b) := by omega
      have hP : va_P D zcl (mW g (mq_cpy y (m_pl z b) (16 * k) j)) H := hP
      have hD : va_D A (mW g (mq_cpy y (m_pl z b) (16 * k) j)) := hD
      have hK : va_K D zcl (mT g) s := hK
      have hz8 : mOK (mq_cpy y (m_pl z b) (16 * k) j) := ⟨hmk.1, hmk.2.1, fun i => by show va_cpy (m_oct y) (m_oct y) (m_pl z b) (16 * k) j i < 256; unfold va_cpy; split <;> exact hmk.2.2.1 _, hmk.2.2.2.1, hmk.2.2.2.2⟩
      have hbk8 : m_backs (mq_cpy y (m_pl z b) (16 * k) j) + 1 < 100000 := by rw [hye]; exact hbk
      have hb8 : b < m_many (mq_cpy y (m_pl z b) (16 * k) j) := by rw [hye]; show b < m_many z + 1; omega
      refine lv_aload_n hx hb d_M_again_124 rfl (lv_at hl 0 rfl) ?_
      refine lv_iload_n hx hb d_M_again_125 rfl (lv_at hl 3 rfl) ?_
      refine zcv (zrV (n := 1) (As := [.int (nI b)]) (rest := []) ⟨hx, hb, hml, hown, hk⟩ (c_M_give_ok l D t0 g (mq_cpy y (m_pl z b) (16 * k) j) H.size b hb8 hz8 hbk8) zk522 zk524 ks_M_give zk5 kc_M_give ⟨rfl, by decide, by decide, by decide⟩ rfl rfl ⟨Nat.le_of_ble_eq_true rfl, Nat.le_of_ble_eq_true rfl⟩ ⟨hP, hK, hD, hS, hA, hE⟩ (va_recv hK hP (ci := 2) (q0 := 0) rfl rfl) rfl hl.1 rfl (Nat.le_of_ble_eq_true rfl) d_M_again_126 ⟨Nat.le_of_ble_eq_true rfl, Nat.le_of_ble_eq_true rfl⟩) ⟨hP, hK, hD, hS, hA, hE⟩ (fun u H locs hu hP hK hD hS => ?_)
      refine lv_iload hx hb d_M_again_129 (lv_at hl 4 rfl) ?_
      exact W.iret hx hb hr (fun t ht hW => ⟨⟨_, u, rfl, Or.inr ⟨hin, Or.inr ⟨b, hb5, hlv, k, by rw [hvn]; exact hroom, rfl, Or.inr ⟨hkn, by rw [hvn, ← hje, ← hye]; exact hu⟩⟩⟩, by rw [ht]; exact hP, va_K.moved hW.alike hK, hD⟩, hS.F ht⟩) hS.2.2 d_M_again_131
    rw [nI_leI (by omega) (by omega)] at h7
    refine lv_aload_n hx hb d_M_again_99 rfl (lv_at hl 0 rfl) ?_
    refine va_get (D := D) (ci := 2) (v := .ref (n_aO g)) (C := RM) (T := TM) (N := 12) hx hb hk inM hown hK hP 0 rfl rfl 1 (by decide) (hk _ zk454) (fun _ h9 => h9) rfl d_M_again_100 ?_
    refine lv_iload hx hb d_M_again_103 (lv_at hl 4 rfl) ?_
    refine lv_iload hx hb d_M_again_105 (lv_at hl 5 rfl) ?_
    refine lv_iadd hx hb d_M_again_107 ?_
    refine zh_t (show (nI (16 * k) + nI j) = nI ((16 * k) + j) from nI_add _ _) ?_
    refine lv_aload_n hx hb d_M_again_108 rfl (lv_at hl 0 rfl) ?_
    refine va_get (D := D) (ci := 2) (v := .ref (n_aO g)) (C := RM) (T := TM) (N := 12) hx hb hk inM hown hK hP 0 rfl rfl 1 (by decide) (hk _ zk454) (fun _ h9 => h9) rfl d_M_again_109 ?_
    refine lv_iload_n hx hb d_M_again_112 rfl (lv_at hl 1 rfl) ?_
    refine lv_iload hx hb d_M_again_113 (lv_at hl 5 rfl) ?_
    refine lv_iadd hx hb d_M_again_115 ?_
    refine zh_t (show (nI (m_pl z b) + nI j) = nI (m_pl z b + j) from nI_add _ _) ?_
    refine va_iald hx hb hK hP 1 0 rfl rfl (vp_in_nI (by omega) (by decide)) d_M_again_116 ?_
    refine zh_t (show nI ((va_cpy (m_oct y) (m_oct y) (m_pl z b) (16 * k) j) (nI (m_pl z b + j)).toNatClampNeg) = nI ((va_cpy (m_oct y) (m_oct y) (m_pl z b) (16 * k) j) (m_pl z b + j)) from by rw [nI_clamp (by omega)]) ?_
    refine va_iast hx hb hK hP hD hS 1 0 rfl rfl (vp_in_nI (by omega) (by decide)) d_M_again_117 (fun H locs hP hD hS => ?_)
    rw [zh_upd (by omega)] at hP hD
    have hP : va_P D zcl (mW g (mmk (m_err y) (va_up (va_cpy (m_oct y) (m_oct y) (m_pl z b) (16 * k) j) ((16 * k) + j) ((va_cpy (m_oct y) (m_oct y) (m_pl z b) (16 * k) j) (m_pl z b + j))) (m_pl y) (m_sz y) (m_sta y) (m_sin y) (m_rea y) (m_fnd y) (m_many y) (m_made y) (m_backs y) (m_lm y))) H := hP
    have hD : va_D A (mW g (mmk (m_err y) (va_up (va_cpy (m_oct y) (m_oct y) (m_pl z b) (16 * k) j) ((16 * k) + j) ((va_cpy (m_oct y) (m_oct y) (m_pl z b) (16 * k) j) (m_pl z b + j))) (m_pl y) (m_sz y) (m_sta y) (m_sin y) (m_rea y) (m_fnd y) (m_many y) (m_made y) (m_backs y) (m_lm y))) := hD
    rw [show va_up (va_cpy (m_oct y) (m_oct y) (m_pl z b) (16 * k) j) (16 * k + j) (va_cpy (m_oct y) (m_oct y) (m_pl z b) (16 * k) j (m_pl z b + j)) = va_cpy (m_oct y) (m_oct y) (m_pl z b) (16 * k) (j + 1) from zcpy_s (by omega)] at hP hD
    have hP : va_P D zcl (mW g (mq_cpy y (m_pl z b) (16 * k) (j + 1))) H := hP
    have hD : va_D A (mW g (mq_cpy y (m_pl z b) (16 * k) (j + 1))) := hD
    have hK : va_K D zcl (mT g) s := hK
    refine lv_iinc (lv' := [(5, .int (nI (j + 1))), (0, .ref (n_h g)), (1, .int (nI (m_pl z b))), (2, .int (nI n)), (3, .int (nI b)), (4, .int (nI (16 * k)))]) (v := nI (j + 1)) hx hb d_M_again_118 hl (k := 5) rfl (nI_add _ _) (by decide) rfl (fun ls hl => ?_)
    refine lv_goto (tgt := 82) hx hb d_M_again_121 (by decide) ?_
    exact ih (j + 1) H locs ls ⟨lv_sub hl [1, 2, 3, 4, 5, 0] rfl, hP, hK, hD, hS, by omega⟩ (by show _ < _; (try dsimp only); omega)
  refine lv_if_lt (tgt := 56) hx hb d_M_again_49 (by decide) (fun h9 => ?_) (fun h9 => ?_)
  · rw [show (0 : Int32) = nI 0 from rfl, nI_ltI (by omega) (by omega)] at h9
    exact absurd h9 (by omega)
  rw [show (0 : Int32) = nI 0 from rfl, nI_ltI (by omega) (by omega)] at h9
  refine lv_iconst (v := nI 2) hx hb d_M_again_52 (by decide) ?_
  refine lv_goto (tgt := 57) hx hb d_M_again_53 (by decide) ?_
  refine zci (zrV (n := 2) (As := [.int (zb false), .int (nI 2)]) (rest := []) ⟨hx, hb, hml, hown, hk⟩ (c_M_fails_ok l D t0 g (mmk 0 (m_oct z) (m_pl z) (m_sz z) (m_sta z) (m_sin z) (m_rea z) (m_fnd z) (m_many z) (m_made z) (m_backs z) (m_lm z)) H.size false 2) zk499 zk501 ks_M_fails zk5 kc_M_fails ⟨rfl, by decide, by decide, by decide⟩ rfl rfl ⟨Nat.le_of_ble_eq_true rfl, Nat.le_of_ble_eq_true rfl⟩ ⟨hP, hK, hD, hS, hA, hE⟩ (va_recv hK hP (ci := 2) (q0 := 0) rfl rfl) rfl hl.1 rfl (Nat.le_of_ble_eq_true rfl) d_M_again_57 ⟨Nat.le_of_ble_eq_true rfl, Nat.le_of_ble_eq_true rfl⟩) ⟨hP, hK, hD, hS, hA, hE⟩ (fun r u H locs hu hP hK hD hS => ?_)
  obtain ⟨rfl, rfl⟩ := hu
  have hP : va_P D zcl (mW g (mmk 0 (m_oct z) (m_pl z) (m_sz z) (m_sta z) (m_sin z) (m_rea z) (m_fnd z) (m_many z) (m_made z) (m_backs z) (m_lm z))) H := hP
  have hD : va_D A (mW g (mmk 0 (m_oct z) (m_pl z) (m_sz z) (m_sta z) (m_sin z) (m_rea z) (m_fnd z) (m_many z) (m_made z) (m_backs z) (m_lm z))) := hD
  have hK : va_K D zcl (mT g) s := hK
  refine lv_if_eq (tgt := 65) hx hb d_M_again_60 (by decide) (fun h9 => ?_) (fun h9 => ?_)
  rotate_left 1
  · rw [zh_zb] at h9
    exact absurd rfl h9
  have hat := hz.at hb5
  have hpl : v = nI (m_pl z b) := hlv.1.symm
  refine lv_aload_n hx hb d_M_again_65 rfl (lv_at hl 1 rfl) ?_
  refine lv_iload_n hx hb d_M_again_66 rfl (lv_at hl 3 rfl) ?_
  refine zci (zrV (n := 1) (As := [.int (nI n)]) (rest := []) ⟨hx, hb, hml, hown, hk⟩ (c_M_make_ok l D t0 g (mmk 0 (m_oct z) (m_pl z) (m_sz z) (m_sta z) (m_sin z) (m_rea z) (m_fnd z) (m_many z) (m_made z) (m_backs z) (m_lm z)) H.size n hn hz) zk503 zk505 ks_M_make zk5 kc_M_make ⟨rfl, by decide, by decide, by decide⟩ rfl rfl ⟨Nat.le_of_ble_eq_true rfl, Nat.le_of_ble_eq_true rfl⟩ ⟨hP, hK, hD, hS, hA, hE⟩ (va_recv hK hP (ci := 2) (q0 := 0) rfl rfl) rfl hl.1 rfl (Nat.le_of_ble_eq_true rfl) d_M_again_67 ⟨Nat.le_of_ble_eq_true rfl, Nat.le_of_ble_eq_true rfl⟩) ⟨hP, hK, hD, hS, hA, hE⟩ (fun r u H locs hu hP hK hD hS => ?_)
  obtain ⟨k, hroom, rfl, hcase⟩ := hu
  have hroom : mroom z n k := hroom
  have hk512 : k ≤ 512 := by
    rcases hroom with ⟨e0, -⟩ | ⟨e1, e2, -, -⟩ <;> omega
  refine lv_istore (lv' := [(4, .int (nI (16 * k))), (3, .int (nI b)), (0, .ref (n_h g)), (1, .int v), (2, .int (nI n))]) hx hb d_M_again_70 hl (by decide) rfl (fun ls hl => ?_)
  refine lv_iload hx hb d_M_again_72 (lv_at hl 0 rfl) ?_
  refine lv_if_ne (tgt := 79) hx hb d_M_again_74 (by decide) (fun hk0 => ?_) (fun hk0 => ?_)
  rotate_left 1
  · rw [show (0 : Int32) = nI 0 from rfl, nI_eq (by omega) (by omega)] at hk0
    rcases hcase with ⟨-, hue⟩ | ⟨q, -⟩
    · rw [hue] at hP hD
      refine lv_iconst (v := nI 0) hx hb d_M_again_77 (by decide) ?_
      exact W.iret hx hb hr (fun t ht hW => ⟨⟨_, (mu_err z 0), rfl, Or.inr ⟨hin, Or.inr ⟨b, hb5, hlv, k, by rw [hvn]; exact hroom, by rw [show k = 0 by omega], Or.inl ⟨by omega, rfl⟩⟩⟩, by rw [ht]; exact hP, va_K.moved hW.alike hK, hD⟩, hS.F ht⟩) hS.2.2 d_M_again_78
    exact absurd (show k = 0 by omega) q
  rw [show (0 : Int32) = nI 0 from rfl, nI_eq (by omega) (by omega)] at hk0
  rcases hcase with ⟨q, -⟩ | ⟨hkn, hue⟩
  · exact absurd (show 16 * k = 0 by omega) hk0
  rw [hue] at hP hD
  have hP : va_P D zcl (mW g (mq_make (mu_err z 0) k n)) H := hP
  have hD : va_D A (mW g (mq_make (mu_err z 0) k n)) := hD
  have hK : va_K D zcl (mT g) s := hK
  have hmk : mOK (mq_make (mu_err z 0) k n) := mOK.make (z := mu_err z 0) hz hn hroom hkn
  obtain ⟨y, hye⟩ : ∃ q : MT, q = mq_make (mu_err z 0) k n := ⟨_, rfl⟩
  rw [← hye] at hP hD hmk
  have hP : va_P D zcl (mW g y) H := hP
  have hD : va_D A (mW g y) := hD
  have hK : va_K D zcl (mT g) s := hK
  have hyb : m_sz y b = m_sz z b := by rw [hye]; exact va_up_ne (k := m_many z) _ _ (by omega)
  have hypb : m_pl y b = m_pl z b := by rw [hye]; exact va_up_ne (k := m_many z) _ _ (by omega)
  have hymany : m_many y = m_many z + 1 := by rw [hye]; rfl
  have hyp : m_pl y (m_many z) = 16 * k := by rw [hye]; exact va_up_self _ _ _
  have hys : m_sz y (m_many z) = n := by rw [hye]; exact va_up_self _ _ _
  have hya := hmk.at (k := m_many z) (by omega)
  have hyo := hmk.1.2 b (m_many z) (by omega) (by omega) (by omega)
  have hyo : m_pl y b / 16 + zc (m_sz y b) + 1 ≤ m_pl y (m_many z) / 16 ∨ m_pl y (m_many z) / 16 + zc (m_sz y (m_many z)) + 1 ≤ m_pl y b / 16 := hyo
  have hyd := (hmk.2.1 b).1 (by omega)
  have hz1 := zc_ge (m_sz z b)
  have hz2 := zc_ge n
  rw [hyb, hypb, hyp, hys] at hyo
  rw [hypb] at hyd
  rw [hyp, hys] at hya
  subst hpl
  refine lv_iconst (v := nI 0) hx hb d_M_again_79 (by decide) ?_
  refine lv_istore (lv' := [(5, .int (nI 0)), (4, .int (nI (16 * k))), (3, .int (nI b)), (0, .ref (n_h g)), (1, .int (nI (m_pl z b))), (2, .int (nI n))]) hx hb d_M_again_80 hl (by decide) rfl (fun ls hl => ?_)
  refine zh_loopH (A := Nat) (fun q H locs ls => lv_has ls 6 [(0, .ref (n_h g)), (1, .int (nI (m_pl z b))), (2, .int (nI n)), (3, .int (nI b)), (4, .int (nI (16 * k))), (5, .int (nI q))] ∧ va_P D zcl (mW g (mq_cpy y (m_pl z b) (16 * k) q)) H ∧ va_K D zcl (mT g) s ∧ va_D A (mW g (mq_cpy y (m_pl z b) (16 * k) q)) ∧ va_S A s.heap H locs ∧ (q ≤ min n (m_sz z b))) (fun q => n - q) ?_ 0 ⟨lv_sub hl [3, 4, 5, 2, 1, 0] rfl, by rw [show mq_cpy y (m_pl z b) (16 * k) 0 = y from by unfold mq_cpy; rw [zcpy_0]; rfl]; exact hP, hK, by rw [show mq_cpy y (m_pl z b) (16 * k) 0 = y from by unfold mq_cpy; rw [zcpy_0]; rfl]; exact hD, hS, Nat.zero_le _⟩
  rintro j H locs ls ⟨hl, hP, hK, hD, hS, hj⟩ ih
  have hl : lv_has ls 6 [(0, .ref (n_h g)), (1, .int (nI (m_pl z b))), (2, .int (nI n)), (3, .int (nI b)), (4, .int (nI (16 * k))), (5, .int (nI j))] := hl
  have hP : va_P D zcl (mW g (mq_cpy y (m_pl z b) (16 * k) j)) H := hP
  have hK : va_K D zcl (mT g) s := hK
  have hD : va_D A (mW g (mq_cpy y (m_pl z b) (16 * k) j)) := hD
  have hj : j ≤ min n (m_sz z b) := hj
  have hj1 : j ≤ n ∧ j ≤ m_sz z b := by omega
  have hP : va_P D zcl (mW g (mmk (m_err y) (va_cpy (m_oct y) (m_oct y) (m_pl z b) (16 * k) j) (m_pl y) (m_sz y) (m_sta y) (m_sin y) (m_rea y) (m_fnd y) (m_many y) (m_made y) (m_backs y) (m_lm y))) H := hP
  have hD : va_D A (mW g (mmk (m_err y) (va_cpy (m_oct y) (m_oct y) (m_pl z b) (16 * k) j) (m_pl y) (m_sz y) (m_sta y) (m_sin y) (m_rea y) (m_fnd y) (m_many y) (m_made y) (m_backs y) (m_lm y))) := hD
  have hK : va_K D zcl (mT g) s := hK
  refine lv_iload hx hb d_M_again_82 (lv_at hl 5 rfl) ?_
  refine lv_iload_n hx hb d_M_again_84 rfl (lv_at hl 2 rfl) ?_
  refine lv_icmp_ge (tgt := 124) hx hb d_M_again_85 (by decide) (fun h8 => ?_) (fun h8 => ?_)
  · rw [nI_leI (by omega) (by omega)] at h8
    have hje : j = min n (m_sz z b) := by omega
    have hP : va_P D zcl (mW g (mq_cpy y (m_pl z b) (16 * k) j)) H := hP
    have hD : va_D A (mW g (mq_cpy y (m_pl z b) (16 * k) j)) := hD
    have hK : va_K D zcl (mT g) s := hK
    have hz8 : mOK (mq_cpy y (m_pl z b) (16 * k) j) := ⟨hmk.1, hmk.2.1, fun i => by show va_cpy (m_oct y) (m_oct y) (m_pl z b) (16 * k) j i < 256; unfold va_cpy; split <;> exact hmk.2.2.1 _, hmk.2.2.2.1, hmk.2.2.2.2⟩
    have hbk8 : m_backs (mq_cpy y (m_pl z b) (16 * k) j) + 1 < 100000 := by rw [hye]; exact hbk
    have hb8 : b < m_many (mq_cpy y (m_pl z b) (16 * k) j) := by rw [hye]; show b < m_many z + 1; omega
    refine lv_aload_n hx hb d_M_again_124 rfl (lv_at hl 0 rfl) ?_
    refine lv_iload_n hx hb d_M_again_125 rfl (lv_at hl 3 rfl) ?_
    refine zcv (zrV (n := 1) (As := [.int (nI b)]) (rest := []) ⟨hx, hb, hml, hown, hk⟩ (c_M_give_ok l D t0 g (mq_cpy y (m_pl z b) (16 * k) j) H.size b hb8 hz8 hbk8) zk522 zk524 ks_M_give zk5 kc_M_give ⟨rfl, by decide, by decide, by decide⟩ rfl rfl ⟨Nat.le_of_ble_eq_true rfl, Nat.le_of_ble_eq_true rfl⟩ ⟨hP, hK, hD, hS, hA, hE⟩ (va_recv hK hP (ci := 2) (q0 := 0) rfl rfl) rfl hl.1 rfl (Nat.le_of_ble_eq_true rfl) d_M_again_126 ⟨Nat.le_of_ble_eq_true rfl, Nat.le_of_ble_eq_true rfl⟩) ⟨hP, hK, hD, hS, hA, hE⟩ (fun u H locs hu hP hK hD hS => ?_)
    refine lv_iload hx hb d_M_again_129 (lv_at hl 4 rfl) ?_
    exact W.iret hx hb hr (fun t ht hW => ⟨⟨_, u, rfl, Or.inr ⟨hin, Or.inr ⟨b, hb5, hlv, k, by rw [hvn]; exact hroom, rfl, Or.inr ⟨hkn, by rw [hvn, ← hje, ← hye]; exact hu⟩⟩⟩, by rw [ht]; exact hP, va_K.moved hW.alike hK, hD⟩, hS.F ht⟩) hS.2.2 d_M_again_131
  rw [nI_leI (by omega) (by omega)] at h8
  refine lv_iload hx hb d_M_again_88 (lv_at hl 5 rfl) ?_
  refine lv_aload_n hx hb d_M_again_90 rfl (lv_at hl 0 rfl) ?_
  refine va_get (D := D) (ci := 2) (v := .ref (n_aS g)) (C := RM) (T := TM) (N := 12) hx hb hk inM hown hK hP 0 rfl rfl 3 (by decide) (hk _ zk456) (fun _ h9 => h9) rfl d_M_again_91 ?_
  refine lv_iload_n hx hb d_M_again_94 rfl (lv_at hl 3 rfl) ?_
  refine va_iald hx hb hK hP 3 2 rfl rfl (vp_in_nI (by omega) (by decide)) d_M_again_95 ?_
  refine zh_t (show nI (m_sz y (nI b).toNatClampNeg) = nI (m_sz y b) from by rw [nI_clamp (by omega)]) ?_
  refine zh_t (show nI (m_sz y b) = nI (m_sz z b) from by rw [hyb]) ?_
  refine lv_icmp_ge (tgt := 124) hx hb d_M_again_96 (by decide) (fun h7 => ?_) (fun h7 => ?_)
  · rw [nI_leI (by omega) (by omega)] at h7
    have hje : j = min n (m_sz z b) := by omega
    have hP : va_P D zcl (mW g (mq_cpy y (m_pl z b) (16 * k) j)) H := hP
    have hD : va_D A (mW g (mq_cpy y (m_pl z b) (16 * k) j)) := hD
    have hK : va_K D zcl (mT g) s := hK
    have hz8 : mOK (mq_cpy y (m_pl z b) (16 * k) j) := ⟨hmk.1, hmk.2.1, fun i => by show va_cpy (m_oct y) (m_oct y) (m_pl z b) (16 * k) j i < 256; unfold va_cpy; split <;> exact hmk.2.2.1 _, hmk.2.2.2.1, hmk.2.2.2.2⟩
    have hbk8 : m_backs (mq_cpy y (m_pl z b) (16 * k) j) + 1 < 100000 := by rw [hye]; exact hbk
    have hb8 : b < m_many (mq_cpy y (m_pl z b) (16 * k) j) := by rw [hye]; show b < m_many z + 1; omega
    refine lv_aload_n hx hb d_M_again_124 rfl (lv_at hl 0 rfl) ?_
    refine lv_iload_n hx hb d_M_again_125 rfl (lv_at hl 3 rfl) ?_
    refine zcv (zrV (n := 1) (As := [.int (nI b)]) (rest := []) ⟨hx, hb, hml, hown, hk⟩ (c_M_give_ok l D t0 g (mq_cpy y (m_pl z b) (16 * k) j) H.size b hb8 hz8 hbk8) zk522 zk524 ks_M_give zk5 kc_M_give ⟨rfl, by decide, by decide, by decide⟩ rfl rfl ⟨Nat.le_of_ble_eq_true rfl, Nat.le_of_ble_eq_true rfl⟩ ⟨hP, hK, hD, hS, hA, hE⟩ (va_recv hK hP (ci := 2) (q0 := 0) rfl rfl) rfl hl.1 rfl (Nat.le_of_ble_eq_true rfl) d_M_again_126 ⟨Nat.le_of_ble_eq_true rfl, Nat.le_of_ble_eq_true rfl⟩) ⟨hP, hK, hD, hS, hA, hE⟩ (fun u H locs hu hP hK hD hS => ?_)
    refine lv_iload hx hb d_M_again_129 (lv_at hl 4 rfl) ?_
    exact W.iret hx hb hr (fun t ht hW => ⟨⟨_, u, rfl, Or.inr ⟨hin, Or.inr ⟨b, hb5, hlv, k, by rw [hvn]; exact hroom, rfl, Or.inr ⟨hkn, by rw [hvn, ← hje, ← hye]; exact hu⟩⟩⟩, by rw [ht]; exact hP, va_K.moved hW.alike hK, hD⟩, hS.F ht⟩) hS.2.2 d_M_again_131
  rw [nI_leI (by omega) (by omega)] at h7
  refine lv_aload_n hx hb d_M_again_99 rfl (lv_at hl 0 rfl) ?_
  refine va_get (D := D) (ci := 2) (v := .ref (n_aO g)) (C := RM) (T := TM) (N := 12) hx hb hk inM hown hK hP 0 rfl rfl 1 (by decide) (hk _ zk454) (fun _ h9 => h9) rfl d_M_again_100 ?_
  refine lv_iload hx hb d_M_again_103 (lv_at hl 4 rfl) ?_
  refine lv_iload hx hb d_M_again_105 (lv_at hl 5 rfl) ?_
  refine lv_iadd hx hb d_M_again_107 ?_
  refine zh_t (show (nI (16 * k) + nI j) = nI ((16 * k) + j) from nI_add _ _) ?_
  refine lv_aload_n hx hb d_M_again_108 rfl (lv_at hl 0 rfl) ?_
  refine va_get (D := D) (ci := 2) (v := .ref (n_aO g)) (C := RM) (T := TM) (N := 12) hx hb hk inM hown hK hP 0 rfl rfl 1 (by decide) (hk _ zk454) (fun _ h9 => h9) rfl d_M_again_109 ?_
  refine lv_iload_n hx hb d_M_again_112 rfl (lv_at hl 1 rfl) ?_
  refine lv_iload hx hb d_M_again_113 (lv_at hl 5 rfl) ?_
  refine lv_iadd hx hb d_M_again_115 ?_
  refine zh_t (show (nI (m_pl z b) + nI j) = nI (m_pl z b + j) from nI_add _ _) ?_
  refine va_iald hx hb hK hP 1 0 rfl rfl (vp_in_nI (by omega) (by decide)) d_M_again_116 ?_
  refine zh_t (show nI ((va_cpy (m_oct y) (m_oct y) (m_pl z b) (16 * k) j) (nI (m_pl z b + j)).toNatClampNeg) = nI ((va_cpy (m_oct y) (m_oct y) (m_pl z b) (16 * k) j) (m_pl z b + j)) from by rw [nI_clamp (by omega)]) ?_
  refine va_iast hx hb hK hP hD hS 1 0 rfl rfl (vp_in_nI (by omega) (by decide)) d_M_again_117 (fun H locs hP hD hS => ?_)
  rw [zh_upd (by omega)] at hP hD
  have hP : va_P D zcl (mW g (mmk (m_err y) (va_up (va_cpy (m_oct y) (m_oct y) (m_pl z b) (16 * k) j) ((16 * k) + j) ((va_cpy (m_oct y) (m_oct y) (m_pl z b) (16 * k) j) (m_pl z b + j))) (m_pl y) (m_sz y) (m_sta y) (m_sin y) (m_rea y) (m_fnd y) (m_many y) (m_made y) (m_backs y) (m_lm y))) H := hP
  have hD : va_D A (mW g (mmk (m_err y) (va_up (va_cpy (m_oct y) (m_oct y) (m_pl z b) (16 * k) j) ((16 * k) + j) ((va_cpy (m_oct y) (m_oct y) (m_pl z b) (16 * k) j) (m_pl z b + j))) (m_pl y) (m_sz y) (m_sta y) (m_sin y) (m_rea y) (m_fnd y) (m_many y) (m_made y) (m_backs y) (m_lm y))) := hD
  rw [show va_up (va_cpy (m_oct y) (m_oct y) (m_pl z b) (16 * k) j) (16 * k + j) (va_cpy (m_oct y) (m_oct y) (m_pl z b) (16 * k) j (m_pl z b + j)) = va_cpy (m_oct y) (m_oct y) (m_pl z b) (16 * k) (j + 1) from zcpy_s (by omega)] at hP hD
  have hP : va_P D zcl (mW g (mq_cpy y (m_pl z b) (16 * k) (j + 1))) H := hP
  have hD : va_D A (mW g (mq_cpy y (m_pl z b) (16 * k) (j + 1))) := hD
  have hK : va_K D zcl (mT g) s := hK
  refine lv_iinc (lv' := [(5, .int (nI (j + 1))), (0, .ref (n_h g)), (1, .int (nI (m_pl z b))), (2, .int (nI n)), (3, .int (nI b)), (4, .int (nI (16 * k)))]) (v := nI (j + 1)) hx hb d_M_again_118 hl (k := 5) rfl (nI_add _ _) (by decide) rfl (fun ls hl => ?_)
  refine lv_goto (tgt := 82) hx hb d_M_again_121 (by decide) ?_
  exact ih (j + 1) H locs ls ⟨lv_sub hl [1, 2, 3, 4, 5, 0] rfl, hP, hK, hD, hS, by omega⟩ (by show _ < _; (try dsimp only); omega)
