def mlv (z : MT) (i : Nat) : Nat := zsum (fun k => if m_sta z k = 1 then 1 else 0) i
def mlo (z : MT) (i : Nat) : Nat := zsum (fun k => if m_sta z k = 1 then m_sz z k else 0) i
theorem mlv_le {z : MT} {i : Nat} : mlv z i ≤ i := by
  have := zsum_mono (f := fun k => if m_sta z k = 1 then 1 else 0) (g := fun _ => 1) (n := i) (fun k _ => by
    show (if m_sta z k = 1 then 1 else 0) ≤ 1
    split <;> omega)
  rw [zsum_const] at this
  have h : mlv z i ≤ i * 1 := this
  omega
def mcount (z : MT) (x : Nat) : Nat := if x = 0 then mlv z (m_many z) else if x = 1 then mlo z (m_many z) else if x = 2 then m_many z - mlv z (m_many z) else if x = 3 then mkept z else m_made z
set_option maxHeartbeats 1000000 in
set_option maxRecDepth 100000 in
theorem c_M_count_ok (l : Launch) (D : va_G) (t0 : Nat) (g : MG) (z : MT) (sz : Nat) (v : Int32) (hz : mOK z) : Met l y_M_count w_M_count ({ frames := 1, cells := 0, slots := 0, locals := 40 }) (zPre D t0 (mT g) (mW g z) sz [.ref (n_h g), .int v]) (va_Qi (fun r u => (¬ (0 ≤ v.toInt ∧ v.toInt ≤ 4) ∧ u = mu_err z 1) ∨ ((0 ≤ v.toInt ∧ v.toInt ≤ 4) ∧ u = mu_err z 0 ∧ r = nI (mcount z v.toInt.toNat))) (fun (u : MT) t => zPost D (mT g) (va_A (mW g z) sz) (mW g u) t) (va_A (mW g z) sz)) 0 0 (va_A (mW g z) sz) := by
  refine Met.ofW (cc := c_M_count) (maxL := 5) (ret := (some .int)) (by decide) rfl ?_
  intro p e s m args below meth c s₁ B hml hv
  obtain ⟨rfl, hsz, hP, hK, hD0, hE⟩ := hv
  have hx := B.exec
  have hb := B.bytes
  have hr := B.returns
  have hts := atoms_spec (ws := w_M_count) B.pre
  have hk : ∀ w ∈ zB, w.before _ s = true := fun w h => hts w (List.mem_cons_of_mem _ h)
  have hown : s.vm.findClass "ZoneHeapModel" = some m.cls := findClass_of_methodNamed B.named
  have hlocks := B.notSynchronized
  subst hsz
  have hD := hD0.self (sz := s.heap.size)
  generalize hAe : va_A (mW g z) s.heap.size = A at hD hE ⊢
  have hA : ∀ q : Nat, s.heap.size ≤ q → A q := fun q h => by rw [← hAe]; exact Or.inr h
  have hS : va_S A s.heap s.heap [] := va_S.rf
  have hl := lv_entry ([.ref (n_h g), .int v]) (n := 5) (Nat.le_of_ble_eq_true rfl)
  rw [lg_entry_eq]
  generalize (lg_sl ([.ref (n_h g), .int v]) ++ List.replicate (5 - (lg_sl ([.ref (n_h g), .int v])).length) Slot.unset).toArray = ls at hl ⊢
  have hl : lv_has ls 5 [(0, .ref (n_h g)), (1, .int v)] := hl
  have hm := hz.many
  refine lv_aload_n hx hb d_M_count_0 rfl (lv_at hl 0 rfl) ?_
  refine lv_iload_n hx hb d_M_count_1 rfl (lv_at hl 1 rfl) ?_
  refine lv_if_lt (tgt := 10) hx hb d_M_count_2 (by decide) (fun h => ?_) (fun h => ?_)
  · refine lv_iconst (v := nI 1) hx hb d_M_count_10 (by decide) ?_
    refine zh_t (show nI 1 = zb true from rfl) ?_
    refine lv_goto (tgt := 15) hx hb d_M_count_11 (by decide) ?_
    refine lv_iconst (v := nI 1) hx hb d_M_count_15 (by decide) ?_
    refine zci (zrV (n := 2) (As := [.int (zb true), .int (nI 1)]) (rest := []) ⟨hx, hb, hml, hown, hk⟩ (c_M_fails_ok l D t0 g z s.heap.size true 1) zk499 zk501 ks_M_fails zk5 kc_M_fails ⟨rfl, by decide, by decide, by decide⟩ rfl rfl ⟨Nat.le_of_ble_eq_true rfl, Nat.le_of_ble_eq_true rfl⟩ ⟨hP, hK, hD, hS, hA, hE⟩ (va_recv hK hP (ci := 2) (q0 := 0) rfl rfl) rfl hl.1 rfl (Nat.le_of_ble_eq_true rfl) d_M_count_16 ⟨Nat.le_of_ble_eq_true rfl, Nat.le_of_ble_eq_true rfl⟩) ⟨hP, hK, hD, hS, hA, hE⟩ (fun r u H locs hu hP hK hD hS => ?_)
    obtain ⟨rfl, rfl⟩ := hu
    have hP : va_P D zcl (mW g (mmk 1 (m_oct z) (m_pl z) (m_sz z) (m_sta z) (m_sin z) (m_rea z) (m_fnd z) (m_many z) (m_made z) (m_backs z) (m_lm z))) H := hP
    have hD : va_D A (mW g (mmk 1 (m_oct z) (m_pl z) (m_sz z) (m_sta z) (m_sin z) (m_rea z) (m_fnd z) (m_many z) (m_made z) (m_backs z) (m_lm z))) := hD
    have hK : va_K D zcl (mT g) s := hK
    refine lv_if_eq (tgt := 24) hx hb d_M_count_19 (by decide) (fun h9 => ?_) (fun h9 => ?_)
    · rw [zh_zb] at h9
      exact absurd h9 (by decide)
    refine lv_iconst (v := nI 0) hx hb d_M_count_22 (by decide) ?_
    exact W.iret hx hb hr (fun t ht hW => ⟨⟨_, (mu_err z 1), rfl, Or.inl ⟨by have := zi_lt0 h; omega, rfl⟩, by rw [ht]; exact hP, va_K.moved hW.alike hK, hD⟩, hS.F ht⟩) hS.2.2 d_M_count_23
  obtain ⟨x, hx31, rfl⟩ := nI_of h
  refine lv_iload_n hx hb d_M_count_5 rfl (lv_at hl 1 rfl) ?_
  refine lv_iconst (v := nI 4) hx hb d_M_count_6 (by decide) ?_
  refine lv_icmp_le (tgt := 14) hx hb d_M_count_7 (by decide) (fun h => ?_) (fun h => ?_)
  rotate_left 1
  · rw [nI_leI (by omega) (by omega)] at h
    refine lv_iconst (v := nI 1) hx hb d_M_count_10 (by decide) ?_
    refine zh_t (show nI 1 = zb true from rfl) ?_
    refine lv_goto (tgt := 15) hx hb d_M_count_11 (by decide) ?_
    refine lv_iconst (v := nI 1) hx hb d_M_count_15 (by decide) ?_
    refine zci (zrV (n := 2) (As := [.int (zb true), .int (nI 1)]) (rest := []) ⟨hx, hb, hml, hown, hk⟩ (c_M_fails_ok l D t0 g z s.heap.size true 1) zk499 zk501 ks_M_fails zk5 kc_M_fails ⟨rfl, by decide, by decide, by decide⟩ rfl rfl ⟨Nat.le_of_ble_eq_true rfl, Nat.le_of_ble_eq_true rfl⟩ ⟨hP, hK, hD, hS, hA, hE⟩ (va_recv hK hP (ci := 2) (q0 := 0) rfl rfl) rfl hl.1 rfl (Nat.le_of_ble_eq_true rfl) d_M_count_16 ⟨Nat.le_of_ble_eq_true rfl, Nat.le_of_ble_eq_true rfl⟩) ⟨hP, hK, hD, hS, hA, hE⟩ (fun r u H locs hu hP hK hD hS => ?_)
    obtain ⟨rfl, rfl⟩ := hu
    have hP : va_P D zcl (mW g (mmk 1 (m_oct z) (m_pl z) (m_sz z) (m_sta z) (m_sin z) (m_rea z) (m_fnd z) (m_many z) (m_made z) (m_backs z) (m_lm z))) H := hP
    have hD : va_D A (mW g (mmk 1 (m_oct z) (m_pl z) (m_sz z) (m_sta z) (m_sin z) (m_rea z) (m_fnd z) (m_many z) (m_made z) (m_backs z) (m_lm z))) := hD
    have hK : va_K D zcl (mT g) s := hK
    refine lv_if_eq (tgt := 24) hx hb d_M_count_19 (by decide) (fun h9 => ?_) (fun h9 => ?_)
    · rw [zh_zb] at h9
      exact absurd h9 (by decide)
    refine lv_iconst (v := nI 0) hx hb d_M_count_22 (by decide) ?_
    exact W.iret hx hb hr (fun t ht hW => ⟨⟨_, (mu_err z 1), rfl, Or.inl ⟨by rw [nI_toInt hx31]; omega, rfl⟩, by rw [ht]; exact hP, va_K.moved hW.alike hK, hD⟩, hS.F ht⟩) hS.2.2 d_M_count_23
  rw [nI_leI (by omega) (by omega)] at h
  refine lv_iconst (v := nI 0) hx hb d_M_count_14 (by decide) ?_
  refine zh_t (show nI 0 = zb false from rfl) ?_
  refine lv_iconst (v := nI 1) hx hb d_M_count_15 (by decide) ?_
  refine zci (zrV (n := 2) (As := [.int (zb false), .int (nI 1)]) (rest := []) ⟨hx, hb, hml, hown, hk⟩ (c_M_fails_ok l D t0 g z s.heap.size false 1) zk499 zk501 ks_M_fails zk5 kc_M_fails ⟨rfl, by decide, by decide, by decide⟩ rfl rfl ⟨Nat.le_of_ble_eq_true rfl, Nat.le_of_ble_eq_true rfl⟩ ⟨hP, hK, hD, hS, hA, hE⟩ (va_recv hK hP (ci := 2) (q0 := 0) rfl rfl) rfl hl.1 rfl (Nat.le_of_ble_eq_true rfl) d_M_count_16 ⟨Nat.le_of_ble_eq_true rfl, Nat.le_of_ble_eq_true rfl⟩) ⟨hP, hK, hD, hS, hA, hE⟩ (fun r u H locs hu hP hK hD hS => ?_)
  obtain ⟨rfl, rfl⟩ := hu
  have hP : va_P D zcl (mW g (mmk 0 (m_oct z) (m_pl z) (m_sz z) (m_sta z) (m_sin z) (m_rea z) (m_fnd z) (m_many z) (m_made z) (m_backs z) (m_lm z))) H := hP
  have hD : va_D A (mW g (mmk 0 (m_oct z) (m_pl z) (m_sz z) (m_sta z) (m_sin z) (m_rea z) (m_fnd z) (m_many z) (m_made z) (m_backs z) (m_lm z))) := hD
  have hK : va_K D zcl (mT g) s := hK
  refine lv_if_eq (tgt := 24) hx hb d_M_count_19 (by decide) (fun h9 => ?_) (fun h9 => ?_)
  rotate_left 1
  · rw [zh_zb] at h9
    exact absurd rfl h9
  have hvn : (nI x).toInt.toNat = x := by rw [nI_toInt hx31]; rfl
  have hin : 0 ≤ (nI x).toInt ∧ (nI x).toInt ≤ 4 := by rw [nI_toInt hx31]; omega
  have hx5 : x ≤ 4 := h
  refine lv_iconst (v := nI 0) hx hb d_M_count_24 (by decide) ?_
  refine lv_istore_n (lv' := [(2, .int (nI 0)), (0, .ref (n_h g)), (1, .int (nI x))]) hx hb d_M_count_25 rfl hl (by decide) rfl (fun ls hl => ?_)
  refine lv_iconst (v := nI 0) hx hb d_M_count_26 (by decide) ?_
  refine lv_istore_n (lv' := [(3, .int (nI 0)), (2, .int (nI 0)), (0, .ref (n_h g)), (1, .int (nI x))]) hx hb d_M_count_27 rfl hl (by decide) rfl (fun ls hl => ?_)
  refine lv_iconst (v := nI 0) hx hb d_M_count_28 (by decide) ?_
  refine lv_istore (lv' := [(4, .int (nI 0)), (3, .int (nI 0)), (2, .int (nI 0)), (0, .ref (n_h g)), (1, .int (nI x))]) hx hb d_M_count_29 hl (by decide) rfl (fun ls hl => ?_)
  refine zh_loop0 (A := Nat) (fun q ls => lv_has ls 5 [(0, .ref (n_h g)), (1, .int (nI x)), (2, .int (nI (mlv z q))), (3, .int (nI (mlo z q))), (4, .int (nI q))] ∧ (q ≤ m_many z)) (fun q => m_many z - q) ?_ 0 ⟨lv_sub hl [3, 4, 2, 1, 0] rfl, Nat.zero_le _⟩
  rintro i ls ⟨hl, hi⟩ ih
  have hl : lv_has ls 5 [(0, .ref (n_h g)), (1, .int (nI x)), (2, .int (nI (mlv z i))), (3, .int (nI (mlo z i))), (4, .int (nI i))] := hl
  have hi : i ≤ m_many z := hi
  refine lv_iload hx hb d_M_count_31 (lv_at hl 4 rfl) ?_
  refine lv_aload_n hx hb d_M_count_33 rfl (lv_at hl 0 rfl) ?_
  refine va_get (D := D) (ci := 2) (v := .int (nI (m_many z))) (C := RM) (T := TM) (N := 12) hx hb hk inM hown hK hP 0 rfl rfl 8 (by decide) (hk _ zk461) (fun _ h9 => h9) rfl d_M_count_34 ?_
  refine lv_icmp_ge (tgt := 70) hx hb d_M_count_37 (by decide) (fun h2 => ?_) (fun h2 => ?_)
  · rw [nI_leI (by omega) (by omega)] at h2
    have hie : i = m_many z := by omega
    rw [hie] at hl
    have hl : lv_has ls 5 [(0, .ref (n_h g)), (1, .int (nI x)), (2, .int (nI (mlv z (m_many z)))), (3, .int (nI (mlo z (m_many z))))] := lv_sub hl [0, 1, 2, 3] rfl
    have hlv9 := mlv_le (z := z) (i := m_many z)
    refine lv_iload_n hx hb d_M_count_70 rfl (lv_at hl 1 rfl) ?_
    rcases (show x = 0 ∨ x = 1 ∨ x = 2 ∨ x = 3 ∨ x = 4 by omega) with rfl | rfl | rfl | rfl | rfl
    · refine lv_tableIn (off := 29) (tgt := 100) hx hb d_M_count_71 (by decide) (by decide) (by decide) (by decide) ?_
      refine lv_iload_n hx hb d_M_count_100 rfl (lv_at hl 2 rfl) ?_
      exact W.iret hx hb hr (fun t ht hW => ⟨⟨_, (mu_err z 0), rfl, Or.inr ⟨hin, rfl, by rw [hvn]; rfl⟩, by rw [ht]; exact hP, va_K.moved hW.alike hK, hD⟩, hS.F ht⟩) hS.2.2 d_M_count_101
    · refine lv_tableIn (off := 31) (tgt := 102) hx hb d_M_count_71 (by decide) (by decide) (by decide) (by decide) ?_
      refine lv_iload_n hx hb d_M_count_102 rfl (lv_at hl 3 rfl) ?_
      exact W.iret hx hb hr (fun t ht hW => ⟨⟨_, (mu_err z 0), rfl, Or.inr ⟨hin, rfl, by rw [hvn]; rfl⟩, by rw [ht]; exact hP, va_K.moved hW.alike hK, hD⟩, hS.F ht⟩) hS.2.2 d_M_count_103
    · refine lv_tableIn (off := 33) (tgt := 104) hx hb d_M_count_71 (by decide) (by decide) (by decide) (by decide) ?_
      refine lv_aload_n hx hb d_M_count_104 rfl (lv_at hl 0 rfl) ?_
      refine va_get (D := D) (ci := 2) (v := .int (nI (m_many z))) (C := RM) (T := TM) (N := 12) hx hb hk inM hown hK hP 0 rfl rfl 8 (by decide) (hk _ zk461) (fun _ h9 => h9) rfl d_M_count_105 ?_
      refine lv_iload_n hx hb d_M_count_108 rfl (lv_at hl 2 rfl) ?_
      refine lv_isub hx hb d_M_count_109 ?_
      refine zh_t (show (nI (m_many z) - nI (mlv z (m_many z))) = nI (m_many z - (mlv z (m_many z))) from pk_sub (by omega)) ?_
      exact W.iret hx hb hr (fun t ht hW => ⟨⟨_, (mu_err z 0), rfl, Or.inr ⟨hin, rfl, by rw [hvn]; rfl⟩, by rw [ht]; exact hP, va_K.moved hW.alike hK, hD⟩, hS.F ht⟩) hS.2.2 d_M_count_110
    · refine lv_tableIn (off := 40) (tgt := 111) hx hb d_M_count_71 (by decide) (by decide) (by decide) (by decide) ?_
      refine lv_aload_n hx hb d_M_count_111 rfl (lv_at hl 0 rfl) ?_
      refine vp_callSi (zrV (n := 0) (As := []) (rest := []) ⟨hx, hb, hml, hown, hk⟩ (c_M_kept_ok l D t0 g (mmk 0 (m_oct z) (m_pl z) (m_sz z) (m_sta z) (m_sin z) (m_rea z) (m_fnd z) (m_many z) (m_made z) (m_backs z) (m_lm z)) H.size hz) zk526 zk528 ks_M_kept zk5 kc_M_kept ⟨rfl, by decide, by decide, by decide⟩ rfl rfl ⟨Nat.le_of_ble_eq_true rfl, Nat.le_of_ble_eq_true rfl⟩ ⟨hP, hK, hD, hS, hA, hE⟩ (va_recv hK hP (ci := 2) (q0 := 0) rfl rfl) rfl hl.1 rfl (Nat.le_of_ble_eq_true rfl) d_M_count_112 ⟨Nat.le_of_ble_eq_true rfl, Nat.le_of_ble_eq_true rfl⟩).run (fun r hr1 => ?_)
      subst hr1
      exact W.iret hx hb hr (fun t ht hW => ⟨⟨_, (mu_err z 0), rfl, Or.inr ⟨hin, rfl, by rw [hvn]; rfl⟩, by rw [ht]; exact hP, va_K.moved hW.alike hK, hD⟩, hS.F ht⟩) hS.2.2 d_M_count_115
    · refine lv_tableOut (tgt := 116) hx hb d_M_count_71 (by decide) (by decide) ?_
      refine lv_aload_n hx hb d_M_count_116 rfl (lv_at hl 0 rfl) ?_
      refine va_get (D := D) (ci := 2) (v := .int (nI (m_made z))) (C := RM) (T := TM) (N := 12) hx hb hk inM hown hK hP 0 rfl rfl 9 (by decide) (hk _ zk462) (fun _ h9 => h9) rfl d_M_count_117 ?_
      exact W.iret hx hb hr (fun t ht hW => ⟨⟨_, (mu_err z 0), rfl, Or.inr ⟨hin, rfl, by rw [hvn]; rfl⟩, by rw [ht]; exact hP, va_K.moved hW.alike hK, hD⟩, hS.F ht⟩) hS.2.2 d_M_count_120
  rw [nI_leI (by omega) (by omega)] at h2
  have hat := hz.at (k := i) (by omega)
  refine lv_aload_n hx hb d_M_count_40 rfl (lv_at hl 0 rfl) ?_
  refine va_get (D := D) (ci := 2) (v := .ref (n_aT g)) (C := RM) (T := TM) (N := 12) hx hb hk inM hown hK hP 0 rfl rfl 4 (by decide) (hk _ zk457) (fun _ h9 => h9) rfl d_M_count_41 ?_
  refine lv_iload hx hb d_M_count_44 (lv_at hl 4 rfl) ?_
  refine va_iald hx hb hK hP 4 3 rfl rfl (vp_in_nI (by omega) (by decide)) d_M_count_46 ?_
  refine zh_t (show nI (m_sta z (nI i).toNatClampNeg) = nI (m_sta z i) from by rw [nI_clamp (by omega)]) ?_
  refine lv_iconst (v := nI 1) hx hb d_M_count_47 (by decide) ?_
  refine lv_icmp_ne (tgt := 64) hx hb d_M_count_48 (by decide) (fun h3 => ?_) (fun h3 => ?_)
  · rw [nI_eq (by omega) (by omega)] at h3
    have hl : lv_has ls 5 [(0, .ref (n_h g)), (1, .int (nI x)), (2, .int (nI (mlv z (i + 1)))), (3, .int (nI (mlo z (i + 1)))), (4, .int (nI i))] := by rw [show mlv z (i + 1) = mlv z i + 0 from by unfold mlv; rw [zsum_s, if_neg h3], show mlo z (i + 1) = mlo z i + 0 from by unfold mlo; rw [zsum_s, if_neg h3]]; exact hl
    refine lv_iinc (lv' := [(4, .int (nI (i + 1))), (0, .ref (n_h g)), (1, .int (nI x)), (2, .int (nI (mlv z (i + 1)))), (3, .int (nI (mlo z (i + 1))))]) (v := nI (i + 1)) hx hb d_M_count_64 hl (k := 4) rfl (nI_add _ _) (by decide) rfl (fun ls hl => ?_)
    refine lv_goto (tgt := 31) hx hb d_M_count_67 (by decide) ?_
    exact ih (i + 1) ls ⟨lv_sub hl [1, 2, 3, 4, 0] rfl, by omega⟩ (by show _ < _; (try dsimp only); omega)
  rw [nI_eq (by omega) (by omega)] at h3
  refine lv_iinc (lv' := [(2, .int (nI (mlv z i + 1))), (0, .ref (n_h g)), (1, .int (nI x)), (3, .int (nI (mlo z i))), (4, .int (nI i))]) (v := nI (mlv z i + 1)) hx hb d_M_count_51 hl (k := 2) rfl (nI_add _ _) (by decide) rfl (fun ls hl => ?_)
  refine lv_iload_n hx hb d_M_count_54 rfl (lv_at hl 3 rfl) ?_
  refine lv_aload_n hx hb d_M_count_55 rfl (lv_at hl 1 rfl) ?_
  refine va_get (D := D) (ci := 2) (v := .ref (n_aS g)) (C := RM) (T := TM) (N := 12) hx hb hk inM hown hK hP 0 rfl rfl 3 (by decide) (hk _ zk456) (fun _ h9 => h9) rfl d_M_count_56 ?_
  refine lv_iload hx hb d_M_count_59 (lv_at hl 4 rfl) ?_
  refine va_iald hx hb hK hP 3 2 rfl rfl (vp_in_nI (by omega) (by decide)) d_M_count_61 ?_
  refine zh_t (show nI (m_sz z (nI i).toNatClampNeg) = nI (m_sz z i) from by rw [nI_clamp (by omega)]) ?_
  refine lv_iadd hx hb d_M_count_62 ?_
  refine zh_t (show (nI (mlo z i) + nI (m_sz z i)) = nI (mlo z i + m_sz z i) from nI_add _ _) ?_
  refine lv_istore_n (lv' := [(3, .int (nI (mlo z i + m_sz z i))), (2, .int (nI (mlv z i + 1))), (0, .ref (n_h g)), (1, .int (nI x)), (4, .int (nI i))]) hx hb d_M_count_63 rfl hl (by decide) rfl (fun ls hl => ?_)
  have hl : lv_has ls 5 [(3, .int (nI (mlo z (i + 1)))), (2, .int (nI (mlv z (i + 1)))), (0, .ref (n_h g)), (1, .int (nI x)), (4, .int (nI i))] := by rw [show mlv z (i + 1) = mlv z i + 1 from by unfold mlv; rw [zsum_s, if_pos h3], show mlo z (i + 1) = mlo z i + m_sz z i from by unfold mlo; rw [zsum_s, if_pos h3]]; exact hl
  refine lv_iinc (lv' := [(4, .int (nI (i + 1))), (3, .int (nI (mlo z (i + 1)))), (2, .int (nI (mlv z (i + 1)))), (0, .ref (n_h g)), (1, .int (nI x))]) (v := nI (i + 1)) hx hb d_M_count_64 hl (k := 4) rfl (nI_add _ _) (by decide) rfl (fun ls hl => ?_)
  refine lv_goto (tgt := 31) hx hb d_M_count_67 (by decide) ?_
  exact ih (i + 1) ls ⟨lv_sub hl [3, 4, 2, 1, 0] rfl, by omega⟩ (by show _ < _; (try dsimp only); omega)
