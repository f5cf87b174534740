set_option maxHeartbeats 1000000 in
set_option maxRecDepth 100000 in
theorem c_M_of_ok (l : Launch) (D : va_G) (t0 : Nat) (g : MG) (z : MT) (sz : Nat) (v : Int32) (y : Nat) (hy : y ≤ 2) (hz : mOK z) : Met l y_M_of w_M_of ({ frames := 0, cells := 0, slots := 0, locals := 0 }) (zPre D t0 (mT g) (mW g z) sz [.ref (n_h g), .int v, .int (nI y)]) (vp_Si (fun r => zfst (mof z v y) (m_many z) r)) 0 0 (fun _ => False) := by
  refine Met.ofW (cc := c_M_of) (maxL := 4) (ret := (some .int)) (by decide) rfl ?_
  intro p e s m args below meth c s₁ B hml hv
  obtain ⟨rfl, hsz, hP, hK, hD0, hE⟩ := hv
  have hx := B.exec
  have hb := B.bytes
  have hr := B.returns
  have hts := atoms_spec (ws := w_M_of) B.pre
  have hk : ∀ w ∈ zB, w.before _ s = true := fun w h => hts w (List.mem_cons_of_mem _ h)
  have hown : s.vm.findClass "ZoneHeapModel" = some m.cls := findClass_of_methodNamed B.named
  have hlocks := B.notSynchronized
  subst hsz
  have hD := hD0.self (sz := s.heap.size)
  generalize hAe : va_A (mW g z) s.heap.size = A at hD hE
  have hA : ∀ q : Nat, s.heap.size ≤ q → A q := fun q h => by rw [← hAe]; exact Or.inr h
  have hS : va_S A s.heap s.heap [] := va_S.rf
  have hl := lv_entry ([.ref (n_h g), .int v, .int (nI y)]) (n := 4) (Nat.le_of_ble_eq_true rfl)
  rw [lg_entry_eq]
  generalize (lg_sl ([.ref (n_h g), .int v, .int (nI y)]) ++ List.replicate (4 - (lg_sl ([.ref (n_h g), .int v, .int (nI y)])).length) Slot.unset).toArray = ls at hl ⊢
  have hl : lv_has ls 4 [(0, .ref (n_h g)), (1, .int v), (2, .int (nI y))] := hl
  have hm := hz.many
  refine lv_iconst (v := nI 0) hx hb d_M_of_0 (by decide) ?_
  refine lv_istore_n (lv' := [(3, .int (nI 0)), (0, .ref (n_h g)), (1, .int v), (2, .int (nI y))]) hx hb d_M_of_1 rfl hl (by decide) rfl (fun ls hl => ?_)
  refine zh_loop0 (A := Nat) (fun q ls => lv_has ls 4 [(0, .ref (n_h g)), (1, .int v), (2, .int (nI y)), (3, .int (nI q))] ∧ (q ≤ m_many z) ∧ (∀ j : Nat, j < q → ¬ mof z v y j)) (fun q => m_many z - q) ?_ 0 ⟨lv_sub hl [1, 2, 3, 0] rfl, Nat.zero_le _, fun j hj => absurd hj (Nat.not_lt_zero _)⟩
  rintro i ls ⟨hl, hi, hno⟩ ih
  have hl : lv_has ls 4 [(0, .ref (n_h g)), (1, .int v), (2, .int (nI y)), (3, .int (nI i))] := hl
  have hi : i ≤ m_many z := hi
  have hno : ∀ j : Nat, j < i → ¬ mof z v y j := hno
  refine lv_iload_n hx hb d_M_of_2 rfl (lv_at hl 3 rfl) ?_
  refine lv_aload_n hx hb d_M_of_3 rfl (lv_at hl 0 rfl) ?_
  refine va_get (D := D) (ci := 2) (v := .int (nI (m_many z))) (C := RM) (T := TM) (N := 12) hx hb hk inM hown hK hP 0 rfl rfl 8 (by decide) (hk _ zk461) (fun _ h9 => h9) rfl d_M_of_4 ?_
  refine lv_icmp_ge (tgt := 55) hx hb d_M_of_7 (by decide) (fun h => ?_) (fun h => ?_)
  · rw [nI_leI (by omega) (by omega)] at h
    refine lv_iconst (v := ((-1))) hx hb d_M_of_55 (by decide) ?_
    exact W.iret hx hb hr (fun t ht hW => ⟨_, rfl, Or.inl ⟨rfl, fun k hk => hno k (by omega)⟩, ht⟩) (fun q h => absurd h List.not_mem_nil) d_M_of_56
  rw [nI_leI (by omega) (by omega)] at h
  have hat := hz.at (k := i) (by omega)
  refine lv_aload_n hx hb d_M_of_10 rfl (lv_at hl 0 rfl) ?_
  refine va_get (D := D) (ci := 2) (v := .ref (n_aT g)) (C := RM) (T := TM) (N := 12) hx hb hk inM hown hK hP 0 rfl rfl 4 (by decide) (hk _ zk457) (fun _ h9 => h9) rfl d_M_of_11 ?_
  refine lv_iload_n hx hb d_M_of_14 rfl (lv_at hl 3 rfl) ?_
  refine va_iald hx hb hK hP 4 3 rfl rfl (vp_in_nI (by omega) (by decide)) d_M_of_15 ?_
  refine zh_t (show nI (m_sta z (nI i).toNatClampNeg) = nI (m_sta z i) from by rw [nI_clamp (by omega)]) ?_
  refine lv_iload_n hx hb d_M_of_16 rfl (lv_at hl 2 rfl) ?_
  refine lv_icmp_ne (tgt := 49) hx hb d_M_of_17 (by decide) (fun h2 => ?_) (fun h2 => ?_)
  · rw [nI_eq (by omega) (by omega)] at h2
    refine lv_iinc (lv' := [(3, .int (nI (i + 1))), (0, .ref (n_h g)), (1, .int v), (2, .int (nI y))]) (v := nI (i + 1)) hx hb d_M_of_49 hl (k := 3) rfl (nI_add _ _) (by decide) rfl (fun ls hl => ?_)
    refine lv_goto (tgt := 2) hx hb d_M_of_52 (by decide) ?_
    exact ih (i + 1) ls ⟨lv_sub hl [1, 2, 3, 0] rfl, by omega, lt_s hno (fun q => h2 q.1)⟩ (by show _ < _; (try dsimp only); omega)
  rw [nI_eq (by omega) (by omega)] at h2
  refine lv_iload_n hx hb d_M_of_20 rfl (lv_at hl 1 rfl) ?_
  refine lv_aload_n hx hb d_M_of_21 rfl (lv_at hl 0 rfl) ?_
  refine va_get (D := D) (ci := 2) (v := .ref (n_aP g)) (C := RM) (T := TM) (N := 12) hx hb hk inM hown hK hP 0 rfl rfl 2 (by decide) (hk _ zk455) (fun _ h9 => h9) rfl d_M_of_22 ?_
  refine lv_iload_n hx hb d_M_of_25 rfl (lv_at hl 3 rfl) ?_
  refine va_iald hx hb hK hP 2 1 rfl rfl (vp_in_nI (by omega) (by decide)) d_M_of_26 ?_
  refine zh_t (show nI (m_pl z (nI i).toNatClampNeg) = nI (m_pl z i) from by rw [nI_clamp (by omega)]) ?_
  refine lv_icmp_lt (tgt := 49) hx hb d_M_of_27 (by decide) (fun h3 => ?_) (fun h3 => ?_)
  · rw [Int32.lt_iff_toInt_lt, nI_toInt (by omega)] at h3
    refine lv_iinc (lv' := [(3, .int (nI (i + 1))), (0, .ref (n_h g)), (1, .int v), (2, .int (nI y))]) (v := nI (i + 1)) hx hb d_M_of_49 hl (k := 3) rfl (nI_add _ _) (by decide) rfl (fun ls hl => ?_)
    refine lv_goto (tgt := 2) hx hb d_M_of_52 (by decide) ?_
    exact ih (i + 1) ls ⟨lv_sub hl [1, 2, 3, 0] rfl, by omega, lt_s hno (fun q => absurd q.2.1 (by omega))⟩ (by show _ < _; (try dsimp only); omega)
  rw [Int32.lt_iff_toInt_lt, nI_toInt (by omega)] at h3
  refine lv_iload_n hx hb d_M_of_30 rfl (lv_at hl 1 rfl) ?_
  refine lv_aload_n hx hb d_M_of_31 rfl (lv_at hl 0 rfl) ?_
  refine va_get (D := D) (ci := 2) (v := .ref (n_aP g)) (C := RM) (T := TM) (N := 12) hx hb hk inM hown hK hP 0 rfl rfl 2 (by decide) (hk _ zk455) (fun _ h9 => h9) rfl d_M_of_32 ?_
  refine lv_iload_n hx hb d_M_of_35 rfl (lv_at hl 3 rfl) ?_
  refine va_iald hx hb hK hP 2 1 rfl rfl (vp_in_nI (by omega) (by decide)) d_M_of_36 ?_
  refine zh_t (show nI (m_pl z (nI i).toNatClampNeg) = nI (m_pl z i) from by rw [nI_clamp (by omega)]) ?_
  refine lv_aload_n hx hb d_M_of_37 rfl (lv_at hl 0 rfl) ?_
  refine va_get (D := D) (ci := 2) (v := .ref (n_aS g)) (C := RM) (T := TM) (N := 12) hx hb hk inM hown hK hP 0 rfl rfl 3 (by decide) (hk _ zk456) (fun _ h9 => h9) rfl d_M_of_38 ?_
  refine lv_iload_n hx hb d_M_of_41 rfl (lv_at hl 3 rfl) ?_
  refine va_iald hx hb hK hP 3 2 rfl rfl (vp_in_nI (by omega) (by decide)) d_M_of_42 ?_
  refine zh_t (show nI (m_sz z (nI i).toNatClampNeg) = nI (m_sz z i) from by rw [nI_clamp (by omega)]) ?_
  refine lv_iadd hx hb d_M_of_43 ?_
  refine zh_t (show (nI (m_pl z i) + nI (m_sz z i)) = nI (m_pl z i + m_sz z i) from nI_add _ _) ?_
  refine lv_icmp_ge (tgt := 49) hx hb d_M_of_44 (by decide) (fun h4 => ?_) (fun h4 => ?_)
  · rw [Int32.le_iff_toInt_le, nI_toInt (by omega)] at h4
    refine lv_iinc (lv' := [(3, .int (nI (i + 1))), (0, .ref (n_h g)), (1, .int v), (2, .int (nI y))]) (v := nI (i + 1)) hx hb d_M_of_49 hl (k := 3) rfl (nI_add _ _) (by decide) rfl (fun ls hl => ?_)
    refine lv_goto (tgt := 2) hx hb d_M_of_52 (by decide) ?_
    exact ih (i + 1) ls ⟨lv_sub hl [1, 2, 3, 0] rfl, by omega, lt_s hno (fun q => absurd q.2.2 (by omega))⟩ (by show _ < _; (try dsimp only); omega)
  rw [Int32.le_iff_toInt_le, nI_toInt (by omega)] at h4
  refine lv_iload_n hx hb d_M_of_47 rfl (lv_at hl 3 rfl) ?_
  exact W.iret hx hb hr (fun t ht hW => ⟨_, rfl, Or.inr ⟨i, by omega, rfl, ⟨h2, by omega, by omega⟩, hno⟩, ht⟩) (fun q h => absurd h List.not_mem_nil) d_M_of_48
set_option maxHeartbeats 1000000 in
set_option maxRecDepth 100000 in
theorem c_M_leads_ok (l : Launch) (D : va_G) (t0 : Nat) (g : MG) (z : MT) (sz : Nat) (v : Int32) (hz : mOK z) : Met l y_M_leads w_M_leads ({ frames := 0, cells := 0, slots := 0, locals := 0 }) (zPre D t0 (mT g) (mW g z) sz [.ref (n_h g), .int v]) (vp_Si (fun r => zfst (mlead z v) (m_many z) r)) 0 0 (fun _ => False) := by
  refine Met.ofW (cc := c_M_leads) (maxL := 3) (ret := (some .int)) (by decide) rfl ?_
  intro p e s m args below meth c s₁ B hml hv
  obtain ⟨rfl, hsz, hP, hK, hD0, hE⟩ := hv
  have hx := B.exec
  have hb := B.bytes
  have hr := B.returns
  have hts := atoms_spec (ws := w_M_leads) B.pre
  have hk : ∀ w ∈ zB, w.before _ s = true := fun w h => hts w (List.mem_cons_of_mem _ h)
  have hown : s.vm.findClass "ZoneHeapModel" = some m.cls := findClass_of_methodNamed B.named
  have hlocks := B.notSynchronized
  subst hsz
  have hD := hD0.self (sz := s.heap.size)
  generalize hAe : va_A (mW g z) s.heap.size = A at hD hE
  have hA : ∀ q : Nat, s.heap.size ≤ q → A q := fun q h => by rw [← hAe]; exact Or.inr h
  have hS : va_S A s.heap s.heap [] := va_S.rf
  have hl := lv_entry ([.ref (n_h g), .int v]) (n := 3) (Nat.le_of_ble_eq_true rfl)
  rw [lg_entry_eq]
  generalize (lg_sl ([.ref (n_h g), .int v]) ++ List.replicate (3 - (lg_sl ([.ref (n_h g), .int v])).length) Slot.unset).toArray = ls at hl ⊢
  have hl : lv_has ls 3 [(0, .ref (n_h g)), (1, .int v)] := hl
  have hm := hz.many
  refine lv_iconst (v := nI 0) hx hb d_M_leads_0 (by decide) ?_
  refine lv_istore_n (lv' := [(2, .int (nI 0)), (0, .ref (n_h g)), (1, .int v)]) hx hb d_M_leads_1 rfl hl (by decide) rfl (fun ls hl => ?_)
  refine zh_loop0 (A := Nat) (fun q ls => lv_has ls 3 [(0, .ref (n_h g)), (1, .int v), (2, .int (nI q))] ∧ (q ≤ m_many z) ∧ (∀ j : Nat, j < q → ¬ mlead z v j)) (fun q => m_many z - q) ?_ 0 ⟨lv_sub hl [1, 2, 0] rfl, Nat.zero_le _, fun j hj => absurd hj (Nat.not_lt_zero _)⟩
  rintro i ls ⟨hl, hi, hno⟩ ih
  have hl : lv_has ls 3 [(0, .ref (n_h g)), (1, .int v), (2, .int (nI i))] := hl
  have hi : i ≤ m_many z := hi
  have hno : ∀ j : Nat, j < i → ¬ mlead z v j := hno
  refine lv_iload_n hx hb d_M_leads_2 rfl (lv_at hl 2 rfl) ?_
  refine lv_aload_n hx hb d_M_leads_3 rfl (lv_at hl 0 rfl) ?_
  refine va_get (D := D) (ci := 2) (v := .int (nI (m_many z))) (C := RM) (T := TM) (N := 12) hx hb hk inM hown hK hP 0 rfl rfl 8 (by decide) (hk _ zk461) (fun _ h9 => h9) rfl d_M_leads_4 ?_
  refine lv_icmp_ge (tgt := 65) hx hb d_M_leads_7 (by decide) (fun h => ?_) (fun h => ?_)
  · rw [nI_leI (by omega) (by omega)] at h
    refine lv_iconst (v := ((-1))) hx hb d_M_leads_65 (by decide) ?_
    exact W.iret hx hb hr (fun t ht hW => ⟨_, rfl, Or.inl ⟨rfl, fun k hk => hno k (by omega)⟩, ht⟩) (fun q h => absurd h List.not_mem_nil) d_M_leads_66
  rw [nI_leI (by omega) (by omega)] at h
  have hat := hz.at (k := i) (by omega)
  refine lv_aload_n hx hb d_M_leads_10 rfl (lv_at hl 0 rfl) ?_
  refine va_get (D := D) (ci := 2) (v := .ref (n_aT g)) (C := RM) (T := TM) (N := 12) hx hb hk inM hown hK hP 0 rfl rfl 4 (by decide) (hk _ zk457) (fun _ h9 => h9) rfl d_M_leads_11 ?_
  refine lv_iload_n hx hb d_M_leads_14 rfl (lv_at hl 2 rfl) ?_
  refine va_iald hx hb hK hP 4 3 rfl rfl (vp_in_nI (by omega) (by decide)) d_M_leads_15 ?_
  refine zh_t (show nI (m_sta z (nI i).toNatClampNeg) = nI (m_sta z i) from by rw [nI_clamp (by omega)]) ?_
  refine lv_iconst (v := nI 1) hx hb d_M_leads_16 (by decide) ?_
  refine lv_icmp_ne (tgt := 59) hx hb d_M_leads_17 (by decide) (fun h2 => ?_) (fun h2 => ?_)
  · rw [nI_eq (by omega) (by omega)] at h2
    refine lv_iinc (lv' := [(2, .int (nI (i + 1))), (0, .ref (n_h g)), (1, .int v)]) (v := nI (i + 1)) hx hb d_M_leads_59 hl (k := 2) rfl (nI_add _ _) (by decide) rfl (fun ls hl => ?_)
    refine lv_goto (tgt := 2) hx hb d_M_leads_62 (by decide) ?_
    exact ih (i + 1) ls ⟨lv_sub hl [1, 2, 0] rfl, by omega, lt_s hno (fun q => h2 q.1)⟩ (by show _ < _; (try dsimp only); omega)
  rw [nI_eq (by omega) (by omega)] at h2
  refine lv_iload_n hx hb d_M_leads_20 rfl (lv_at hl 1 rfl) ?_
  refine lv_aload_n hx hb d_M_leads_21 rfl (lv_at hl 0 rfl) ?_
  refine va_get (D := D) (ci := 2) (v := .ref (n_aP g)) (C := RM) (T := TM) (N := 12) hx hb hk inM hown hK hP 0 rfl rfl 2 (by decide) (hk _ zk455) (fun _ h9 => h9) rfl d_M_leads_22 ?_
  refine lv_iload_n hx hb d_M_leads_25 rfl (lv_at hl 2 rfl) ?_
  refine va_iald hx hb hK hP 2 1 rfl rfl (vp_in_nI (by omega) (by decide)) d_M_leads_26 ?_
  refine zh_t (show nI (m_pl z (nI i).toNatClampNeg) = nI (m_pl z i) from by rw [nI_clamp (by omega)]) ?_
  refine lv_icmp_eq (tgt := 57) hx hb d_M_leads_27 (by decide) (fun h3 => ?_) (fun h3 => ?_)
  · refine lv_iload_n hx hb d_M_leads_57 rfl (lv_at hl 2 rfl) ?_
    exact W.iret hx hb hr (fun t ht hW => ⟨_, rfl, Or.inr ⟨i, by omega, rfl, ⟨h2, Or.inl h3⟩, hno⟩, ht⟩) (fun q h => absurd h List.not_mem_nil) d_M_leads_58
  refine lv_iload_n hx hb d_M_leads_30 rfl (lv_at hl 1 rfl) ?_
  refine lv_aload_n hx hb d_M_leads_31 rfl (lv_at hl 0 rfl) ?_
  refine va_get (D := D) (ci := 2) (v := .ref (n_aP g)) (C := RM) (T := TM) (N := 12) hx hb hk inM hown hK hP 0 rfl rfl 2 (by decide) (hk _ zk455) (fun _ h9 => h9) rfl d_M_leads_32 ?_
  refine lv_iload_n hx hb d_M_leads_35 rfl (lv_at hl 2 rfl) ?_
  refine va_iald hx hb hK hP 2 1 rfl rfl (vp_in_nI (by omega) (by decide)) d_M_leads_36 ?_
  refine zh_t (show nI (m_pl z (nI i).toNatClampNeg) = nI (m_pl z i) from by rw [nI_clamp (by omega)]) ?_
  refine lv_icmp_lt (tgt := 59) hx hb d_M_leads_37 (by decide) (fun h4 => ?_) (fun h4 => ?_)
  · rw [Int32.lt_iff_toInt_lt, nI_toInt (by omega)] at h4
    refine lv_iinc (lv' := [(2, .int (nI (i + 1))), (0, .ref (n_h g)), (1, .int v)]) (v := nI (i + 1)) hx hb d_M_leads_59 hl (k := 2) rfl (nI_add _ _) (by decide) rfl (fun ls hl => ?_)
    refine lv_goto (tgt := 2) hx hb d_M_leads_62 (by decide) ?_
    exact ih (i + 1) ls ⟨lv_sub hl [1, 2, 0] rfl, by omega, lt_s hno (fun q => q.2.elim h3 (fun q => absurd q.1 (by omega)))⟩ (by show _ < _; (try dsimp only); omega)
  rw [Int32.lt_iff_toInt_lt, nI_toInt (by omega)] at h4
  refine lv_iload_n hx hb d_M_leads_40 rfl (lv_at hl 1 rfl) ?_
  refine lv_aload_n hx hb d_M_leads_41 rfl (lv_at hl 0 rfl) ?_
  refine va_get (D := D) (ci := 2) (v := .ref (n_aP g)) (C := RM) (T := TM) (N := 12) hx hb hk inM hown hK hP 0 rfl rfl 2 (by decide) (hk _ zk455) (fun _ h9 => h9) rfl d_M_leads_42 ?_
  refine lv_iload_n hx hb d_M_leads_45 rfl (lv_at hl 2 rfl) ?_
  refine va_iald hx hb hK hP 2 1 rfl rfl (vp_in_nI (by omega) (by decide)) d_M_leads_46 ?_
  refine zh_t (show nI (m_pl z (nI i).toNatClampNeg) = nI (m_pl z i) from by rw [nI_clamp (by omega)]) ?_
  refine lv_aload_n hx hb d_M_leads_47 rfl (lv_at hl 0 rfl) ?_
  refine va_get (D := D) (ci := 2) (v := .ref (n_aS g)) (C := RM) (T := TM) (N := 12) hx hb hk inM hown hK hP 0 rfl rfl 3 (by decide) (hk _ zk456) (fun _ h9 => h9) rfl d_M_leads_48 ?_
  refine lv_iload_n hx hb d_M_leads_51 rfl (lv_at hl 2 rfl) ?_
  refine va_iald hx hb hK hP 3 2 rfl rfl (vp_in_nI (by omega) (by decide)) d_M_leads_52 ?_
  refine zh_t (show nI (m_sz z (nI i).toNatClampNeg) = nI (m_sz z i) from by rw [nI_clamp (by omega)]) ?_
  refine lv_iadd hx hb d_M_leads_53 ?_
  refine zh_t (show (nI (m_pl z i) + nI (m_sz z i)) = nI (m_pl z i + m_sz z i) from nI_add _ _) ?_
  refine lv_icmp_ge (tgt := 59) hx hb d_M_leads_54 (by decide) (fun h5 => ?_) (fun h5 => ?_)
  · rw [Int32.le_iff_toInt_le, nI_toInt (by omega)] at h5
    refine lv_iinc (lv' := [(2, .int (nI (i + 1))), (0, .ref (n_h g)), (1, .int v)]) (v := nI (i + 1)) hx hb d_M_leads_59 hl (k := 2) rfl (nI_add _ _) (by decide) rfl (fun ls hl => ?_)
    refine lv_goto (tgt := 2) hx hb d_M_leads_62 (by decide) ?_
    exact ih (i + 1) ls ⟨lv_sub hl [1, 2, 0] rfl, by omega, lt_s hno (fun q => q.2.elim h3 (fun q => absurd q.2 (by omega)))⟩ (by show _ < _; (try dsimp only); omega)
  rw [Int32.le_iff_toInt_le, nI_toInt (by omega)] at h5
  refine lv_iload_n hx hb d_M_leads_57 rfl (lv_at hl 2 rfl) ?_
  exact W.iret hx hb hr (fun t ht hW => ⟨_, rfl, Or.inr ⟨i, by omega, rfl, ⟨h2, Or.inr ⟨by omega, by omega⟩⟩, hno⟩, ht⟩) (fun q h => absurd h List.not_mem_nil) d_M_leads_58
set_option maxHeartbeats 1000000 in
set_option maxRecDepth 100000 in
theorem c_M_word_ok (l : Launch) (D : va_G) (t0 : Nat) (g : MG) (z : MT) (sz : Nat) (x : Nat) (hz : mOK z) (hx4 : x + 4 ≤ 8192) : Met l y_M_word w_M_word ({ frames := 0, cells := 0, slots := 0, locals := 0 }) (zPre D t0 (mT g) (mW g z) sz [.ref (n_h g), .int (nI x)]) (vp_Si (fun r => r = nI (zwd (m_oct z) x))) 0 0 (fun _ => False) := by
  refine Met.ofW (cc := c_M_word) (maxL := 2) (ret := (some .int)) (by decide) rfl ?_
  intro p e s m args below meth c s₁ B hml hv
  obtain ⟨rfl, hsz, hP, hK, hD0, hE⟩ := hv
  have hx := B.exec
  have hb := B.bytes
  have hr := B.returns
  have hts := atoms_spec (ws := w_M_word) B.pre
  have hk : ∀ w ∈ zB, w.before _ s = true := fun w h => hts w (List.mem_cons_of_mem _ h)
  have hown : s.vm.findClass "ZoneHeapModel" = some m.cls := findClass_of_methodNamed B.named
  have hlocks := B.notSynchronized
  subst hsz
  have hD := hD0.self (sz := s.heap.size)
  generalize hAe : va_A (mW g z) s.heap.size = A at hD hE
  have hA : ∀ q : Nat, s.heap.size ≤ q → A q := fun q h => by rw [← hAe]; exact Or.inr h
  have hS : va_S A s.heap s.heap [] := va_S.rf
  have hl := lv_entry ([.ref (n_h g), .int (nI x)]) (n := 2) (Nat.le_of_ble_eq_true rfl)
  rw [lg_entry_eq]
  generalize (lg_sl ([.ref (n_h g), .int (nI x)]) ++ List.replicate (2 - (lg_sl ([.ref (n_h g), .int (nI x)])).length) Slot.unset).toArray = ls at hl ⊢
  have hl : lv_has ls 2 [(0, .ref (n_h g)), (1, .int (nI x))] := hl
  refine lv_aload_n hx hb d_M_word_0 rfl (lv_at hl 0 rfl) ?_
  refine va_get (D := D) (ci := 2) (v := .ref (n_aO g)) (C := RM) (T := TM) (N := 12) hx hb hk inM hown hK hP 0 rfl rfl 1 (by decide) (hk _ zk454) (fun _ h9 => h9) rfl d_M_word_1 ?_
  refine lv_iload_n hx hb d_M_word_4 rfl (lv_at hl 1 rfl) ?_
  refine va_iald hx hb hK hP 1 0 rfl rfl (vp_in_nI (by omega) (by decide)) d_M_word_5 ?_
  refine zh_t (show nI (m_oct z (nI x).toNatClampNeg) = nI (m_oct z x) from by rw [nI_clamp (by omega)]) ?_
  refine lv_aload_n hx hb d_M_word_6 rfl (lv_at hl 0 rfl) ?_
  refine va_get (D := D) (ci := 2) (v := .ref (n_aO g)) (C := RM) (T := TM) (N := 12) hx hb hk inM hown hK hP 0 rfl rfl 1 (by decide) (hk _ zk454) (fun _ h9 => h9) rfl d_M_word_7 ?_
  refine lv_iload_n hx hb d_M_word_10 rfl (lv_at hl 1 rfl) ?_
  refine lv_iconst (v := nI 1) hx hb d_M_word_11 (by decide) ?_
  refine lv_iadd hx hb d_M_word_12 ?_
  refine zh_t (show (nI x + nI 1) = nI (x + 1) from nI_add _ _) ?_
  refine va_iald hx hb hK hP 1 0 rfl rfl (vp_in_nI (by omega) (by decide)) d_M_word_13 ?_
  refine zh_t (show nI (m_oct z (nI (x + 1)).toNatClampNeg) = nI (m_oct z (x + 1)) from by rw [nI_clamp (by omega)]) ?_
  refine lv_bipush (v := nI 8) hx hb d_M_word_14 (by decide) ?_
  refine lv_ishl hx hb d_M_word_16 ?_
  refine lv_ior hx hb d_M_word_17 ?_
  refine lv_aload_n hx hb d_M_word_18 rfl (lv_at hl 0 rfl) ?_
  refine va_get (D := D) (ci := 2) (v := .ref (n_aO g)) (C := RM) (T := TM) (N := 12) hx hb hk inM hown hK hP 0 rfl rfl 1 (by decide) (hk _ zk454) (fun _ h9 => h9) rfl d_M_word_19 ?_
  refine lv_iload_n hx hb d_M_word_22 rfl (lv_at hl 1 rfl) ?_
  refine lv_iconst (v := nI 2) hx hb d_M_word_23 (by decide) ?_
  refine lv_iadd hx hb d_M_word_24 ?_
  refine zh_t (show (nI x + nI 2) = nI (x + 2) from nI_add _ _) ?_
  refine va_iald hx hb hK hP 1 0 rfl rfl (vp_in_nI (by omega) (by decide)) d_M_word_25 ?_
  refine zh_t (show nI (m_oct z (nI (x + 2)).toNatClampNeg) = nI (m_oct z (x + 2)) from by rw [nI_clamp (by omega)]) ?_
  refine lv_bipush (v := nI 16) hx hb d_M_word_26 (by decide) ?_
  refine lv_ishl hx hb d_M_word_28 ?_
  refine lv_ior hx hb d_M_word_29 ?_
  refine lv_aload_n hx hb d_M_word_30 rfl (lv_at hl 0 rfl) ?_
  refine va_get (D := D) (ci := 2) (v := .ref (n_aO g)) (C := RM) (T := TM) (N := 12) hx hb hk inM hown hK hP 0 rfl rfl 1 (by decide) (hk _ zk454) (fun _ h9 => h9) rfl d_M_word_31 ?_
  refine lv_iload_n hx hb d_M_word_34 rfl (lv_at hl 1 rfl) ?_
  refine lv_iconst (v := nI 3) hx hb d_M_word_35 (by decide) ?_
  refine lv_iadd hx hb d_M_word_36 ?_
  refine zh_t (show (nI x + nI 3) = nI (x + 3) from nI_add _ _) ?_
  refine va_iald hx hb hK hP 1 0 rfl rfl (vp_in_nI (by omega) (by decide)) d_M_word_37 ?_
  refine zh_t (show nI (m_oct z (nI (x + 3)).toNatClampNeg) = nI (m_oct z (x + 3)) from by rw [nI_clamp (by omega)]) ?_
  refine lv_bipush (v := nI 24) hx hb d_M_word_38 (by decide) ?_
  refine lv_ishl hx hb d_M_word_40 ?_
  refine lv_ior hx hb d_M_word_41 ?_
  exact W.iret hx hb hr (fun t ht hW => ⟨_, rfl, mh_word (hz.2.2.1 _) (hz.2.2.1 _) (hz.2.2.1 _) (hz.2.2.1 _), ht⟩) (fun q h => absurd h List.not_mem_nil) d_M_word_42
set_option maxHeartbeats 1000000 in
set_option maxRecDepth 100000 in
theorem c_M_touch_ok (l : Launch) (D : va_G) (t0 : Nat) (g : MG) (z : MT) (sz : Nat) (v : Int32) (hz : mOK z) : Met l y_M_touch w_M_touch ({ frames := 1, cells := 0, slots := 0, locals := 30 }) (zPre D t0 (mT g) (mW g z) sz [.ref (n_h g), .int v]) (va_Qi (fun r u => (r = zb false ∧ u = z ∧ ∀ k : Nat, k < m_many z → mlead z v k → m_rea z k = true) ∨ (∃ k : Nat, k < m_many z ∧ mlead z v k ∧ m_rea z k = false ∧ r = zb true ∧ u = mu_rea z (va_up (m_rea z) k true))) (fun (u : MT) t => zPost D (mT g) (va_A (mW g z) sz) (mW g u) t) (va_A (mW g z) sz)) 0 0 (va_A (mW g z) sz) := by
  refine Met.ofW (cc := c_M_touch) (maxL := 3) (ret := (some .boolean)) (by decide) rfl ?_
  intro p e s m args below meth c s₁ B hml hv
  obtain ⟨rfl, hsz, hP, hK, hD0, hE⟩ := hv
  have hx := B.exec
  have hb := B.bytes
  have hr := B.returns
  have hts := atoms_spec (ws := w_M_touch) B.pre
  have hk : ∀ w ∈ zB, w.before _ s = true := fun w h => hts w (List.mem_cons_of_mem _ h)
  have hown : s.vm.findClass "ZoneHeapModel" = some m.cls := findClass_of_methodNamed B.named
  have hlocks := B.notSynchronized
  subst hsz
  have hD := hD0.self (sz := s.heap.size)
  generalize hAe : va_A (mW g z) s.heap.size = A at hD hE ⊢
  have hA : ∀ q : Nat, s.heap.size ≤ q → A q := fun q h => by rw [← hAe]; exact Or.inr h
  have hS : va_S A s.heap s.heap [] := va_S.rf
  have hl := lv_entry ([.ref (n_h g), .int v]) (n := 3) (Nat.le_of_ble_eq_true rfl)
  rw [lg_entry_eq]
  generalize (lg_sl ([.ref (n_h g), .int v]) ++ List.replicate (3 - (lg_sl ([.ref (n_h g), .int v])).length) Slot.unset).toArray = ls at hl ⊢
  have hl : lv_has ls 3 [(0, .ref (n_h g)), (1, .int v)] := hl
  have hm := hz.many
  refine lv_aload_n hx hb d_M_touch_0 rfl (lv_at hl 0 rfl) ?_
  refine lv_iload_n hx hb d_M_touch_1 rfl (lv_at hl 1 rfl) ?_
  refine vp_callSi (zrV (n := 1) (As := [.int v]) (rest := []) ⟨hx, hb, hml, hown, hk⟩ (c_M_leads_ok l D t0 g z s.heap.size v hz) zk570 zk572 ks_M_leads zk5 kc_M_leads ⟨rfl, by decide, by decide, by decide⟩ rfl rfl ⟨Nat.le_of_ble_eq_true rfl, Nat.le_of_ble_eq_true rfl⟩ ⟨hP, hK, hD, hS, hA, hE⟩ (va_recv hK hP (ci := 2) (q0 := 0) rfl rfl) rfl hl.1 rfl (Nat.le_of_ble_eq_true rfl) d_M_touch_2 ⟨Nat.le_of_ble_eq_true rfl, Nat.le_of_ble_eq_true rfl⟩).run (fun r hr1 => ?_)
  rcases hr1 with ⟨rfl, hno⟩ | ⟨k, hk5, rfl, hl1, hfirst⟩
  · refine lv_istore_n (lv' := [(2, .int ((-1))), (0, .ref (n_h g)), (1, .int v)]) hx hb d_M_touch_5 rfl hl (by decide) rfl (fun ls hl => ?_)
    refine lv_iload_n hx hb d_M_touch_6 rfl (lv_at hl 0 rfl) ?_
    refine lv_if_lt (tgt := 19) hx hb d_M_touch_7 (by decide) (fun h => ?_) (fun h => ?_)
    rotate_left 1
    · exact absurd (by decide) h
    refine lv_iconst (v := nI 0) hx hb d_M_touch_19 (by decide) ?_
    refine zh_t (show nI 0 = zb false from rfl) ?_
    exact W.zret hx hb hr (zh_nar _) (fun t ht hW => ⟨⟨_, z, rfl, Or.inl ⟨rfl, rfl, fun k hk q => absurd q (hno k hk)⟩, by rw [ht]; exact hP, va_K.moved hW.alike hK, hD⟩, hS.F ht⟩) hS.2.2 d_M_touch_20
  refine lv_istore_n (lv' := [(2, .int (nI k)), (0, .ref (n_h g)), (1, .int v)]) hx hb d_M_touch_5 rfl hl (by decide) rfl (fun ls hl => ?_)
  refine lv_iload_n hx hb d_M_touch_6 rfl (lv_at hl 0 rfl) ?_
  refine lv_if_lt (tgt := 19) hx hb d_M_touch_7 (by decide) (fun h => ?_) (fun h => ?_)
  · rw [show (0 : Int32) = nI 0 from rfl, nI_ltI (by omega) (by omega)] at h
    exact absurd h (by omega)
  rw [show (0 : Int32) = nI 0 from rfl, nI_ltI (by omega) (by omega)] at h
  refine lv_aload_n hx hb d_M_touch_10 rfl (lv_at hl 1 rfl) ?_
  refine va_get (D := D) (ci := 2) (v := .ref (n_aR g)) (C := RM) (T := TM) (N := 12) hx hb hk inM hown hK hP 0 rfl rfl 6 (by decide) (hk _ zk459) (fun _ h9 => h9) rfl d_M_touch_11 ?_
  refine lv_iload_n hx hb d_M_touch_14 rfl (lv_at hl 0 rfl) ?_
  refine va_zald hx hb hK hP 6 5 rfl rfl (vp_in_nI (by omega) (by decide)) d_M_touch_15 ?_
  refine zh_t (show zb (m_rea z (nI k).toNatClampNeg) = zb (m_rea z k) from by rw [nI_clamp (by omega)]) ?_
  refine lv_if_eq (tgt := 21) hx hb d_M_touch_16 (by decide) (fun h => ?_) (fun h => ?_)
  rotate_left 1
  · rw [zh_zb] at h
    have h := ts_nf h
    refine lv_iconst (v := nI 0) hx hb d_M_touch_19 (by decide) ?_
    refine zh_t (show nI 0 = zb false from rfl) ?_
    exact W.zret hx hb hr (zh_nar _) (fun t ht hW => ⟨⟨_, z, rfl, Or.inl ⟨rfl, rfl, fun j hj q => by rw [mlead_one hz hj hk5 q hl1]; exact h⟩, by rw [ht]; exact hP, va_K.moved hW.alike hK, hD⟩, hS.F ht⟩) hS.2.2 d_M_touch_20
  rw [zh_zb] at h
  refine lv_aload_n hx hb d_M_touch_21 rfl (lv_at hl 1 rfl) ?_
  refine va_get (D := D) (ci := 2) (v := .ref (n_aR g)) (C := RM) (T := TM) (N := 12) hx hb hk inM hown hK hP 0 rfl rfl 6 (by decide) (hk _ zk459) (fun _ h9 => h9) rfl d_M_touch_22 ?_
  refine lv_iload_n hx hb d_M_touch_25 rfl (lv_at hl 0 rfl) ?_
  refine lv_iconst (v := nI 1) hx hb d_M_touch_26 (by decide) ?_
  refine zh_t (show nI 1 = zb true from rfl) ?_
  refine va_zast hx hb hK hP hD hS 6 5 rfl rfl (vp_in_nI (by omega) (by decide)) d_M_touch_27 (fun H locs hP hD hS => ?_)
  rw [zh_vnar, zh_updB (by omega)] at hP hD
  have hP : va_P D zcl (mW g (mmk (m_err z) (m_oct z) (m_pl z) (m_sz z) (m_sta z) (m_sin z) (va_up (m_rea z) k true) (m_fnd z) (m_many z) (m_made z) (m_backs z) (m_lm z))) H := hP
  have hD : va_D A (mW g (mmk (m_err z) (m_oct z) (m_pl z) (m_sz z) (m_sta z) (m_sin z) (va_up (m_rea z) k true) (m_fnd z) (m_many z) (m_made z) (m_backs z) (m_lm z))) := hD
  refine lv_iconst (v := nI 1) hx hb d_M_touch_28 (by decide) ?_
  refine zh_t (show nI 1 = zb true from rfl) ?_
  exact W.zret hx hb hr (zh_nar _) (fun t ht hW => ⟨⟨_, (mmk (m_err z) (m_oct z) (m_pl z) (m_sz z) (m_sta z) (m_sin z) (va_up (m_rea z) k true) (m_fnd z) (m_many z) (m_made z) (m_backs z) (m_lm z)), rfl, Or.inr ⟨k, hk5, hl1, h, rfl, rfl⟩, by rw [ht]; exact hP, va_K.moved hW.alike hK, hD⟩, hS.F ht⟩) hS.2.2 d_M_touch_29
