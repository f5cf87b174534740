set_option maxHeartbeats 1000000 in
set_option maxRecDepth 100000 in
theorem c_M_thrown_ok (l : Launch) (D : va_G) (t0 : Nat) (g : MG) (z : MT) (sz : Nat)  : Met l y_M_thrown w_M_thrown ({ frames := 0, cells := 0, slots := 0, locals := 0 }) (zPre D t0 (mT g) (mW g z) sz [.ref (n_h g)]) (vp_Si (fun r => r = nI (m_err z))) 0 0 (fun _ => False) := by
  refine Met.ofW (cc := c_M_thrown) (maxL := 1) (ret := (some .int)) (by decide) rfl ?_
  intro p e s m args below meth c s₁ B hml hv
  obtain ⟨rfl, hsz, hP, hK, hD0, hE⟩ := hv
  have hx := B.exec
  have hb := B.bytes
  have hr := B.returns
  have hts := atoms_spec (ws := w_M_thrown) B.pre
  have hk : ∀ w ∈ zB, w.before _ s = true := fun w h => hts w (List.mem_cons_of_mem _ h)
  have hown : s.vm.findClass "ZoneHeapModel" = some m.cls := findClass_of_methodNamed B.named
  have hlocks := B.notSynchronized
  subst hsz
  have hD := hD0.self (sz := s.heap.size)
  generalize hAe : va_A (mW g z) s.heap.size = A at hD hE
  have hA : ∀ q : Nat, s.heap.size ≤ q → A q := fun q h => by rw [← hAe]; exact Or.inr h
  have hS : va_S A s.heap s.heap [] := va_S.rf
  have hl := lv_entry ([.ref (n_h g)]) (n := 1) (Nat.le_of_ble_eq_true rfl)
  rw [lg_entry_eq]
  generalize (lg_sl ([.ref (n_h g)]) ++ List.replicate (1 - (lg_sl ([.ref (n_h g)])).length) Slot.unset).toArray = ls at hl ⊢
  have hl : lv_has ls 1 [(0, .ref (n_h g))] := hl
  refine lv_aload_n hx hb d_M_thrown_0 rfl (lv_at hl 0 rfl) ?_
  refine va_get (D := D) (ci := 2) (v := .int (nI (m_err z))) (C := RM) (T := TM) (N := 12) hx hb hk inM hown hK hP 0 rfl rfl 0 (by decide) (hk _ zk453) (fun _ h9 => h9) rfl d_M_thrown_1 ?_
  exact W.iret hx hb hr (fun t ht hW => ⟨_, rfl, rfl, ht⟩) (fun q h => absurd h List.not_mem_nil) d_M_thrown_4
set_option maxHeartbeats 1000000 in
set_option maxRecDepth 100000 in
theorem c_M_fails_ok (l : Launch) (D : va_G) (t0 : Nat) (g : MG) (z : MT) (sz : Nat) (b : Bool) (y : Nat) : Met l y_M_fails w_M_fails ({ frames := 0, cells := 0, slots := 0, locals := 0 }) (zPre D t0 (mT g) (mW g z) sz [.ref (n_h g), .int (zb b), .int (nI y)]) (va_Qi (fun r u => r = zb b ∧ u = mu_err z (if b = true then y else 0)) (fun (u : MT) t => zPost D (mT g) (va_A (mW g z) sz) (mW g u) t) (va_A (mW g z) sz)) 0 0 (va_A (mW g z) sz) := by
  refine Met.ofW (cc := c_M_fails) (maxL := 3) (ret := (some .boolean)) (by decide) rfl ?_
  intro p e s m args below meth c s₁ B hml hv
  obtain ⟨rfl, hsz, hP, hK, hD0, hE⟩ := hv
  have hx := B.exec
  have hb := B.bytes
  have hr := B.returns
  have hts := atoms_spec (ws := w_M_fails) B.pre
  have hk : ∀ w ∈ zB, w.before _ s = true := fun w h => hts w (List.mem_cons_of_mem _ h)
  have hown : s.vm.findClass "ZoneHeapModel" = some m.cls := findClass_of_methodNamed B.named
  have hlocks := B.notSynchronized
  subst hsz
  have hD := hD0.self (sz := s.heap.size)
  generalize hAe : va_A (mW g z) s.heap.size = A at hD hE ⊢
  have hA : ∀ q : Nat, s.heap.size ≤ q → A q := fun q h => by rw [← hAe]; exact Or.inr h
  have hS : va_S A s.heap s.heap [] := va_S.rf
  have hl := lv_entry ([.ref (n_h g), .int (zb b), .int (nI y)]) (n := 3) (Nat.le_of_ble_eq_true rfl)
  rw [lg_entry_eq]
  generalize (lg_sl ([.ref (n_h g), .int (zb b), .int (nI y)]) ++ List.replicate (3 - (lg_sl ([.ref (n_h g), .int (zb b), .int (nI y)])).length) Slot.unset).toArray = ls at hl ⊢
  have hl : lv_has ls 3 [(0, .ref (n_h g)), (1, .int (zb b)), (2, .int (nI y))] := hl
  refine lv_aload_n hx hb d_M_fails_0 rfl (lv_at hl 0 rfl) ?_
  refine lv_iload_n hx hb d_M_fails_1 rfl (lv_at hl 1 rfl) ?_
  refine lv_if_eq (tgt := 9) hx hb d_M_fails_2 (by decide) (fun h => ?_) (fun h => ?_)
  · rw [zh_zb] at h
    refine lv_iconst (v := nI 0) hx hb d_M_fails_9 (by decide) ?_
    refine va_put (D := D) (ci := 2) (v := .int (nI 0)) (ty := .int) (C := RM) (T := TM) (N := 12) hx hb hk inM tyM okM nmM hown hK hP hD hS 0 rfl rfl 0 (by decide) (hk _ zk453) (fun _ h9 => h9) rfl (by decide +kernel) rfl rfl (Nat.le_of_ble_eq_true rfl) d_M_fails_10 (fun H locs hP hD hS => ?_)
    have hP : va_P D zcl (mW g (mmk 0 (m_oct z) (m_pl z) (m_sz z) (m_sta z) (m_sin z) (m_rea z) (m_fnd z) (m_many z) (m_made z) (m_backs z) (m_lm z))) H := hP
    have hD : va_D A (mW g (mmk 0 (m_oct z) (m_pl z) (m_sz z) (m_sta z) (m_sin z) (m_rea z) (m_fnd z) (m_many z) (m_made z) (m_backs z) (m_lm z))) := hD
    refine lv_iload_n hx hb d_M_fails_13 rfl (lv_at hl 1 rfl) ?_
    exact W.zret hx hb hr (zh_nar _) (fun t ht hW => ⟨⟨_, (mu_err z 0), rfl, ⟨rfl, by rw [h]; rfl⟩, by rw [ht]; exact hP, va_K.moved hW.alike hK, hD⟩, hS.F ht⟩) hS.2.2 d_M_fails_14
  rw [zh_zb] at h
  have h := ts_nf h
  refine lv_iload_n hx hb d_M_fails_5 rfl (lv_at hl 2 rfl) ?_
  refine lv_goto (tgt := 10) hx hb d_M_fails_6 (by decide) ?_
  refine va_put (D := D) (ci := 2) (v := .int (nI y)) (ty := .int) (C := RM) (T := TM) (N := 12) hx hb hk inM tyM okM nmM hown hK hP hD hS 0 rfl rfl 0 (by decide) (hk _ zk453) (fun _ h9 => h9) rfl (by decide +kernel) rfl rfl (Nat.le_of_ble_eq_true rfl) d_M_fails_10 (fun H locs hP hD hS => ?_)
  have hP : va_P D zcl (mW g (mmk y (m_oct z) (m_pl z) (m_sz z) (m_sta z) (m_sin z) (m_rea z) (m_fnd z) (m_many z) (m_made z) (m_backs z) (m_lm z))) H := hP
  have hD : va_D A (mW g (mmk y (m_oct z) (m_pl z) (m_sz z) (m_sta z) (m_sin z) (m_rea z) (m_fnd z) (m_many z) (m_made z) (m_backs z) (m_lm z))) := hD
  refine lv_iload_n hx hb d_M_fails_13 rfl (lv_at hl 1 rfl) ?_
  exact W.zret hx hb hr (zh_nar _) (fun t ht hW => ⟨⟨_, (mu_err z y), rfl, ⟨rfl, by rw [if_pos h]⟩, by rw [ht]; exact hP, va_K.moved hW.alike hK, hD⟩, hS.F ht⟩) hS.2.2 d_M_fails_14
set_option maxHeartbeats 1000000 in
set_option maxRecDepth 100000 in
theorem c_M_taken_ok (l : Launch) (D : va_G) (t0 : Nat) (tys : List (ClassId × FieldType)) (w : va_W) (sz : Nat) (n : Nat) (hn : n ≤ 2048) : Met l y_M_taken w_M_taken ({ frames := 0, cells := 0, slots := 0, locals := 0 }) (zPre D t0 (tys) (w) sz [.int (nI n)]) (vp_Si (fun r => r = nI (16 * zc n))) 0 0 (fun _ => False) := by
  refine Met.ofW (cc := c_M_taken) (maxL := 1) (ret := (some .int)) (by decide) rfl ?_
  intro p e s m args below meth c s₁ B hml hv
  obtain ⟨rfl, hsz, hP, hK, hD0, hE⟩ := hv
  have hx := B.exec
  have hb := B.bytes
  have hr := B.returns
  have hts := atoms_spec (ws := w_M_taken) B.pre
  have hk : ∀ w ∈ zB, w.before _ s = true := fun w h => hts w (List.mem_cons_of_mem _ h)
  have hown : s.vm.findClass "ZoneHeapModel" = some m.cls := findClass_of_methodNamed B.named
  have hlocks := B.notSynchronized
  subst hsz
  have hD := hD0.self (sz := s.heap.size)
  generalize hAe : va_A (w) s.heap.size = A at hD hE
  have hA : ∀ q : Nat, s.heap.size ≤ q → A q := fun q h => by rw [← hAe]; exact Or.inr h
  have hS : va_S A s.heap s.heap [] := va_S.rf
  have hl := lv_entry ([.int (nI n)]) (n := 1) (Nat.le_of_ble_eq_true rfl)
  rw [lg_entry_eq]
  generalize (lg_sl ([.int (nI n)]) ++ List.replicate (1 - (lg_sl ([.int (nI n)])).length) Slot.unset).toArray = ls at hl ⊢
  have hl : lv_has ls 1 [(0, .int (nI n))] := hl
  refine lv_iload_n hx hb d_M_taken_0 rfl (lv_at hl 0 rfl) ?_
  refine lv_if_ne (tgt := 9) hx hb d_M_taken_1 (by decide) (fun h => ?_) (fun h => ?_)
  rotate_left 1
  · rw [show (0 : Int32) = nI 0 from rfl, nI_eq (by omega) (by omega)] at h
    refine lv_bipush (v := nI 16) hx hb d_M_taken_4 (by decide) ?_
    refine lv_goto (tgt := 21) hx hb d_M_taken_6 (by decide) ?_
    exact W.iret hx hb hr (fun t ht hW => ⟨_, rfl, by rw [h]; rfl, ht⟩) (fun q h => absurd h List.not_mem_nil) d_M_taken_21
  rw [show (0 : Int32) = nI 0 from rfl, nI_eq (by omega) (by omega)] at h
  refine lv_iload_n hx hb d_M_taken_9 rfl (lv_at hl 0 rfl) ?_
  refine lv_bipush (v := nI 16) hx hb d_M_taken_10 (by decide) ?_
  refine lv_iadd hx hb d_M_taken_12 ?_
  refine zh_t (show (nI n + nI 16) = nI (n + 16) from nI_add _ _) ?_
  refine lv_iconst (v := nI 1) hx hb d_M_taken_13 (by decide) ?_
  refine lv_isub hx hb d_M_taken_14 ?_
  refine zh_t (show (nI (n + 16) - nI 1) = nI (n + 16 - 1) from pk_sub (by omega)) ?_
  refine lv_bipush (v := nI 16) hx hb d_M_taken_15 (by decide) ?_
  refine lv_idiv hx hb d_M_taken_17 (by decide) ?_
  refine zh_t (show (nI (n + 16 - 1) / nI 16) = nI ((n + 16 - 1) / 16) from pk_div (by omega) (by decide) (by decide)) ?_
  refine lv_bipush (v := nI 16) hx hb d_M_taken_18 (by decide) ?_
  refine lv_imul hx hb d_M_taken_20 ?_
  refine zh_t (show (nI ((n + 16 - 1) / 16) * nI 16) = nI (((n + 16 - 1) / 16) * 16) from pk_mul _ _) ?_
  exact W.iret hx hb hr (fun t ht hW => ⟨_, rfl, congrArg nI (zc16 hn h), ht⟩) (fun q h => absurd h List.not_mem_nil) d_M_taken_21
set_option maxHeartbeats 1000000 in
set_option maxRecDepth 100000 in
theorem c_M_at_ok (l : Launch) (D : va_G) (t0 : Nat) (g : MG) (z : MT) (sz : Nat) (v : Int32) (y : Nat) (hy : y ≤ 2) (hz : mOK z) : Met l y_M_at w_M_at ({ frames := 0, cells := 0, slots := 0, locals := 0 }) (zPre D t0 (mT g) (mW g z) sz [.ref (n_h g), .int v, .int (nI y)]) (vp_Si (fun r => zfst (fun k => nI (m_pl z k) = v ∧ m_sta z k = y) (m_many z) r)) 0 0 (fun _ => False) := by
  refine Met.ofW (cc := c_M_at) (maxL := 4) (ret := (some .int)) (by decide) rfl ?_
  intro p e s m args below meth c s₁ B hml hv
  obtain ⟨rfl, hsz, hP, hK, hD0, hE⟩ := hv
  have hx := B.exec
  have hb := B.bytes
  have hr := B.returns
  have hts := atoms_spec (ws := w_M_at) B.pre
  have hk : ∀ w ∈ zB, w.before _ s = true := fun w h => hts w (List.mem_cons_of_mem _ h)
  have hown : s.vm.findClass "ZoneHeapModel" = some m.cls := findClass_of_methodNamed B.named
  have hlocks := B.notSynchronized
  subst hsz
  have hD := hD0.self (sz := s.heap.size)
  generalize hAe : va_A (mW g z) s.heap.size = A at hD hE
  have hA : ∀ q : Nat, s.heap.size ≤ q → A q := fun q h => by rw [← hAe]; exact Or.inr h
  have hS : va_S A s.heap s.heap [] := va_S.rf
  have hl := lv_entry ([.ref (n_h g), .int v, .int (nI y)]) (n := 4) (Nat.le_of_ble_eq_true rfl)
  rw [lg_entry_eq]
  generalize (lg_sl ([.ref (n_h g), .int v, .int (nI y)]) ++ List.replicate (4 - (lg_sl ([.ref (n_h g), .int v, .int (nI y)])).length) Slot.unset).toArray = ls at hl ⊢
  have hl : lv_has ls 4 [(0, .ref (n_h g)), (1, .int v), (2, .int (nI y))] := hl
  have hm := hz.many
  refine lv_iconst (v := nI 0) hx hb d_M_at_0 (by decide) ?_
  refine lv_istore_n (lv' := [(3, .int (nI 0)), (0, .ref (n_h g)), (1, .int v), (2, .int (nI y))]) hx hb d_M_at_1 rfl hl (by decide) rfl (fun ls hl => ?_)
  refine zh_loop0 (A := Nat) (fun q ls => lv_has ls 4 [(0, .ref (n_h g)), (1, .int v), (2, .int (nI y)), (3, .int (nI q))] ∧ (q ≤ m_many z) ∧ (∀ j : Nat, j < q → ¬ (nI (m_pl z j) = v ∧ m_sta z j = y))) (fun q => m_many z - q) ?_ 0 ⟨lv_sub hl [1, 2, 3, 0] rfl, Nat.zero_le _, fun j hj => absurd hj (Nat.not_lt_zero _)⟩
  rintro i ls ⟨hl, hi, hno⟩ ih
  have hl : lv_has ls 4 [(0, .ref (n_h g)), (1, .int v), (2, .int (nI y)), (3, .int (nI i))] := hl
  have hi : i ≤ m_many z := hi
  have hno : ∀ j : Nat, j < i → ¬ (nI (m_pl z j) = v ∧ m_sta z j = y) := hno
  refine lv_iload_n hx hb d_M_at_2 rfl (lv_at hl 3 rfl) ?_
  refine lv_aload_n hx hb d_M_at_3 rfl (lv_at hl 0 rfl) ?_
  refine va_get (D := D) (ci := 2) (v := .int (nI (m_many z))) (C := RM) (T := TM) (N := 12) hx hb hk inM hown hK hP 0 rfl rfl 8 (by decide) (hk _ zk461) (fun _ h9 => h9) rfl d_M_at_4 ?_
  refine lv_icmp_ge (tgt := 38) hx hb d_M_at_7 (by decide) (fun h => ?_) (fun h => ?_)
  · rw [nI_leI (by omega) (by omega)] at h
    refine lv_iconst (v := ((-1))) hx hb d_M_at_38 (by decide) ?_
    exact W.iret hx hb hr (fun t ht hW => ⟨_, rfl, Or.inl ⟨rfl, fun k hk => hno k (by omega)⟩, ht⟩) (fun q h => absurd h List.not_mem_nil) d_M_at_39
  rw [nI_leI (by omega) (by omega)] at h
  have hat := hz.at (k := i) (by omega)
  refine lv_aload_n hx hb d_M_at_10 rfl (lv_at hl 0 rfl) ?_
  refine va_get (D := D) (ci := 2) (v := .ref (n_aP g)) (C := RM) (T := TM) (N := 12) hx hb hk inM hown hK hP 0 rfl rfl 2 (by decide) (hk _ zk455) (fun _ h9 => h9) rfl d_M_at_11 ?_
  refine lv_iload_n hx hb d_M_at_14 rfl (lv_at hl 3 rfl) ?_
  refine va_iald hx hb hK hP 2 1 rfl rfl (vp_in_nI (by omega) (by decide)) d_M_at_15 ?_
  refine zh_t (show nI (m_pl z (nI i).toNatClampNeg) = nI (m_pl z i) from by rw [nI_clamp (by omega)]) ?_
  refine lv_iload_n hx hb d_M_at_16 rfl (lv_at hl 1 rfl) ?_
  refine lv_icmp_ne (tgt := 32) hx hb d_M_at_17 (by decide) (fun h2 => ?_) (fun h2 => ?_)
  · refine lv_iinc (lv' := [(3, .int (nI (i + 1))), (0, .ref (n_h g)), (1, .int v), (2, .int (nI y))]) (v := nI (i + 1)) hx hb d_M_at_32 hl (k := 3) rfl (nI_add _ _) (by decide) rfl (fun ls hl => ?_)
    refine lv_goto (tgt := 2) hx hb d_M_at_35 (by decide) ?_
    exact ih (i + 1) ls ⟨lv_sub hl [1, 2, 3, 0] rfl, by omega, lt_s hno (fun q => h2 q.1)⟩ (by show _ < _; (try dsimp only); omega)
  refine lv_aload_n hx hb d_M_at_20 rfl (lv_at hl 0 rfl) ?_
  refine va_get (D := D) (ci := 2) (v := .ref (n_aT g)) (C := RM) (T := TM) (N := 12) hx hb hk inM hown hK hP 0 rfl rfl 4 (by decide) (hk _ zk457) (fun _ h9 => h9) rfl d_M_at_21 ?_
  refine lv_iload_n hx hb d_M_at_24 rfl (lv_at hl 3 rfl) ?_
  refine va_iald hx hb hK hP 4 3 rfl rfl (vp_in_nI (by omega) (by decide)) d_M_at_25 ?_
  refine zh_t (show nI (m_sta z (nI i).toNatClampNeg) = nI (m_sta z i) from by rw [nI_clamp (by omega)]) ?_
  refine lv_iload_n hx hb d_M_at_26 rfl (lv_at hl 2 rfl) ?_
  refine lv_icmp_ne (tgt := 32) hx hb d_M_at_27 (by decide) (fun h3 => ?_) (fun h3 => ?_)
  · rw [nI_eq (by omega) (by omega)] at h3
    refine lv_iinc (lv' := [(3, .int (nI (i + 1))), (0, .ref (n_h g)), (1, .int v), (2, .int (nI y))]) (v := nI (i + 1)) hx hb d_M_at_32 hl (k := 3) rfl (nI_add _ _) (by decide) rfl (fun ls hl => ?_)
    refine lv_goto (tgt := 2) hx hb d_M_at_35 (by decide) ?_
    exact ih (i + 1) ls ⟨lv_sub hl [1, 2, 3, 0] rfl, by omega, lt_s hno (fun q => h3 q.2)⟩ (by show _ < _; (try dsimp only); omega)
  rw [nI_eq (by omega) (by omega)] at h3
  refine lv_iload_n hx hb d_M_at_30 rfl (lv_at hl 3 rfl) ?_
  exact W.iret hx hb hr (fun t ht hW => ⟨_, rfl, Or.inr ⟨i, by omega, rfl, ⟨h2, h3⟩, hno⟩, ht⟩) (fun q h => absurd h List.not_mem_nil) d_M_at_31
set_option maxHeartbeats 1000000 in
set_option maxRecDepth 100000 in
theorem c_M_kept_ok (l : Launch) (D : va_G) (t0 : Nat) (g : MG) (z : MT) (sz : Nat) (hz : mOK z) : Met l y_M_kept w_M_kept ({ frames := 0, cells := 0, slots := 0, locals := 0 }) (zPre D t0 (mT g) (mW g z) sz [.ref (n_h g)]) (vp_Si (fun r => r = nI (mkept z))) 0 0 (fun _ => False) := by
  refine Met.ofW (cc := c_M_kept) (maxL := 3) (ret := (some .int)) (by decide) rfl ?_
  intro p e s m args below meth c s₁ B hml hv
  obtain ⟨rfl, hsz, hP, hK, hD0, hE⟩ := hv
  have hx := B.exec
  have hb := B.bytes
  have hr := B.returns
  have hts := atoms_spec (ws := w_M_kept) B.pre
  have hk : ∀ w ∈ zB, w.before _ s = true := fun w h => hts w (List.mem_cons_of_mem _ h)
  have hown : s.vm.findClass "ZoneHeapModel" = some m.cls := findClass_of_methodNamed B.named
  have hlocks := B.notSynchronized
  subst hsz
  have hD := hD0.self (sz := s.heap.size)
  generalize hAe : va_A (mW g z) s.heap.size = A at hD hE
  have hA : ∀ q : Nat, s.heap.size ≤ q → A q := fun q h => by rw [← hAe]; exact Or.inr h
  have hS : va_S A s.heap s.heap [] := va_S.rf
  have hl := lv_entry ([.ref (n_h g)]) (n := 3) (Nat.le_of_ble_eq_true rfl)
  rw [lg_entry_eq]
  generalize (lg_sl ([.ref (n_h g)]) ++ List.replicate (3 - (lg_sl ([.ref (n_h g)])).length) Slot.unset).toArray = ls at hl ⊢
  have hl : lv_has ls 3 [(0, .ref (n_h g))] := hl
  have hm := hz.many
  refine lv_iconst (v := nI 0) hx hb d_M_kept_0 (by decide) ?_
  refine lv_istore_n (lv' := [(1, .int (nI 0)), (0, .ref (n_h g))]) hx hb d_M_kept_1 rfl hl (by decide) rfl (fun ls hl => ?_)
  refine lv_iconst (v := nI 0) hx hb d_M_kept_2 (by decide) ?_
  refine lv_istore_n (lv' := [(2, .int (nI 0)), (1, .int (nI 0)), (0, .ref (n_h g))]) hx hb d_M_kept_3 rfl hl (by decide) rfl (fun ls hl => ?_)
  refine zh_loop0 (A := Nat) (fun q ls => lv_has ls 3 [(0, .ref (n_h g)), (1, .int (nI (zsum (fun k => if m_sta z k = 2 then m_sz z k else 0) q))), (2, .int (nI q))] ∧ (q ≤ m_many z)) (fun q => m_many z - q) ?_ 0 ⟨lv_sub hl [2, 1, 0] rfl, Nat.zero_le _⟩
  rintro i ls ⟨hl, hi⟩ ih
  have hl : lv_has ls 3 [(0, .ref (n_h g)), (1, .int (nI (zsum (fun k => if m_sta z k = 2 then m_sz z k else 0) i))), (2, .int (nI i))] := hl
  have hi : i ≤ m_many z := hi
  refine lv_iload_n hx hb d_M_kept_4 rfl (lv_at hl 2 rfl) ?_
  refine lv_aload_n hx hb d_M_kept_5 rfl (lv_at hl 0 rfl) ?_
  refine va_get (D := D) (ci := 2) (v := .int (nI (m_many z))) (C := RM) (T := TM) (N := 12) hx hb hk inM hown hK hP 0 rfl rfl 8 (by decide) (hk _ zk461) (fun _ h9 => h9) rfl d_M_kept_6 ?_
  refine lv_icmp_ge (tgt := 37) hx hb d_M_kept_9 (by decide) (fun h => ?_) (fun h => ?_)
  · rw [nI_leI (by omega) (by omega)] at h
    have hie : i = m_many z := by omega
    refine lv_iload_n hx hb d_M_kept_37 rfl (lv_at hl 1 rfl) ?_
    exact W.iret hx hb hr (fun t ht hW => ⟨_, rfl, by rw [hie]; rfl, ht⟩) (fun q h => absurd h List.not_mem_nil) d_M_kept_38
  rw [nI_leI (by omega) (by omega)] at h
  have hat := hz.at (k := i) (by omega)
  refine lv_aload_n hx hb d_M_kept_12 rfl (lv_at hl 0 rfl) ?_
  refine va_get (D := D) (ci := 2) (v := .ref (n_aT g)) (C := RM) (T := TM) (N := 12) hx hb hk inM hown hK hP 0 rfl rfl 4 (by decide) (hk _ zk457) (fun _ h9 => h9) rfl d_M_kept_13 ?_
  refine lv_iload_n hx hb d_M_kept_16 rfl (lv_at hl 2 rfl) ?_
  refine va_iald hx hb hK hP 4 3 rfl rfl (vp_in_nI (by omega) (by decide)) d_M_kept_17 ?_
  refine zh_t (show nI (m_sta z (nI i).toNatClampNeg) = nI (m_sta z i) from by rw [nI_clamp (by omega)]) ?_
  refine lv_iconst (v := nI 2) hx hb d_M_kept_18 (by decide) ?_
  refine lv_icmp_ne (tgt := 31) hx hb d_M_kept_19 (by decide) (fun h => ?_) (fun h => ?_)
  · rw [nI_eq (by omega) (by omega)] at h
    have hl : lv_has ls 3 [(0, .ref (n_h g)), (1, .int (nI (zsum (fun k => if m_sta z k = 2 then m_sz z k else 0) (i + 1)))), (2, .int (nI i))] := by rw [zsum_s, if_neg h]; exact hl
    refine lv_iinc (lv' := [(2, .int (nI (i + 1))), (0, .ref (n_h g)), (1, .int (nI (zsum (fun k => if m_sta z k = 2 then m_sz z k else 0) (i + 1))))]) (v := nI (i + 1)) hx hb d_M_kept_31 hl (k := 2) rfl (nI_add _ _) (by decide) rfl (fun ls hl => ?_)
    refine lv_goto (tgt := 4) hx hb d_M_kept_34 (by decide) ?_
    exact ih (i + 1) ls ⟨lv_sub hl [1, 2, 0] rfl, by omega⟩ (by show _ < _; (try dsimp only); omega)
  rw [nI_eq (by omega) (by omega)] at h
  refine lv_iload_n hx hb d_M_kept_22 rfl (lv_at hl 1 rfl) ?_
  refine lv_aload_n hx hb d_M_kept_23 rfl (lv_at hl 0 rfl) ?_
  refine va_get (D := D) (ci := 2) (v := .ref (n_aS g)) (C := RM) (T := TM) (N := 12) hx hb hk inM hown hK hP 0 rfl rfl 3 (by decide) (hk _ zk456) (fun _ h9 => h9) rfl d_M_kept_24 ?_
  refine lv_iload_n hx hb d_M_kept_27 rfl (lv_at hl 2 rfl) ?_
  refine va_iald hx hb hK hP 3 2 rfl rfl (vp_in_nI (by omega) (by decide)) d_M_kept_28 ?_
  refine zh_t (show nI (m_sz z (nI i).toNatClampNeg) = nI (m_sz z i) from by rw [nI_clamp (by omega)]) ?_
  refine lv_iadd hx hb d_M_kept_29 ?_
  refine zh_t (show (nI (zsum (fun k => if m_sta z k = 2 then m_sz z k else 0) i) + nI (m_sz z i)) = nI ((zsum (fun k => if m_sta z k = 2 then m_sz z k else 0) i) + m_sz z i) from nI_add _ _) ?_
  refine lv_istore_n (lv' := [(1, .int (nI ((zsum (fun k => if m_sta z k = 2 then m_sz z k else 0) i) + m_sz z i))), (0, .ref (n_h g)), (2, .int (nI i))]) hx hb d_M_kept_30 rfl hl (by decide) rfl (fun ls hl => ?_)
  have hl : lv_has ls 3 [(1, .int (nI (zsum (fun k => if m_sta z k = 2 then m_sz z k else 0) (i + 1)))), (0, .ref (n_h g)), (2, .int (nI i))] := by rw [zsum_s, if_pos h]; exact hl
  refine lv_iinc (lv' := [(2, .int (nI (i + 1))), (1, .int (nI (zsum (fun k => if m_sta z k = 2 then m_sz z k else 0) (i + 1)))), (0, .ref (n_h g))]) (v := nI (i + 1)) hx hb d_M_kept_31 hl (k := 2) rfl (nI_add _ _) (by decide) rfl (fun ls hl => ?_)
  refine lv_goto (tgt := 4) hx hb d_M_kept_34 (by decide) ?_
  exact ih (i + 1) ls ⟨lv_sub hl [2, 1, 0] rfl, by omega⟩ (by show _ < _; (try dsimp only); omega)
set_option maxHeartbeats 1000000 in
set_option maxRecDepth 100000 in
theorem c_M_room_ok (l : Launch) (D : va_G) (t0 : Nat) (g : MG) (z : MT) (sz : Nat) (n : Nat) (hn : n ≤ 2048) (hz : mOK z) : Met l y_M_room w_M_room ({ frames := 1, cells := 0, slots := 0, locals := 20 }) (zPre D t0 (mT g) (mW g z) sz [.ref (n_h g), .int (nI n)]) (vp_Si (fun r => ∃ k : Nat, mroom z n k ∧ r = nI (16 * k))) 0 0 (fun _ => False) := by
  refine Met.ofW (cc := c_M_room) (maxL := 5) (ret := (some .int)) (by decide) rfl ?_
  intro p e s m args below meth c s₁ B hml hv
  obtain ⟨rfl, hsz, hP, hK, hD0, hE⟩ := hv
  have hx := B.exec
  have hb := B.bytes
  have hr := B.returns
  have hts := atoms_spec (ws := w_M_room) B.pre
  have hk : ∀ w ∈ zB, w.before _ s = true := fun w h => hts w (List.mem_cons_of_mem _ h)
  have hown : s.vm.findClass "ZoneHeapModel" = some m.cls := findClass_of_methodNamed B.named
  have hlocks := B.notSynchronized
  subst hsz
  have hD := hD0.self (sz := s.heap.size)
  generalize hAe : va_A (mW g z) s.heap.size = A at hD hE
  have hA : ∀ q : Nat, s.heap.size ≤ q → A q := fun q h => by rw [← hAe]; exact Or.inr h
  have hS : va_S A s.heap s.heap [] := va_S.rf
  have hl := lv_entry ([.ref (n_h g), .int (nI n)]) (n := 5) (Nat.le_of_ble_eq_true rfl)
  rw [lg_entry_eq]
  generalize (lg_sl ([.ref (n_h g), .int (nI n)]) ++ List.replicate (5 - (lg_sl ([.ref (n_h g), .int (nI n)])).length) Slot.unset).toArray = ls at hl ⊢
  have hl : lv_has ls 5 [(0, .ref (n_h g)), (1, .int (nI n))] := hl
  have hm := hz.many
  have hzc := zc_le hn
  refine lv_bipush (v := nI 16) hx hb d_M_room_0 (by decide) ?_
  refine lv_istore_n (lv' := [(2, .int (nI 16)), (0, .ref (n_h g)), (1, .int (nI n))]) hx hb d_M_room_2 rfl hl (by decide) rfl (fun ls hl => ?_)
  have hl : lv_has ls 5 [(2, .int (nI (16 * 1))), (0, .ref (n_h g)), (1, .int (nI n))] := hl
  refine zh_loop0 (A := Nat) (fun q ls => lv_has ls 5 [(0, .ref (n_h g)), (1, .int (nI n)), (2, .int (nI (16 * q)))] ∧ (1 ≤ q) ∧ (q ≤ 512) ∧ (∀ j : Nat, 1 ≤ j → j < q → ¬ zr_fit (m_many z) (fun k => m_pl z k / 16) (m_sz z) j (zc n))) (fun q => 512 - q) ?_ 1 ⟨lv_sub hl [1, 2, 0] rfl, Nat.le_refl _, by decide, fun j h1 h2 => by omega⟩
  rintro i ls ⟨hl, hi1, hi2, hno⟩ ih
  have hl : lv_has ls 5 [(0, .ref (n_h g)), (1, .int (nI n)), (2, .int (nI (16 * i)))] := hl
  have hi1 : 1 ≤ i := hi1
  have hi2 : i ≤ 512 := hi2
  have hno : ∀ j : Nat, 1 ≤ j → j < i → ¬ zr_fit (m_many z) (fun k => m_pl z k / 16) (m_sz z) j (zc n) := hno
  refine lv_iload_n hx hb d_M_room_3 rfl (lv_at hl 2 rfl) ?_
  refine lv_iload_n hx hb d_M_room_4 rfl (lv_at hl 1 rfl) ?_
  refine vp_callSi (zrS (n := 1) (As := [.int (nI n)]) (rest := [.int (nI (16 * i))]) ⟨hx, hb, hml, hown, hk⟩ (c_M_taken_ok l D t0 (mT g) (mW g z) s.heap.size n hn) zk511 zk512 zk5 kc_M_taken ⟨by decide, by decide, by decide⟩ rfl rfl ⟨Nat.le_of_ble_eq_true rfl, Nat.le_of_ble_eq_true rfl⟩ ⟨hP, hK, hD, hS, hA, hE⟩ rfl hl.1 rfl (Nat.le_of_ble_eq_true rfl) d_M_room_5 ⟨Nat.le_of_ble_eq_true rfl, Nat.le_of_ble_eq_true rfl⟩).run (fun r hr1 => ?_)
  subst hr1
  refine lv_iadd hx hb d_M_room_8 ?_
  refine zh_t (show (nI (16 * i) + nI (16 * zc n)) = nI ((16 * i) + (16 * zc n)) from nI_add _ _) ?_
  refine lv_bipush (v := nI 16) hx hb d_M_room_9 (by decide) ?_
  refine lv_iadd hx hb d_M_room_11 ?_
  refine zh_t (show (nI ((16 * i) + (16 * zc n)) + nI 16) = nI (((16 * i) + (16 * zc n)) + 16) from nI_add _ _) ?_
  refine lv_sipush (v := nI 8192) hx hb d_M_room_12 (by decide) ?_
  refine lv_icmp_gt (tgt := 96) hx hb d_M_room_15 (by decide) (fun h => ?_) (fun h => ?_)
  · rw [nI_ltI (by omega) (by omega)] at h
    refine lv_iconst (v := nI 0) hx hb d_M_room_96 (by decide) ?_
    exact W.iret hx hb hr (fun t ht hW => ⟨_, rfl, ⟨0, Or.inl ⟨rfl, fun c h1 h2 => hno c h1 (by omega)⟩, rfl⟩, ht⟩) (fun q h => absurd h List.not_mem_nil) d_M_room_97
  rw [nI_ltI (by omega) (by omega)] at h
  have hfits := h
  refine lv_iconst (v := nI 1) hx hb d_M_room_18 (by decide) ?_
  refine zh_t (show nI 1 = zb true from rfl) ?_
  refine lv_istore_n (lv' := [(3, .int (zb true)), (0, .ref (n_h g)), (1, .int (nI n)), (2, .int (nI (16 * i)))]) hx hb d_M_room_19 rfl hl (by decide) rfl (fun ls hl => ?_)
  refine lv_iconst (v := nI 0) hx hb d_M_room_20 (by decide) ?_
  refine lv_istore (lv' := [(4, .int (nI 0)), (3, .int (zb true)), (0, .ref (n_h g)), (1, .int (nI n)), (2, .int (nI (16 * i)))]) hx hb d_M_room_21 hl (by decide) rfl (fun ls hl => ?_)
  have ih1 := ih
  refine zh_loop0 (A := Nat × Bool) (fun q ls => lv_has ls 5 [(0, .ref (n_h g)), (1, .int (nI n)), (2, .int (nI (16 * i))), (3, .int (zb q.2)), (4, .int (nI q.1))] ∧ (q.1 ≤ m_many z) ∧ (q.2 = true ↔ ∀ j : Nat, j < q.1 → ¬ (i < m_pl z j / 16 + zc (m_sz z j) + 1 ∧ m_pl z j / 16 < i + zc n + 1))) (fun q => m_many z - q.1) ?_ (0, true) ⟨lv_sub hl [2, 3, 4, 1, 0] rfl, Nat.zero_le _, ⟨fun _ j hj => absurd hj (Nat.not_lt_zero _), fun _ => rfl⟩⟩
  rintro ⟨k, fr⟩ ls ⟨hl, hk5, hfr⟩ ih
  have hl : lv_has ls 5 [(0, .ref (n_h g)), (1, .int (nI n)), (2, .int (nI (16 * i))), (3, .int (zb fr)), (4, .int (nI k))] := hl
  have hk5 : k ≤ m_many z := hk5
  have hfr : fr = true ↔ ∀ j : Nat, j < k → ¬ (i < m_pl z j / 16 + zc (m_sz z j) + 1 ∧ m_pl z j / 16 < i + zc n + 1) := hfr
  refine lv_iload hx hb d_M_room_23 (lv_at hl 4 rfl) ?_
  refine lv_aload_n hx hb d_M_room_25 rfl (lv_at hl 0 rfl) ?_
  refine va_get (D := D) (ci := 2) (v := .int (nI (m_many z))) (C := RM) (T := TM) (N := 12) hx hb hk inM hown hK hP 0 rfl rfl 8 (by decide) (hk _ zk461) (fun _ h9 => h9) rfl d_M_room_26 ?_
  refine lv_icmp_ge (tgt := 84) hx hb d_M_room_29 (by decide) (fun h => ?_) (fun h => ?_)
  · rw [nI_leI (by omega) (by omega)] at h
    have hke : k = m_many z := by omega
    rw [hke] at hfr
    refine lv_iload_n hx hb d_M_room_84 rfl (lv_at hl 3 rfl) ?_
    refine lv_if_eq (tgt := 90) hx hb d_M_room_85 (by decide) (fun hf0 => ?_) (fun hf0 => ?_)
    · rw [zh_zb] at hf0
      refine lv_iinc (lv' := [(2, .int (nI ((16 * i) + 16))), (0, .ref (n_h g)), (1, .int (nI n)), (3, .int (zb fr)), (4, .int (nI k))]) (v := nI ((16 * i) + 16)) hx hb d_M_room_90 hl (k := 2) rfl (nI_add _ _) (by decide) rfl (fun ls hl => ?_)
      have hl : lv_has ls 5 [(2, .int (nI (16 * (i + 1)))), (0, .ref (n_h g)), (1, .int (nI n)), (3, .int (zb fr)), (4, .int (nI k))] := by rw [show 16 * (i + 1) = 16 * i + 16 by omega]; exact hl
      refine lv_goto (tgt := 3) hx hb d_M_room_93 (by decide) ?_
      exact ih1 (i + 1) ls ⟨lv_sub hl [1, 2, 0] rfl, by omega, by omega, fun j h1 h2 => by by_cases e : j = i; (exact fun q => by rw [hfr.mpr (e ▸ q)] at hf0; cases hf0); (exact hno j h1 (by omega))⟩ (by show _ < _; (try dsimp only); omega)
    rw [zh_zb] at hf0
    refine lv_iload_n hx hb d_M_room_88 rfl (lv_at hl 2 rfl) ?_
    exact W.iret hx hb hr (fun t ht hW => ⟨_, rfl, ⟨i, Or.inr ⟨hi1, by omega, hfr.mp (ts_nf hf0), fun c h1 h2 => hno c h1 h2⟩, rfl⟩, ht⟩) (fun q h => absurd h List.not_mem_nil) d_M_room_89
  rw [nI_leI (by omega) (by omega)] at h
  have hat := hz.at (k := k) (by omega)
  have hdiv := (hz.2.1 k).1 (by omega)
  refine lv_iload_n hx hb d_M_room_32 rfl (lv_at hl 2 rfl) ?_
  refine lv_bipush (v := nI 16) hx hb d_M_room_33 (by decide) ?_
  refine lv_isub hx hb d_M_room_35 ?_
  refine zh_t (show (nI (16 * i) - nI 16) = nI ((16 * i) - 16) from pk_sub (by omega)) ?_
  refine lv_aload_n hx hb d_M_room_36 rfl (lv_at hl 0 rfl) ?_
  refine va_get (D := D) (ci := 2) (v := .ref (n_aP g)) (C := RM) (T := TM) (N := 12) hx hb hk inM hown hK hP 0 rfl rfl 2 (by decide) (hk _ zk455) (fun _ h9 => h9) rfl d_M_room_37 ?_
  refine lv_iload hx hb d_M_room_40 (lv_at hl 4 rfl) ?_
  refine va_iald hx hb hK hP 2 1 rfl rfl (vp_in_nI (by omega) (by decide)) d_M_room_42 ?_
  refine zh_t (show nI (m_pl z (nI k).toNatClampNeg) = nI (m_pl z k) from by rw [nI_clamp (by omega)]) ?_
  refine lv_aload_n hx hb d_M_room_43 rfl (lv_at hl 0 rfl) ?_
  refine va_get (D := D) (ci := 2) (v := .ref (n_aS g)) (C := RM) (T := TM) (N := 12) hx hb hk inM hown hK hP 0 rfl rfl 3 (by decide) (hk _ zk456) (fun _ h9 => h9) rfl d_M_room_44 ?_
  refine lv_iload hx hb d_M_room_47 (lv_at hl 4 rfl) ?_
  refine va_iald hx hb hK hP 3 2 rfl rfl (vp_in_nI (by omega) (by decide)) d_M_room_49 ?_
  refine zh_t (show nI (m_sz z (nI k).toNatClampNeg) = nI (m_sz z k) from by rw [nI_clamp (by omega)]) ?_
  refine vp_callSi (zrS (n := 1) (As := [.int (nI (m_sz z k))]) (rest := [.int (nI (m_pl z k)), .int (nI ((16 * i) - 16))]) ⟨hx, hb, hml, hown, hk⟩ (c_M_taken_ok l D t0 (mT g) (mW g z) s.heap.size (m_sz z k) hat.2.2.1) zk511 zk512 zk5 kc_M_taken ⟨by decide, by decide, by decide⟩ rfl rfl ⟨Nat.le_of_ble_eq_true rfl, Nat.le_of_ble_eq_true rfl⟩ ⟨hP, hK, hD, hS, hA, hE⟩ rfl hl.1 rfl (Nat.le_of_ble_eq_true rfl) d_M_room_50 ⟨Nat.le_of_ble_eq_true rfl, Nat.le_of_ble_eq_true rfl⟩).run (fun r hr1 => ?_)
  subst hr1
  refine lv_iadd hx hb d_M_room_53 ?_
  refine zh_t (show (nI (m_pl z k) + nI (16 * zc (m_sz z k))) = nI (m_pl z k + (16 * zc (m_sz z k))) from nI_add _ _) ?_
  refine lv_icmp_ge (tgt := 78) hx hb d_M_room_54 (by decide) (fun h => ?_) (fun h => ?_)
  · rw [nI_leI (by omega) (by omega)] at h
    refine lv_iinc (lv' := [(4, .int (nI (k + 1))), (0, .ref (n_h g)), (1, .int (nI n)), (2, .int (nI (16 * i))), (3, .int (zb fr))]) (v := nI (k + 1)) hx hb d_M_room_78 hl (k := 4) rfl (nI_add _ _) (by decide) rfl (fun ls hl => ?_)
    refine lv_goto (tgt := 23) hx hb d_M_room_81 (by decide) ?_
    exact ih (k + 1, fr) ls ⟨lv_sub hl [1, 2, 3, 4, 0] rfl, by dsimp only; omega, ⟨fun q => lt_s (hfr.mp q) (by omega), fun q => hfr.mpr (fun j hj => q j (by omega))⟩⟩ (by show _ < _; (try dsimp only); omega)
  rw [nI_leI (by omega) (by omega)] at h
  have hov := h
  refine lv_aload_n hx hb d_M_room_57 rfl (lv_at hl 0 rfl) ?_
  refine va_get (D := D) (ci := 2) (v := .ref (n_aP g)) (C := RM) (T := TM) (N := 12) hx hb hk inM hown hK hP 0 rfl rfl 2 (by decide) (hk _ zk455) (fun _ h9 => h9) rfl d_M_room_58 ?_
  refine lv_iload hx hb d_M_room_61 (lv_at hl 4 rfl) ?_
  refine va_iald hx hb hK hP 2 1 rfl rfl (vp_in_nI (by omega) (by decide)) d_M_room_63 ?_
  refine zh_t (show nI (m_pl z (nI k).toNatClampNeg) = nI (m_pl z k) from by rw [nI_clamp (by omega)]) ?_
  refine lv_iload_n hx hb d_M_room_64 rfl (lv_at hl 2 rfl) ?_
  refine lv_iload_n hx hb d_M_room_65 rfl (lv_at hl 1 rfl) ?_
  refine vp_callSi (zrS (n := 1) (As := [.int (nI n)]) (rest := [.int (nI (16 * i)), .int (nI (m_pl z k))]) ⟨hx, hb, hml, hown, hk⟩ (c_M_taken_ok l D t0 (mT g) (mW g z) s.heap.size n hn) zk511 zk512 zk5 kc_M_taken ⟨by decide, by decide, by decide⟩ rfl rfl ⟨Nat.le_of_ble_eq_true rfl, Nat.le_of_ble_eq_true rfl⟩ ⟨hP, hK, hD, hS, hA, hE⟩ rfl hl.1 rfl (Nat.le_of_ble_eq_true rfl) d_M_room_66 ⟨Nat.le_of_ble_eq_true rfl, Nat.le_of_ble_eq_true rfl⟩).run (fun r hr1 => ?_)
  subst hr1
  refine lv_iadd hx hb d_M_room_69 ?_
  refine zh_t (show (nI (16 * i) + nI (16 * zc n)) = nI ((16 * i) + (16 * zc n)) from nI_add _ _) ?_
  refine lv_bipush (v := nI 16) hx hb d_M_room_70 (by decide) ?_
  refine lv_iadd hx hb d_M_room_72 ?_
  refine zh_t (show (nI ((16 * i) + (16 * zc n)) + nI 16) = nI (((16 * i) + (16 * zc n)) + 16) from nI_add _ _) ?_
  refine lv_icmp_ge (tgt := 78) hx hb d_M_room_73 (by decide) (fun h => ?_) (fun h => ?_)
  · rw [nI_leI (by omega) (by omega)] at h
    refine lv_iinc (lv' := [(4, .int (nI (k + 1))), (0, .ref (n_h g)), (1, .int (nI n)), (2, .int (nI (16 * i))), (3, .int (zb fr))]) (v := nI (k + 1)) hx hb d_M_room_78 hl (k := 4) rfl (nI_add _ _) (by decide) rfl (fun ls hl => ?_)
    refine lv_goto (tgt := 23) hx hb d_M_room_81 (by decide) ?_
    exact ih (k + 1, fr) ls ⟨lv_sub hl [1, 2, 3, 4, 0] rfl, by dsimp only; omega, ⟨fun q => lt_s (hfr.mp q) (by omega), fun q => hfr.mpr (fun j hj => q j (by omega))⟩⟩ (by show _ < _; (try dsimp only); omega)
  rw [nI_leI (by omega) (by omega)] at h
  refine lv_iconst (v := nI 0) hx hb d_M_room_76 (by decide) ?_
  refine zh_t (show nI 0 = zb false from rfl) ?_
  refine lv_istore_n (lv' := [(3, .int (zb false)), (0, .ref (n_h g)), (1, .int (nI n)), (2, .int (nI (16 * i))), (4, .int (nI k))]) hx hb d_M_room_77 rfl hl (by decide) rfl (fun ls hl => ?_)
  refine lv_iinc (lv' := [(4, .int (nI (k + 1))), (3, .int (zb false)), (0, .ref (n_h g)), (1, .int (nI n)), (2, .int (nI (16 * i)))]) (v := nI (k + 1)) hx hb d_M_room_78 hl (k := 4) rfl (nI_add _ _) (by decide) rfl (fun ls hl => ?_)
  refine lv_goto (tgt := 23) hx hb d_M_room_81 (by decide) ?_
  exact ih (k + 1, false) ls ⟨lv_sub hl [2, 3, 4, 1, 0] rfl, by dsimp only; omega, ⟨(fun q => by cases q), fun q => absurd (show (i < m_pl z k / 16 + zc (m_sz z k) + 1 ∧ m_pl z k / 16 < i + zc n + 1) from ⟨by omega, by omega⟩) (q k (by show k < k + 1; omega))⟩⟩ (by show _ < _; (try dsimp only); omega)
set_option maxHeartbeats 1000000 in
set_option maxRecDepth 100000 in
theorem c_M_make_ok (l : Launch) (D : va_G) (t0 : Nat) (g : MG) (z : MT) (sz : Nat) (n : Nat) (hn : n ≤ 2048) (hz : mOK z) : Met l y_M_make w_M_make ({ frames := 2, cells := 0, slots := 0, locals := 50 }) (zPre D t0 (mT g) (mW g z) sz [.ref (n_h g), .int (nI n)]) (va_Qi (fun r u => ∃ k : Nat, mroom z n k ∧ r = nI (16 * k) ∧ ((k = 0 ∧ u = z) ∨ (k ≠ 0 ∧ u = mq_make z k n))) (fun (u : MT) t => zPost D (mT g) (va_A (mW g z) sz) (mW g u) t) (va_A (mW g z) sz)) 0 0 (va_A (mW g z) sz) := by
  refine Met.ofW (cc := c_M_make) (maxL := 3) (ret := (some .int)) (by decide) rfl ?_
  intro p e s m args below meth c s₁ B hml hv
  obtain ⟨rfl, hsz, hP, hK, hD0, hE⟩ := hv
  have hx := B.exec
  have hb := B.bytes
  have hr := B.returns
  have hts := atoms_spec (ws := w_M_make) B.pre
  have hk : ∀ w ∈ zB, w.before _ s = true := fun w h => hts w (List.mem_cons_of_mem _ h)
  have hown : s.vm.findClass "ZoneHeapModel" = some m.cls := findClass_of_methodNamed B.named
  have hlocks := B.notSynchronized
  subst hsz
  have hD := hD0.self (sz := s.heap.size)
  generalize hAe : va_A (mW g z) s.heap.size = A at hD hE ⊢
  have hA : ∀ q : Nat, s.heap.size ≤ q → A q := fun q h => by rw [← hAe]; exact Or.inr h
  have hS : va_S A s.heap s.heap [] := va_S.rf
  have hl := lv_entry ([.ref (n_h g), .int (nI n)]) (n := 3) (Nat.le_of_ble_eq_true rfl)
  rw [lg_entry_eq]
  generalize (lg_sl ([.ref (n_h g), .int (nI n)]) ++ List.replicate (3 - (lg_sl ([.ref (n_h g), .int (nI n)])).length) Slot.unset).toArray = ls at hl ⊢
  have hl : lv_has ls 3 [(0, .ref (n_h g)), (1, .int (nI n))] := hl
  have hm := hz.many
  refine lv_aload_n hx hb d_M_make_0 rfl (lv_at hl 0 rfl) ?_
  refine lv_iload_n hx hb d_M_make_1 rfl (lv_at hl 1 rfl) ?_
  refine vp_callSi (zrV (n := 1) (As := [.int (nI n)]) (rest := []) ⟨hx, hb, hml, hown, hk⟩ (c_M_room_ok l D t0 g z s.heap.size n hn hz) zk507 zk509 ks_M_room zk5 kc_M_room ⟨rfl, by decide, by decide, by decide⟩ rfl rfl ⟨Nat.le_of_ble_eq_true rfl, Nat.le_of_ble_eq_true rfl⟩ ⟨hP, hK, hD, hS, hA, hE⟩ (va_recv hK hP (ci := 2) (q0 := 0) rfl rfl) rfl hl.1 rfl (Nat.le_of_ble_eq_true rfl) d_M_make_2 ⟨Nat.le_of_ble_eq_true rfl, Nat.le_of_ble_eq_true rfl⟩).run (fun r hr1 => ?_)
  obtain ⟨k, hroom, rfl⟩ := hr1
  have hk5 : k ≤ 512 := by
    rcases hroom with ⟨e0, -⟩ | ⟨e1, e2, -, -⟩ <;> omega
  refine lv_istore_n (lv' := [(2, .int (nI (16 * k))), (0, .ref (n_h g)), (1, .int (nI n))]) hx hb d_M_make_5 rfl hl (by decide) rfl (fun ls hl => ?_)
  refine lv_iload_n hx hb d_M_make_6 rfl (lv_at hl 0 rfl) ?_
  refine lv_if_ne (tgt := 12) hx hb d_M_make_7 (by decide) (fun h => ?_) (fun h => ?_)
  rotate_left 1
  · rw [show (0 : Int32) = nI 0 from rfl, nI_eq (by omega) (by omega)] at h
    refine lv_iconst (v := nI 0) hx hb d_M_make_10 (by decide) ?_
    exact W.iret hx hb hr (fun t ht hW => ⟨⟨_, z, rfl, ⟨k, hroom, by rw [show k = 0 by omega], Or.inl ⟨by omega, rfl⟩⟩, by rw [ht]; exact hP, va_K.moved hW.alike hK, hD⟩, hS.F ht⟩) hS.2.2 d_M_make_11
  rw [show (0 : Int32) = nI 0 from rfl, nI_eq (by omega) (by omega)] at h
  refine lv_aload_n hx hb d_M_make_12 rfl (lv_at hl 1 rfl) ?_
  refine va_get (D := D) (ci := 2) (v := .ref (n_aP g)) (C := RM) (T := TM) (N := 12) hx hb hk inM hown hK hP 0 rfl rfl 2 (by decide) (hk _ zk455) (fun _ h9 => h9) rfl d_M_make_13 ?_
  refine lv_aload_n hx hb d_M_make_16 rfl (lv_at hl 1 rfl) ?_
  refine va_get (D := D) (ci := 2) (v := .int (nI (m_many z))) (C := RM) (T := TM) (N := 12) hx hb hk inM hown hK hP 0 rfl rfl 8 (by decide) (hk _ zk461) (fun _ h9 => h9) rfl d_M_make_17 ?_
  refine lv_iload_n hx hb d_M_make_20 rfl (lv_at hl 0 rfl) ?_
  refine va_iast hx hb hK hP hD hS 2 1 rfl rfl (vp_in_nI (by omega) (by decide)) d_M_make_21 (fun H locs hP hD hS => ?_)
  rw [zh_upd (by omega)] at hP hD
  have hP : va_P D zcl (mW g (mmk (m_err z) (m_oct z) (va_up (m_pl z) (m_many z) (16 * k)) (m_sz z) (m_sta z) (m_sin z) (m_rea z) (m_fnd z) (m_many z) (m_made z) (m_backs z) (m_lm z))) H := hP
  have hD : va_D A (mW g (mmk (m_err z) (m_oct z) (va_up (m_pl z) (m_many z) (16 * k)) (m_sz z) (m_sta z) (m_sin z) (m_rea z) (m_fnd z) (m_many z) (m_made z) (m_backs z) (m_lm z))) := hD
  refine lv_aload_n hx hb d_M_make_22 rfl (lv_at hl 1 rfl) ?_
  refine va_get (D := D) (ci := 2) (v := .ref (n_aS g)) (C := RM) (T := TM) (N := 12) hx hb hk inM hown hK hP 0 rfl rfl 3 (by decide) (hk _ zk456) (fun _ h9 => h9) rfl d_M_make_23 ?_
  refine lv_aload_n hx hb d_M_make_26 rfl (lv_at hl 1 rfl) ?_
  refine va_get (D := D) (ci := 2) (v := .int (nI (m_many z))) (C := RM) (T := TM) (N := 12) hx hb hk inM hown hK hP 0 rfl rfl 8 (by decide) (hk _ zk461) (fun _ h9 => h9) rfl d_M_make_27 ?_
  refine lv_iload_n hx hb d_M_make_30 rfl (lv_at hl 2 rfl) ?_
  refine va_iast hx hb hK hP hD hS 3 2 rfl rfl (vp_in_nI (by omega) (by decide)) d_M_make_31 (fun H locs hP hD hS => ?_)
  rw [zh_upd (by omega)] at hP hD
  have hP : va_P D zcl (mW g (mmk (m_err z) (m_oct z) (va_up (m_pl z) (m_many z) (16 * k)) (va_up (m_sz z) (m_many z) n) (m_sta z) (m_sin z) (m_rea z) (m_fnd z) (m_many z) (m_made z) (m_backs z) (m_lm z))) H := hP
  have hD : va_D A (mW g (mmk (m_err z) (m_oct z) (va_up (m_pl z) (m_many z) (16 * k)) (va_up (m_sz z) (m_many z) n) (m_sta z) (m_sin z) (m_rea z) (m_fnd z) (m_many z) (m_made z) (m_backs z) (m_lm z))) := hD
  refine lv_aload_n hx hb d_M_make_32 rfl (lv_at hl 1 rfl) ?_
  refine va_get (D := D) (ci := 2) (v := .ref (n_aT g)) (C := RM) (T := TM) (N := 12) hx hb hk inM hown hK hP 0 rfl rfl 4 (by decide) (hk _ zk457) (fun _ h9 => h9) rfl d_M_make_33 ?_
  refine lv_aload_n hx hb d_M_make_36 rfl (lv_at hl 1 rfl) ?_
  refine lv_dup hx hb d_M_make_37 rfl ?_
  refine va_get (D := D) (ci := 2) (v := .int (nI (m_many z))) (C := RM) (T := TM) (N := 12) hx hb hk inM hown hK hP 0 rfl rfl 8 (by decide) (hk _ zk461) (fun _ h9 => h9) rfl d_M_make_38 ?_
  refine lv_dup_x1 hx hb d_M_make_41 rfl rfl ?_
  refine lv_iconst (v := nI 1) hx hb d_M_make_42 (by decide) ?_
  refine lv_iadd hx hb d_M_make_43 ?_
  refine zh_t (show (nI (m_many z) + nI 1) = nI (m_many z + 1) from nI_add _ _) ?_
  refine va_put (D := D) (ci := 2) (v := .int (nI (m_many z + 1))) (ty := .int) (C := RM) (T := TM) (N := 12) hx hb hk inM tyM okM nmM hown hK hP hD hS 0 rfl rfl 8 (by decide) (hk _ zk461) (fun _ h9 => h9) rfl (by decide +kernel) rfl rfl (Nat.le_of_ble_eq_true rfl) d_M_make_44 (fun H locs hP hD hS => ?_)
  have hP : va_P D zcl (mW g (mmk (m_err z) (m_oct z) (va_up (m_pl z) (m_many z) (16 * k)) (va_up (m_sz z) (m_many z) n) (m_sta z) (m_sin z) (m_rea z) (m_fnd z) (m_many z + 1) (m_made z) (m_backs z) (m_lm z))) H := hP
  have hD : va_D A (mW g (mmk (m_err z) (m_oct z) (va_up (m_pl z) (m_many z) (16 * k)) (va_up (m_sz z) (m_many z) n) (m_sta z) (m_sin z) (m_rea z) (m_fnd z) (m_many z + 1) (m_made z) (m_backs z) (m_lm z))) := hD
  refine lv_iconst (v := nI 1) hx hb d_M_make_47 (by decide) ?_
  refine va_iast hx hb hK hP hD hS 4 3 rfl rfl (vp_in_nI (by omega) (by decide)) d_M_make_48 (fun H locs hP hD hS => ?_)
  rw [zh_upd (by omega)] at hP hD
  have hP : va_P D zcl (mW g (mmk (m_err z) (m_oct z) (va_up (m_pl z) (m_many z) (16 * k)) (va_up (m_sz z) (m_many z) n) (va_up (m_sta z) (m_many z) 1) (m_sin z) (m_rea z) (m_fnd z) (m_many z + 1) (m_made z) (m_backs z) (m_lm z))) H := hP
  have hD : va_D A (mW g (mmk (m_err z) (m_oct z) (va_up (m_pl z) (m_many z) (16 * k)) (va_up (m_sz z) (m_many z) n) (va_up (m_sta z) (m_many z) 1) (m_sin z) (m_rea z) (m_fnd z) (m_many z + 1) (m_made z) (m_backs z) (m_lm z))) := hD
  refine lv_aload_n hx hb d_M_make_49 rfl (lv_at hl 1 rfl) ?_
  refine lv_dup hx hb d_M_make_50 rfl ?_
  refine va_get (D := D) (ci := 2) (v := .int (nI (m_made z))) (C := RM) (T := TM) (N := 12) hx hb hk inM hown hK hP 0 rfl rfl 9 (by decide) (hk _ zk462) (fun _ h9 => h9) rfl d_M_make_51 ?_
  refine lv_iconst (v := nI 1) hx hb d_M_make_54 (by decide) ?_
  refine lv_iadd hx hb d_M_make_55 ?_
  refine zh_t (show (nI (m_made z) + nI 1) = nI (m_made z + 1) from nI_add _ _) ?_
  refine va_put (D := D) (ci := 2) (v := .int (nI (m_made z + 1))) (ty := .int) (C := RM) (T := TM) (N := 12) hx hb hk inM tyM okM nmM hown hK hP hD hS 0 rfl rfl 9 (by decide) (hk _ zk462) (fun _ h9 => h9) rfl (by decide +kernel) rfl rfl (Nat.le_of_ble_eq_true rfl) d_M_make_56 (fun H locs hP hD hS => ?_)
  have hP : va_P D zcl (mW g (mmk (m_err z) (m_oct z) (va_up (m_pl z) (m_many z) (16 * k)) (va_up (m_sz z) (m_many z) n) (va_up (m_sta z) (m_many z) 1) (m_sin z) (m_rea z) (m_fnd z) (m_many z + 1) (m_made z + 1) (m_backs z) (m_lm z))) H := hP
  have hD : va_D A (mW g (mmk (m_err z) (m_oct z) (va_up (m_pl z) (m_many z) (16 * k)) (va_up (m_sz z) (m_many z) n) (va_up (m_sta z) (m_many z) 1) (m_sin z) (m_rea z) (m_fnd z) (m_many z + 1) (m_made z + 1) (m_backs z) (m_lm z))) := hD
  refine lv_iload_n hx hb d_M_make_59 rfl (lv_at hl 0 rfl) ?_
  exact W.iret hx hb hr (fun t ht hW => ⟨⟨_, (mmk (m_err z) (m_oct z) (va_up (m_pl z) (m_many z) (16 * k)) (va_up (m_sz z) (m_many z) n) (va_up (m_sta z) (m_many z) 1) (m_sin z) (m_rea z) (m_fnd z) (m_many z + 1) (m_made z + 1) (m_backs z) (m_lm z)), rfl, ⟨k, hroom, rfl, Or.inr ⟨by omega, rfl⟩⟩, by rw [ht]; exact hP, va_K.moved hW.alike hK, hD⟩, hS.F ht⟩) hS.2.2 d_M_make_60
