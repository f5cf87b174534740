-- the world with the list's fields and its array told apart
def zXL (g : ZG) (z : ZT) (md : Int32) (r len : Nat) : va_W := [(g_h g, .inr (0, [.ref (g_aO g), .ref (g_aT g), .ref (g_aK g), .int (nI (z_ko z)), .int (nI (z_lb z)), .int (nI (z_lo z)), .int (nI (z_mb z)), .ref (g_aR g), .int (nI (z_rn z)), .ref (g_aL g), .int (nI (z_ln z))])), (g_aO g, .inl (g_cB g, 8192, .inl (fun j => sb_b (z_oct z j)))), (g_aT g, .inl (g_cT g, 512, .inr (.inr (.inr (.inr (z_tk z)))))), (g_aK g, .inr (3, [.int md, .ref r, .int (nI len)])), (g_aR g, .inl (g_cR g, 255, .inr (.inr (.inr (.inr (z_rb z)))))), (g_aL g, .inl (g_cI g, 255, .inl (fun j => nI (z_lf z j))))]
def zWL (g : ZG) (z : ZT) (md : Int32) (r len : Nat) (we : va_W) : va_W := (zXL g z md r len ++ we) ++ va_pl (z_LB z) (zF z)
def zTL (g : ZG) (ts : List (ClassId × FieldType)) : List (ClassId × FieldType) := [(g_cB g, .byte), (g_cT g, .object RB), (g_cR g, .object RB), (g_cI g, .int)] ++ ts
theorem zW_L (t0 : Nat) (g : ZG) (z : ZT) : zW t0 g z = zWL g z (z_md z) (zeR t0 z) (z_kl z).length (zwe z) := rfl
theorem zT_L (g : ZG) (z : ZT) : zT g z = zTL g (zwt z) := rfl
theorem zpoolL {g : ZG} {z : ZT} {md : Int32} {r len a : Nat} {we : va_W} (h : a ∈ z_LB z) : ∃ k : Nat, (zWL g z md r len we)[k]? = some (a, zF z a) := va_pl_get h
theorem zgrow0 {D : va_G} {A : Nat → Prop} {H : Heap} {g : ZG} {z : ZT} {md : Int32} {r len q : Nat} {e : va_E} (hP : va_P D zcl (zWL g z md r len [] ++ [(q, e)]) H) (hD : va_D A (zWL g z md r len [] ++ [(q, e)])) : va_P D zcl (zWL g z md r len [(q, e)]) H ∧ va_D A (zWL g z md r len [(q, e)]) := ⟨hP.swap, hD.swap⟩
theorem zgrow1 {D : va_G} {A : Nat → Prop} {H : Heap} {g : ZG} {z : ZT} {md : Int32} {r len q : Nat} {o : Nat × va_E} {e : va_E} (hP : va_P D zcl (zWL g z md r len [o] ++ [(q, e)]) H) (hD : va_D A (zWL g z md r len [o] ++ [(q, e)])) : va_P D zcl (zWL g z md r len [(q, e)]) H ∧ va_D A (zWL g z md r len [(q, e)]) := by
  have h1 : va_P D zcl (((zXL g z md r len ++ [o]) ++ [(q, e)]) ++ va_pl (z_LB z) (zF z)) H := hP.swap
  have h2 : va_D A (((zXL g z md r len ++ [o]) ++ [(q, e)]) ++ va_pl (z_LB z) (zF z)) := hD.swap
  exact ⟨h1.part [0, 1, 2, 3, 4, 5, 7] rfl, h2.part [0, 1, 2, 3, 4, 5, 7] (by decide) rfl⟩
set_option maxHeartbeats 1000000 in
set_option maxRecDepth 100000 in
theorem c_A_grow2_first (l : Launch) (D : va_G) (t0 : Nat) (g : ZG) (z : ZT) (sz : Nat) (md : Int32) : Met l y_A_grow2 w_A_grow2 ({ frames := 3, cells := 1, slots := 1000, locals := 120 }) (zPre D t0 (zTL g []) (zWL g z md t0 0 []) sz [.ref (g_aK g), .int (nI (0 + 1))]) (va_Qq (fun r u => r = some u.1) (fun (u : Nat × ClassId) t => zPost D (zTL g [(u.2, .object "java/lang/Object")]) (va_A (zWL g z md t0 0 []) sz) (zWL g z md u.1 0 [(u.1, .inl (u.2, zRo 10 ((fun _ => none))))]) t) (va_A (zWL g z md t0 0 []) sz)) 1 1000 (va_A (zWL g z md t0 0 []) sz) := by
  refine Met.ofW (cc := c_A_grow2) (maxL := 4) (ret := (some (.array (.object "java/lang/Object")))) (by decide) rfl ?_
  intro p e s m args below meth c s₁ B hml hv
  obtain ⟨rfl, hsz, hP, hK, hD0, hE⟩ := hv
  have hx := B.exec
  have hb := B.bytes
  have hr := B.returns
  have hts := atoms_spec (ws := w_A_grow2) B.pre
  have hk : ∀ w ∈ zB, w.before _ s = true := fun w h => hts w (List.mem_cons_of_mem _ h)
  have hown : s.vm.findClass "java/util/ArrayList" = some m.cls := findClass_of_methodNamed B.named
  have hlocks := B.notSynchronized
  subst hsz
  have hD := hD0.self (sz := s.heap.size)
  generalize hAe : va_A (zWL g z md t0 0 []) s.heap.size = A at hD hE ⊢
  have hA : ∀ q : Nat, s.heap.size ≤ q → A q := fun q h => by rw [← hAe]; exact Or.inr h
  have hS : va_S A s.heap s.heap [] := va_S.rf
  have hl := lv_entry ([.ref (g_aK g), .int (nI (0 + 1))]) (n := 4) (Nat.le_of_ble_eq_true rfl)
  rw [lg_entry_eq]
  generalize (lg_sl ([.ref (g_aK g), .int (nI (0 + 1))]) ++ List.replicate (4 - (lg_sl ([.ref (g_aK g), .int (nI (0 + 1))])).length) Slot.unset).toArray = ls at hl ⊢
  have hl : lv_has ls 4 [(0, .ref (g_aK g)), (1, .int (nI (0 + 1)))] := hl
  refine lv_aload_n hx hb d_A_grow2_0 rfl (lv_at hl 0 rfl) ?_
  refine va_get (D := D) (ci := 3) (v := .ref t0) (C := RA) (T := TA) (N := 3) hx hb hk inA hown hK hP 3 rfl rfl 1 (by decide) (hk _ zk43) (fun _ h9 => h9) rfl d_A_grow2_1 ?_
  refine va_tlen (v := nI 0) hx hb hE.2.2.2.2 hS rfl d_A_grow2_4 ?_
  refine lv_istore_n (lv' := [(2, .int (nI 0)), (0, .ref (g_aK g)), (1, .int (nI (0 + 1)))]) hx hb d_A_grow2_5 rfl hl (by decide) rfl (fun ls hl => ?_)
  refine lv_iload_n hx hb d_A_grow2_6 rfl (lv_at hl 0 rfl) ?_
  refine lv_if_gt (tgt := 20) hx hb d_A_grow2_7 (by decide) (fun h => ?_) (fun h => ?_)
  · rw [show (0 : Int32) = nI 0 from rfl, nI_ltI (by omega) (by omega)] at h
    exact absurd h (by omega)
  rw [show (0 : Int32) = nI 0 from rfl, nI_ltI (by omega) (by omega)] at h
  refine lv_aload_n hx hb d_A_grow2_10 rfl (lv_at hl 1 rfl) ?_
  refine va_get (D := D) (ci := 3) (v := .ref t0) (C := RA) (T := TA) (N := 3) hx hb hk inA hown hK hP 3 rfl rfl 1 (by decide) (hk _ zk43) (fun _ h9 => h9) rfl d_A_grow2_11 ?_
  refine va_gets hx hb hE.2.2.2.1 hS hown (hk _ zk41) (fun _ h9 => h9) d_A_grow2_14 ?_
  refine lv_acmp_eq (rx := some t0) (ry := some t0) (tgt := 45) hx hb d_A_grow2_17 (by decide) (fun _ => ?_) (fun h => absurd rfl h)
  refine lv_aload_n hx hb d_A_grow2_45 rfl (lv_at hl 1 rfl) ?_
  refine lv_bipush (v := nI 10) hx hb d_A_grow2_46 (by decide) ?_
  refine lv_iload_n hx hb d_A_grow2_48 rfl (lv_at hl 2 rfl) ?_
  refine va_mmax hx hb (hml.trans hl.1.symm) hown (hk _ zk335) (hk _ zk221) (hk _ zk10) (hk _ kc_Mt_max) (Nat.le_of_ble_eq_true rfl) (Nat.le_of_ble_eq_true rfl) (Nat.le_of_ble_eq_true rfl) (Nat.le_of_ble_eq_true rfl) d_A_grow2_49 ?_
  refine zh_t (show (if nI 10 < nI (0 + 1) then nI (0 + 1) else nI 10) = nI 10 from by decide) ?_
  refine va_newq (N' := 10) hx hb hown (hk _ zk336) hE.1.2.1 hK hP hD hS hA (by decide) (by decide) (by decide) (Nat.le_of_ble_eq_true rfl) (Nat.le_of_ble_eq_true rfl) d_A_grow2_52 (fun q cA H hK hP hD hS => ?_)
  obtain ⟨hP, hD⟩ := zgrow0 hP hD
  have hP : va_P D zcl (zWL g z md t0 0 [(q, .inl (cA, zRo 10 (fun _ => none)))]) H := hP
  have hD : va_D A (zWL g z md t0 0 [(q, .inl (cA, zRo 10 (fun _ => none)))]) := hD
  have hK : va_K D zcl (zTL g [(cA, .object "java/lang/Object")]) s := hK
  refine lv_dup_x1 hx hb d_A_grow2_55 rfl rfl ?_
  refine va_put (D := D) (ci := 3) (v := .ref q) (ty := (.array (.object "java/lang/Object"))) (C := RA) (T := TA) (N := 3) hx hb hk inA tyA okA nmA hown hK hP hD hS 3 rfl rfl 1 (by decide) (hk _ zk43) (fun _ h9 => h9) rfl (by decide +kernel) rfl rfl (Nat.le_of_ble_eq_true rfl) d_A_grow2_56 (fun H locs hP hD hS => ?_)
  have hP : va_P D zcl (zWL g z md q 0 [(q, .inl (cA, zRo 10 (fun _ => none)))]) H := hP
  have hD : va_D A (zWL g z md q 0 [(q, .inl (cA, zRo 10 (fun _ => none)))]) := hD
  refine W.widen (k := 1) (n := 1000) (by decide) (by decide) ?_
  exact W.aret (v := va_rf (some q)) hx hb hr (Or.inr ⟨_, rfl⟩) (va_rf_or _) (fun t ht hW => ⟨⟨some q, (q, cA), rfl, rfl, by rw [ht]; exact hP, va_K.moved hW.alike hK, hD⟩, hS.F ht⟩) hS.2.2 d_A_grow2_59
set_option maxHeartbeats 1000000 in
set_option maxRecDepth 100000 in
theorem c_A_grow_first (l : Launch) (D : va_G) (t0 : Nat) (g : ZG) (z : ZT) (sz : Nat) (md : Int32) : Met l y_A_grow w_A_grow ({ frames := 4, cells := 1, slots := 1000, locals := 150 }) (zPre D t0 (zTL g []) (zWL g z md t0 0 []) sz [.ref (g_aK g)]) (va_Qq (fun r u => r = some u.1) (fun (u : Nat × ClassId) t => zPost D (zTL g [(u.2, .object "java/lang/Object")]) (va_A (zWL g z md t0 0 []) sz) (zWL g z md u.1 0 [(u.1, .inl (u.2, zRo 10 ((fun _ => none))))]) t) (va_A (zWL g z md t0 0 []) sz)) 1 1000 (va_A (zWL g z md t0 0 []) sz) := by
  refine Met.ofW (cc := c_A_grow) (maxL := 1) (ret := (some (.array (.object "java/lang/Object")))) (by decide) rfl ?_
  intro p e s m args below meth c s₁ B hml hv
  obtain ⟨rfl, hsz, hP, hK, hD0, hE⟩ := hv
  have hx := B.exec
  have hb := B.bytes
  have hr := B.returns
  have hts := atoms_spec (ws := w_A_grow) B.pre
  have hk : ∀ w ∈ zB, w.before _ s = true := fun w h => hts w (List.mem_cons_of_mem _ h)
  have hown : s.vm.findClass "java/util/ArrayList" = some m.cls := findClass_of_methodNamed B.named
  have hlocks := B.notSynchronized
  subst hsz
  have hD := hD0.self (sz := s.heap.size)
  generalize hAe : va_A (zWL g z md t0 0 []) s.heap.size = A at hD hE ⊢
  have hA : ∀ q : Nat, s.heap.size ≤ q → A q := fun q h => by rw [← hAe]; exact Or.inr h
  have hS : va_S A s.heap s.heap [] := va_S.rf
  have hl := lv_entry ([.ref (g_aK g)]) (n := 1) (Nat.le_of_ble_eq_true rfl)
  rw [lg_entry_eq]
  generalize (lg_sl ([.ref (g_aK g)]) ++ List.replicate (1 - (lg_sl ([.ref (g_aK g)])).length) Slot.unset).toArray = ls at hl ⊢
  have hl : lv_has ls 1 [(0, .ref (g_aK g))] := hl
  refine lv_aload_n hx hb d_A_grow_0 rfl (lv_at hl 0 rfl) ?_
  refine lv_aload_n hx hb d_A_grow_1 rfl (lv_at hl 0 rfl) ?_
  refine va_get (D := D) (ci := 3) (v := .int (nI 0)) (C := RA) (T := TA) (N := 3) hx hb hk inA hown hK hP 3 rfl rfl 2 (by decide) (hk _ zk44) (fun _ h9 => h9) rfl d_A_grow_2 ?_
  refine lv_iconst (v := nI 1) hx hb d_A_grow_5 (by decide) ?_
  refine lv_iadd hx hb d_A_grow_6 ?_
  refine zh_t (show (nI 0 + nI 1) = nI (0 + 1) from nI_add _ _) ?_
  refine zcq (zrV (n := 1) (As := [.int (nI (0 + 1))]) (rest := []) ⟨hx, hb, hml, hown, hk⟩ (c_A_grow2_first l D t0 g z s.heap.size md) zk297 zk299 ks_A_grow2 zk4 kc_A_grow2 ⟨rfl, by decide, by decide, by decide⟩ rfl rfl ⟨Nat.le_of_ble_eq_true rfl, Nat.le_of_ble_eq_true rfl⟩ ⟨hP, hK, hD, hS, hA, hE⟩ (va_recv hK hP (ci := 3) (q0 := 3) rfl rfl) rfl hl.1 rfl (Nat.le_of_ble_eq_true rfl) d_A_grow_7 ⟨Nat.le_of_ble_eq_true rfl, Nat.le_of_ble_eq_true rfl⟩) ⟨hP, hK, hD, hS, hA, hE⟩ (fun r u H locs hu hP hK hD hS => ?_)
  exact W.aret hx hb hr (Or.inr ⟨_, rfl⟩) (va_rf_or _) (fun t ht hW => ⟨⟨r, u, rfl, hu, by rw [ht]; exact hP, va_K.moved hW.alike hK, hD⟩, hS.F ht⟩) hS.2.2 d_A_grow_10
set_option maxHeartbeats 1000000 in
set_option maxRecDepth 100000 in
theorem c_A_grow2_full (l : Launch) (D : va_G) (t0 : Nat) (g : ZG) (z : ZT) (sz : Nat) (md : Int32) (a n : Nat) (cE : ClassId) (f : Nat → Option Nat) (h2 : 2 ≤ n) (hn : n < 600) (hf0 : ∀ i : Nat, n ≤ i → f i = none) (hfl : ∀ i y : Nat, f i = some y → y ∈ z_LB z) : Met l y_A_grow2 w_A_grow2 ({ frames := 3, cells := 1, slots := 1000, locals := 120 }) (zPre D t0 (zTL g [(cE, .object "java/lang/Object")]) (zWL g z md a n [(a, .inl (cE, zRo n f))]) sz [.ref (g_aK g), .int (nI (n + 1))]) (va_Qq (fun r u => r = some u.1) (fun (u : Nat × ClassId) t => zPost D (zTL g [(u.2, .object "java/lang/Object")]) (va_A (zWL g z md a n [(a, .inl (cE, zRo n f))]) sz) (zWL g z md u.1 n [(u.1, .inl (u.2, zRo (n + n / 2) f))]) t) (va_A (zWL g z md a n [(a, .inl (cE, zRo n f))]) sz)) 1 1000 (va_A (zWL g z md a n [(a, .inl (cE, zRo n f))]) sz) := by
  refine Met.ofW (cc := c_A_grow2) (maxL := 4) (ret := (some (.array (.object "java/lang/Object")))) (by decide) rfl ?_
  intro p e s m args below meth c s₁ B hml hv
  obtain ⟨rfl, hsz, hP, hK, hD0, hE⟩ := hv
  have hx := B.exec
  have hb := B.bytes
  have hr := B.returns
  have hts := atoms_spec (ws := w_A_grow2) B.pre
  have hk : ∀ w ∈ zB, w.before _ s = true := fun w h => hts w (List.mem_cons_of_mem _ h)
  have hown : s.vm.findClass "java/util/ArrayList" = some m.cls := findClass_of_methodNamed B.named
  have hlocks := B.notSynchronized
  subst hsz
  have hD := hD0.self (sz := s.heap.size)
  generalize hAe : va_A (zWL g z md a n [(a, .inl (cE, zRo n f))]) s.heap.size = A at hD hE ⊢
  have hA : ∀ q : Nat, s.heap.size ≤ q → A q := fun q h => by rw [← hAe]; exact Or.inr h
  have hS : va_S A s.heap s.heap [] := va_S.rf
  have hl := lv_entry ([.ref (g_aK g), .int (nI (n + 1))]) (n := 4) (Nat.le_of_ble_eq_true rfl)
  rw [lg_entry_eq]
  generalize (lg_sl ([.ref (g_aK g), .int (nI (n + 1))]) ++ List.replicate (4 - (lg_sl ([.ref (g_aK g), .int (nI (n + 1))])).length) Slot.unset).toArray = ls at hl ⊢
  have hl : lv_has ls 4 [(0, .ref (g_aK g)), (1, .int (nI (n + 1)))] := hl
  refine lv_aload_n hx hb d_A_grow2_0 rfl (lv_at hl 0 rfl) ?_
  refine va_get (D := D) (ci := 3) (v := .ref a) (C := RA) (T := TA) (N := 3) hx hb hk inA hown hK hP 3 rfl rfl 1 (by decide) (hk _ zk43) (fun _ h9 => h9) rfl d_A_grow2_1 ?_
  refine va_alen (v := nI n) hx hb hK hP 6 4 rfl rfl rfl d_A_grow2_4 ?_
  refine lv_istore_n (lv' := [(2, .int (nI n)), (0, .ref (g_aK g)), (1, .int (nI (n + 1)))]) hx hb d_A_grow2_5 rfl hl (by decide) rfl (fun ls hl => ?_)
  refine lv_iload_n hx hb d_A_grow2_6 rfl (lv_at hl 0 rfl) ?_
  refine lv_if_gt (tgt := 20) hx hb d_A_grow2_7 (by decide) (fun h => ?_) (fun h => ?_)
  rotate_left 1
  · rw [show (0 : Int32) = nI 0 from rfl, nI_ltI (by omega) (by omega)] at h
    exact absurd h (by omega)
  rw [show (0 : Int32) = nI 0 from rfl, nI_ltI (by omega) (by omega)] at h
  refine lv_iload_n hx hb d_A_grow2_20 rfl (lv_at hl 0 rfl) ?_
  refine lv_iload_n hx hb d_A_grow2_21 rfl (lv_at hl 2 rfl) ?_
  refine lv_iload_n hx hb d_A_grow2_22 rfl (lv_at hl 0 rfl) ?_
  refine lv_isub hx hb d_A_grow2_23 ?_
  refine zh_t (show (nI (n + 1) - nI n) = nI (n + 1 - n) from pk_sub (by omega)) ?_
  refine zh_t (show nI (n + 1 - n) = nI 1 from congrArg nI (by omega)) ?_
  refine lv_iload_n hx hb d_A_grow2_24 rfl (lv_at hl 0 rfl) ?_
  refine lv_iconst (v := nI 1) hx hb d_A_grow2_25 (by decide) ?_
  refine lv_ishr hx hb d_A_grow2_26 ?_
  refine zh_t (show nI n >>> (nI 1 &&& 31) = nI (n / 2) from by have k9 := pk_shrN (n := n) (by omega) (nI 1 &&& 31) 1 (by decide); rw [Nat.pow_one] at k9; exact k9) ?_
  refine vp_callSi (zrS (n := 3) (As := [.int (nI n), .int (nI 1), .int (nI (n / 2))]) (rest := []) ⟨hx, hb, hml, hown, hk⟩ (c_Su_newLength_ok l D t0 (zTL g [(cE, .object "java/lang/Object")]) (zWL g z md a n [(a, .inl (cE, zRo n f))]) s.heap.size n h2 hn) zk301 zk302 zk13 kc_Su_newLength ⟨by decide, by decide, by decide⟩ rfl rfl ⟨Nat.le_of_ble_eq_true rfl, Nat.le_of_ble_eq_true rfl⟩ ⟨hP, hK, hD, hS, hA, hE⟩ rfl hl.1 rfl (Nat.le_of_ble_eq_true rfl) d_A_grow2_27 ⟨Nat.le_of_ble_eq_true rfl, Nat.le_of_ble_eq_true rfl⟩).run (fun r hr1 => ?_)
  subst hr1
  refine lv_istore_n (lv' := [(3, .int (nI (n + n / 2))), (2, .int (nI n)), (0, .ref (g_aK g)), (1, .int (nI (n + 1)))]) hx hb d_A_grow2_30 rfl hl (by decide) rfl (fun ls hl => ?_)
  refine lv_aload_n hx hb d_A_grow2_31 rfl (lv_at hl 2 rfl) ?_
  refine lv_aload_n hx hb d_A_grow2_32 rfl (lv_at hl 2 rfl) ?_
  refine va_get (D := D) (ci := 3) (v := .ref a) (C := RA) (T := TA) (N := 3) hx hb hk inA hown hK hP 3 rfl rfl 1 (by decide) (hk _ zk43) (fun _ h9 => h9) rfl d_A_grow2_33 ?_
  refine lv_iload_n hx hb d_A_grow2_36 rfl (lv_at hl 0 rfl) ?_
  refine zcq (zrS (n := 2) (As := [.ref a, .int (nI (n + n / 2))]) (rest := [.ref (g_aK g)]) ⟨hx, hb, hml, hown, hk⟩ (c_As_copyOf_ok l D t0 (zTL g [(cE, .object "java/lang/Object")]) (zWL g z md a n [(a, .inl (cE, zRo n f))]) s.heap.size 6 4 a n (n + n / 2) cE f rfl rfl (by omega) (by omega) (fun i y _ hy => by obtain ⟨k9, hk9⟩ := zpoolL (g := g) (z := z) (md := md) (r := a) (len := n) (we := [(a, .inl (cE, zRo n f))]) (hfl i y hy); exact ⟨k9, _, hk9⟩)) zk309 zk310 zk14 kc_As_copyOf ⟨by decide, by decide, by decide⟩ rfl rfl ⟨Nat.le_of_ble_eq_true rfl, Nat.le_of_ble_eq_true rfl⟩ ⟨hP, hK, hD, hS, hA, hE⟩ rfl hl.1 rfl (Nat.le_of_ble_eq_true rfl) d_A_grow2_37 ⟨Nat.le_of_ble_eq_true rfl, Nat.le_of_ble_eq_true rfl⟩) ⟨hP, hK, hD, hS, hA, hE⟩ (fun r u H locs hu hP hK hD hS => ?_)
  obtain ⟨q, cA⟩ := u
  have hu : r = some q := hu
  subst hu
  refine zh_v (show va_rf (some q) = .ref q from rfl) ?_
  have hP : va_P D zcl (zWL g z md a n [(a, .inl (cE, zRo n f))] ++ [(q, .inl (cA, zRo (n + n / 2) (va_cpy f (fun _ => none) 0 0 n)))]) H := hP
  have hD : va_D A (zWL g z md a n [(a, .inl (cE, zRo n f))] ++ [(q, .inl (cA, zRo (n + n / 2) (va_cpy f (fun _ => none) 0 0 n)))]) := hD
  rw [zcpy_all hf0] at hP hD
  obtain ⟨hP, hD⟩ := zgrow1 hP hD
  have hK : va_K D zcl (zTL g [(cA, .object "java/lang/Object")]) s := hK.sub (tys' := zTL g [(cA, .object "java/lang/Object")]) [0, 1, 2, 3, 5] rfl
  have hP : va_P D zcl (zWL g z md a n [(q, .inl (cA, zRo (n + n / 2) f))]) H := hP
  have hD : va_D A (zWL g z md a n [(q, .inl (cA, zRo (n + n / 2) f))]) := hD
  have hK : va_K D zcl (zTL g [(cA, .object "java/lang/Object")]) s := hK
  refine lv_dup_x1 hx hb d_A_grow2_40 rfl rfl ?_
  refine va_put (D := D) (ci := 3) (v := .ref q) (ty := (.array (.object "java/lang/Object"))) (C := RA) (T := TA) (N := 3) hx hb hk inA tyA okA nmA hown hK hP hD hS 3 rfl rfl 1 (by decide) (hk _ zk43) (fun _ h9 => h9) rfl (by decide +kernel) rfl rfl (Nat.le_of_ble_eq_true rfl) d_A_grow2_41 (fun H locs hP hD hS => ?_)
  have hP : va_P D zcl (zWL g z md q n [(q, .inl (cA, zRo (n + n / 2) f))]) H := hP
  have hD : va_D A (zWL g z md q n [(q, .inl (cA, zRo (n + n / 2) f))]) := hD
  refine W.widen (k := 1) (n := 1000) (by decide) (by decide) ?_
  exact W.aret (v := va_rf (some q)) hx hb hr (Or.inr ⟨_, rfl⟩) (va_rf_or _) (fun t ht hW => ⟨⟨some q, (q, cA), rfl, rfl, by rw [ht]; exact hP, va_K.moved hW.alike hK, hD⟩, hS.F ht⟩) hS.2.2 d_A_grow2_44
set_option maxHeartbeats 1000000 in
set_option maxRecDepth 100000 in
theorem c_A_grow_full (l : Launch) (D : va_G) (t0 : Nat) (g : ZG) (z : ZT) (sz : Nat) (md : Int32) (a n : Nat) (cE : ClassId) (f : Nat → Option Nat) (h2 : 2 ≤ n) (hn : n < 600) (hf0 : ∀ i : Nat, n ≤ i → f i = none) (hfl : ∀ i y : Nat, f i = some y → y ∈ z_LB z) : Met l y_A_grow w_A_grow ({ frames := 4, cells := 1, slots := 1000, locals := 150 }) (zPre D t0 (zTL g [(cE, .object "java/lang/Object")]) (zWL g z md a n [(a, .inl (cE, zRo n f))]) sz [.ref (g_aK g)]) (va_Qq (fun r u => r = some u.1) (fun (u : Nat × ClassId) t => zPost D (zTL g [(u.2, .object "java/lang/Object")]) (va_A (zWL g z md a n [(a, .inl (cE, zRo n f))]) sz) (zWL g z md u.1 n [(u.1, .inl (u.2, zRo (n + n / 2) f))]) t) (va_A (zWL g z md a n [(a, .inl (cE, zRo n f))]) sz)) 1 1000 (va_A (zWL g z md a n [(a, .inl (cE, zRo n f))]) sz) := by
  refine Met.ofW (cc := c_A_grow) (maxL := 1) (ret := (some (.array (.object "java/lang/Object")))) (by decide) rfl ?_
  intro p e s m args below meth c s₁ B hml hv
  obtain ⟨rfl, hsz, hP, hK, hD0, hE⟩ := hv
  have hx := B.exec
  have hb := B.bytes
  have hr := B.returns
  have hts := atoms_spec (ws := w_A_grow) B.pre
  have hk : ∀ w ∈ zB, w.before _ s = true := fun w h => hts w (List.mem_cons_of_mem _ h)
  have hown : s.vm.findClass "java/util/ArrayList" = some m.cls := findClass_of_methodNamed B.named
  have hlocks := B.notSynchronized
  subst hsz
  have hD := hD0.self (sz := s.heap.size)
  generalize hAe : va_A (zWL g z md a n [(a, .inl (cE, zRo n f))]) s.heap.size = A at hD hE ⊢
  have hA : ∀ q : Nat, s.heap.size ≤ q → A q := fun q h => by rw [← hAe]; exact Or.inr h
  have hS : va_S A s.heap s.heap [] := va_S.rf
  have hl := lv_entry ([.ref (g_aK g)]) (n := 1) (Nat.le_of_ble_eq_true rfl)
  rw [lg_entry_eq]
  generalize (lg_sl ([.ref (g_aK g)]) ++ List.replicate (1 - (lg_sl ([.ref (g_aK g)])).length) Slot.unset).toArray = ls at hl ⊢
  have hl : lv_has ls 1 [(0, .ref (g_aK g))] := hl
  refine lv_aload_n hx hb d_A_grow_0 rfl (lv_at hl 0 rfl) ?_
  refine lv_aload_n hx hb d_A_grow_1 rfl (lv_at hl 0 rfl) ?_
  refine va_get (D := D) (ci := 3) (v := .int (nI n)) (C := RA) (T := TA) (N := 3) hx hb hk inA hown hK hP 3 rfl rfl 2 (by decide) (hk _ zk44) (fun _ h9 => h9) rfl d_A_grow_2 ?_
  refine lv_iconst (v := nI 1) hx hb d_A_grow_5 (by decide) ?_
  refine lv_iadd hx hb d_A_grow_6 ?_
  refine zh_t (show (nI n + nI 1) = nI (n + 1) from nI_add _ _) ?_
  refine zcq (zrV (n := 1) (As := [.int (nI (n + 1))]) (rest := []) ⟨hx, hb, hml, hown, hk⟩ (c_A_grow2_full l D t0 g z s.heap.size md a n cE f h2 hn hf0 hfl) zk297 zk299 ks_A_grow2 zk4 kc_A_grow2 ⟨rfl, by decide, by decide, by decide⟩ rfl rfl ⟨Nat.le_of_ble_eq_true rfl, Nat.le_of_ble_eq_true rfl⟩ ⟨hP, hK, hD, hS, hA, hE⟩ (va_recv hK hP (ci := 3) (q0 := 3) rfl rfl) rfl hl.1 rfl (Nat.le_of_ble_eq_true rfl) d_A_grow_7 ⟨Nat.le_of_ble_eq_true rfl, Nat.le_of_ble_eq_true rfl⟩) ⟨hP, hK, hD, hS, hA, hE⟩ (fun r u H locs hu hP hK hD hS => ?_)
  exact W.aret hx hb hr (Or.inr ⟨_, rfl⟩) (va_rf_or _) (fun t ht hW => ⟨⟨r, u, rfl, hu, by rw [ht]; exact hP, va_K.moved hW.alike hK, hD⟩, hS.F ht⟩) hS.2.2 d_A_grow_10
set_option maxHeartbeats 1000000 in
set_option maxRecDepth 100000 in
theorem c_A_add2_room (l : Launch) (D : va_G) (t0 : Nat) (g : ZG) (z : ZT) (sz : Nat) (md : Int32) (a n n1 : Nat) (cE : ClassId) (f : Nat → Option Nat) (hn : n < n1) (hn1 : n1 < 1000) (b : Nat) (hb9 : b ∈ z_LB z)  : Met l y_A_add2 w_A_add2 ({ frames := 5, cells := 1, slots := 1000, locals := 180 }) (zPre D t0 (zTL g [(cE, .object "java/lang/Object")]) (zWL g z md a n [(a, .inl (cE, zRo n1 f))]) sz [.ref (g_aK g), .ref b, .ref a, .int (nI n)]) (va_Qv (fun _ => True) (fun (u : Nat × ClassId) t => zPost D (zTL g [(u.2, .object "java/lang/Object")]) (va_A (zWL g z md a n [(a, .inl (cE, zRo n1 f))]) sz) (zWL g z md u.1 (n + 1) [(u.1, .inl (u.2, zRo n1 (va_up f n (some b))))]) t) (va_A (zWL g z md a n [(a, .inl (cE, zRo n1 f))]) sz)) 1 1000 (va_A (zWL g z md a n [(a, .inl (cE, zRo n1 f))]) sz) := by
  refine Met.ofW (cc := c_A_add2) (maxL := 4) (ret := none) (by decide) rfl ?_
  intro p e s m args below meth c s₁ B hml hv
  obtain ⟨rfl, hsz, hP, hK, hD0, hE⟩ := hv
  have hx := B.exec
  have hb := B.bytes
  have hr := B.returns
  have hts := atoms_spec (ws := w_A_add2) B.pre
  have hk : ∀ w ∈ zB, w.before _ s = true := fun w h => hts w (List.mem_cons_of_mem _ h)
  have hown : s.vm.findClass "java/util/ArrayList" = some m.cls := findClass_of_methodNamed B.named
  have hlocks := B.notSynchronized
  subst hsz
  have hD := hD0.self (sz := s.heap.size)
  generalize hAe : va_A (zWL g z md a n [(a, .inl (cE, zRo n1 f))]) s.heap.size = A at hD hE ⊢
  have hA : ∀ q : Nat, s.heap.size ≤ q → A q := fun q h => by rw [← hAe]; exact Or.inr h
  have hS : va_S A s.heap s.heap [] := va_S.rf
  have hl := lv_entry ([.ref (g_aK g), .ref b, .ref a, .int (nI n)]) (n := 4) (Nat.le_of_ble_eq_true rfl)
  rw [lg_entry_eq]
  generalize (lg_sl ([.ref (g_aK g), .ref b, .ref a, .int (nI n)]) ++ List.replicate (4 - (lg_sl ([.ref (g_aK g), .ref b, .ref a, .int (nI n)])).length) Slot.unset).toArray = ls at hl ⊢
  have hl : lv_has ls 4 [(0, .ref (g_aK g)), (1, .ref b), (2, .ref a), (3, .int (nI n))] := hl
  refine lv_iload_n hx hb d_A_add2_0 rfl (lv_at hl 3 rfl) ?_
  refine lv_aload_n hx hb d_A_add2_1 rfl (lv_at hl 2 rfl) ?_
  refine va_alen (v := nI n1) hx hb hK hP 6 4 rfl rfl rfl d_A_add2_2 ?_
  refine lv_icmp_ne (tgt := 11) hx hb d_A_add2_3 (by decide) (fun h => ?_) (fun h => ?_)
  rotate_left 1
  · rw [nI_eq (by omega) (by omega)] at h
    exact absurd h (by omega)
  rw [nI_eq (by omega) (by omega)] at h
  refine lv_aload_n hx hb d_A_add2_11 rfl (lv_at hl 2 rfl) ?_
  refine lv_iload_n hx hb d_A_add2_12 rfl (lv_at hl 3 rfl) ?_
  refine lv_aload_n hx hb d_A_add2_13 rfl (lv_at hl 1 rfl) ?_
  obtain ⟨k9, hk9⟩ := zpoolL (g := g) (z := z) (md := md) (r := a) (len := n) (we := [(a, .inl (cE, zRo n1 f))]) hb9
  refine vb_astq (C := RB) (E := "java/lang/Object") hx hb hK hP hD hS 6 4 rfl rfl (va_recv hK hP (ci := 1) (q := (RB, TB, 4)) rfl hk9) (fun comp c9 h1 h2 => vb_asgC (hE.1.1 _ zn590) comp c9 h1 h2) (vp_in_nI (by omega) (by omega)) d_A_add2_14 (fun H locs hP hD hS => ?_)
  rw [nI_clamp (n := n) (by omega)] at hP hD
  have hP : va_P D zcl (zWL g z md a n [(a, .inl (cE, zRo n1 (va_up f n (some b))))]) H := hP
  have hD : va_D A (zWL g z md a n [(a, .inl (cE, zRo n1 (va_up f n (some b))))]) := hD
  have hK : va_K D zcl (zTL g [(cE, .object "java/lang/Object")]) s := hK
  refine lv_aload_n hx hb d_A_add2_15 rfl (lv_at hl 0 rfl) ?_
  refine lv_iload_n hx hb d_A_add2_16 rfl (lv_at hl 3 rfl) ?_
  refine lv_iconst (v := nI 1) hx hb d_A_add2_17 (by decide) ?_
  refine lv_iadd hx hb d_A_add2_18 ?_
  refine zh_t (show (nI n + nI 1) = nI (n + 1) from nI_add _ _) ?_
  refine va_put (D := D) (ci := 3) (v := .int (nI (n + 1))) (ty := .int) (C := RA) (T := TA) (N := 3) hx hb hk inA tyA okA nmA hown hK hP hD hS 3 rfl rfl 2 (by decide) (hk _ zk44) (fun _ h9 => h9) rfl (by decide +kernel) rfl rfl (Nat.le_of_ble_eq_true rfl) d_A_add2_19 (fun H locs hP hD hS => ?_)
  have hP : va_P D zcl (zWL g z md a (n + 1) [(a, .inl (cE, zRo n1 (va_up f n (some b))))]) H := hP
  have hD : va_D A (zWL g z md a (n + 1) [(a, .inl (cE, zRo n1 (va_up f n (some b))))]) := hD
  refine W.widen (k := 1) (n := 1000) (by decide) (by decide) ?_
  exact W.vret hx hb hr (fun t ht hW => ⟨⟨(a, cE), rfl, trivial, by rw [ht]; exact hP, va_K.moved hW.alike hK, hD⟩, hS.F ht⟩) hS.2.2 d_A_add2_22
set_option maxHeartbeats 1000000 in
set_option maxRecDepth 100000 in
theorem c_A_add_room (l : Launch) (D : va_G) (t0 : Nat) (g : ZG) (z : ZT) (sz : Nat) (md : Int32) (a n n1 : Nat) (cE : ClassId) (f : Nat → Option Nat) (hn : n < n1) (hn1 : n1 < 1000) (b : Nat) (hb9 : b ∈ z_LB z)  : Met l y_A_add w_A_add ({ frames := 6, cells := 1, slots := 1000, locals := 210 }) (zPre D t0 (zTL g [(cE, .object "java/lang/Object")]) (zWL g z md a n [(a, .inl (cE, zRo n1 f))]) sz [.ref (g_aK g), .ref b]) (va_Qi (fun r _ => True) (fun (u : Nat × ClassId) t => zPost D (zTL g [(u.2, .object "java/lang/Object")]) (va_A (zWL g z md a n [(a, .inl (cE, zRo n1 f))]) sz) (zWL g z (md + 1) u.1 (n + 1) [(u.1, .inl (u.2, zRo n1 (va_up f n (some b))))]) t) (va_A (zWL g z md a n [(a, .inl (cE, zRo n1 f))]) sz)) 1 1000 (va_A (zWL g z md a n [(a, .inl (cE, zRo n1 f))]) sz) := by
  refine Met.ofW (cc := c_A_add) (maxL := 2) (ret := (some .boolean)) (by decide) rfl ?_
  intro p e s m args below meth c s₁ B hml hv
  obtain ⟨rfl, hsz, hP, hK, hD0, hE⟩ := hv
  have hx := B.exec
  have hb := B.bytes
  have hr := B.returns
  have hts := atoms_spec (ws := w_A_add) B.pre
  have hk : ∀ w ∈ zB, w.before _ s = true := fun w h => hts w (List.mem_cons_of_mem _ h)
  have hown : s.vm.findClass "java/util/ArrayList" = some m.cls := findClass_of_methodNamed B.named
  have hlocks := B.notSynchronized
  subst hsz
  have hD := hD0.self (sz := s.heap.size)
  generalize hAe : va_A (zWL g z md a n [(a, .inl (cE, zRo n1 f))]) s.heap.size = A at hD hE ⊢
  have hA : ∀ q : Nat, s.heap.size ≤ q → A q := fun q h => by rw [← hAe]; exact Or.inr h
  have hS : va_S A s.heap s.heap [] := va_S.rf
  have hl := lv_entry ([.ref (g_aK g), .ref b]) (n := 2) (Nat.le_of_ble_eq_true rfl)
  rw [lg_entry_eq]
  generalize (lg_sl ([.ref (g_aK g), .ref b]) ++ List.replicate (2 - (lg_sl ([.ref (g_aK g), .ref b])).length) Slot.unset).toArray = ls at hl ⊢
  have hl : lv_has ls 2 [(0, .ref (g_aK g)), (1, .ref b)] := hl
  refine lv_aload_n hx hb d_A_add_0 rfl (lv_at hl 0 rfl) ?_
  refine lv_dup hx hb d_A_add_1 rfl ?_
  refine va_get (D := D) (ci := 3) (v := .int md) (C := RA) (T := TA) (N := 3) hx hb hk inA hown hK hP 3 rfl rfl 0 (by decide) (hk _ zk46) (fun x9 h9 => u_same (hk _ zk47) x9 h9) rfl d_A_add_2 ?_
  refine lv_iconst (v := nI 1) hx hb d_A_add_5 (by decide) ?_
  refine lv_iadd hx hb d_A_add_6 ?_
  refine zh_t (show md + nI 1 = md + 1 from rfl) ?_
  refine va_put (D := D) (ci := 3) (v := .int (md + 1)) (ty := .int) (C := RA) (T := TA) (N := 3) hx hb hk inA tyA okA nmA hown hK hP hD hS 3 rfl rfl 0 (by decide) (hk _ zk46) (fun x9 h9 => u_same (hk _ zk47) x9 h9) rfl (by decide +kernel) rfl rfl (Nat.le_of_ble_eq_true rfl) d_A_add_7 (fun H locs hP hD hS => ?_)
  have hP : va_P D zcl (zWL g z (md + 1) a n [(a, .inl (cE, zRo n1 f))]) H := hP
  have hD : va_D A (zWL g z (md + 1) a n [(a, .inl (cE, zRo n1 f))]) := hD
  have hK : va_K D zcl (zTL g [(cE, .object "java/lang/Object")]) s := hK
  refine lv_aload_n hx hb d_A_add_10 rfl (lv_at hl 0 rfl) ?_
  refine lv_aload_n hx hb d_A_add_11 rfl (lv_at hl 1 rfl) ?_
  refine lv_aload_n hx hb d_A_add_12 rfl (lv_at hl 0 rfl) ?_
  refine va_get (D := D) (ci := 3) (v := .ref a) (C := RA) (T := TA) (N := 3) hx hb hk inA hown hK hP 3 rfl rfl 1 (by decide) (hk _ zk43) (fun _ h9 => h9) rfl d_A_add_13 ?_
  refine lv_aload_n hx hb d_A_add_16 rfl (lv_at hl 0 rfl) ?_
  refine va_get (D := D) (ci := 3) (v := .int (nI n)) (C := RA) (T := TA) (N := 3) hx hb hk inA hown hK hP 3 rfl rfl 2 (by decide) (hk _ zk44) (fun _ h9 => h9) rfl d_A_add_17 ?_
  refine zcv (zrV (n := 3) (As := [.ref b, .ref a, .int (nI n)]) (rest := []) ⟨hx, hb, hml, hown, hk⟩ (c_A_add2_room l D t0 g z H.size (md + 1) a n n1 cE f hn hn1 b hb9) zk289 zk291 ks_A_add2 zk4 kc_A_add2 ⟨rfl, by decide, by decide, by decide⟩ rfl rfl ⟨Nat.le_of_ble_eq_true rfl, Nat.le_of_ble_eq_true rfl⟩ ⟨hP, hK, hD, hS, hA, hE⟩ (va_recv hK hP (ci := 3) (q0 := 3) rfl rfl) rfl hl.1 rfl (Nat.le_of_ble_eq_true rfl) d_A_add_20 ⟨Nat.le_of_ble_eq_true rfl, Nat.le_of_ble_eq_true rfl⟩) ⟨hP, hK, hD, hS, hA, hE⟩ (fun u H locs hu hP hK hD hS => ?_)
  refine lv_iconst (v := nI 1) hx hb d_A_add_23 (by decide) ?_
  exact W.zret hx hb hr rfl (fun t ht hW => ⟨⟨_, u, rfl, trivial, by rw [ht]; exact hP, va_K.moved hW.alike hK, hD⟩, hS.F ht⟩) hS.2.2 d_A_add_24
set_option maxHeartbeats 1000000 in
set_option maxRecDepth 100000 in
theorem c_A_add2_first (l : Launch) (D : va_G) (t0 : Nat) (g : ZG) (z : ZT) (sz : Nat) (md : Int32) (b : Nat) (hb9 : b ∈ z_LB z)  : Met l y_A_add2 w_A_add2 ({ frames := 5, cells := 1, slots := 1000, locals := 180 }) (zPre D t0 (zTL g []) (zWL g z md t0 0 []) sz [.ref (g_aK g), .ref b, .ref t0, .int (nI 0)]) (va_Qv (fun _ => True) (fun (u : Nat × ClassId) t => zPost D (zTL g [(u.2, .object "java/lang/Object")]) (va_A (zWL g z md t0 0 []) sz) (zWL g z md u.1 (0 + 1) [(u.1, .inl (u.2, zRo 10 (va_up (fun _ => none) 0 (some b))))]) t) (va_A (zWL g z md t0 0 []) sz)) 1 1000 (va_A (zWL g z md t0 0 []) sz) := by
  refine Met.ofW (cc := c_A_add2) (maxL := 4) (ret := none) (by decide) rfl ?_
  intro p e s m args below meth c s₁ B hml hv
  obtain ⟨rfl, hsz, hP, hK, hD0, hE⟩ := hv
  have hx := B.exec
  have hb := B.bytes
  have hr := B.returns
  have hts := atoms_spec (ws := w_A_add2) B.pre
  have hk : ∀ w ∈ zB, w.before _ s = true := fun w h => hts w (List.mem_cons_of_mem _ h)
  have hown : s.vm.findClass "java/util/ArrayList" = some m.cls := findClass_of_methodNamed B.named
  have hlocks := B.notSynchronized
  subst hsz
  have hD := hD0.self (sz := s.heap.size)
  generalize hAe : va_A (zWL g z md t0 0 []) s.heap.size = A at hD hE ⊢
  have hA : ∀ q : Nat, s.heap.size ≤ q → A q := fun q h => by rw [← hAe]; exact Or.inr h
  have hS : va_S A s.heap s.heap [] := va_S.rf
  have hl := lv_entry ([.ref (g_aK g), .ref b, .ref t0, .int (nI 0)]) (n := 4) (Nat.le_of_ble_eq_true rfl)
  rw [lg_entry_eq]
  generalize (lg_sl ([.ref (g_aK g), .ref b, .ref t0, .int (nI 0)]) ++ List.replicate (4 - (lg_sl ([.ref (g_aK g), .ref b, .ref t0, .int (nI 0)])).length) Slot.unset).toArray = ls at hl ⊢
  have hl : lv_has ls 4 [(0, .ref (g_aK g)), (1, .ref b), (2, .ref t0), (3, .int (nI 0))] := hl
  refine lv_iload_n hx hb d_A_add2_0 rfl (lv_at hl 3 rfl) ?_
  refine lv_aload_n hx hb d_A_add2_1 rfl (lv_at hl 2 rfl) ?_
  refine va_tlen (v := nI 0) hx hb hE.2.2.2.2 hS rfl d_A_add2_2 ?_
  refine lv_icmp_ne (tgt := 11) hx hb d_A_add2_3 (by decide) (fun h => ?_) (fun h => ?_)
  · rw [nI_eq (by omega) (by omega)] at h
    exact absurd rfl h
  rw [nI_eq (by omega) (by omega)] at h
  refine lv_aload_n hx hb d_A_add2_6 rfl (lv_at hl 0 rfl) ?_
  refine zcq (zrV (n := 0) (As := []) (rest := []) ⟨hx, hb, hml, hown, hk⟩ (c_A_grow_first l D t0 g z s.heap.size md) zk293 zk295 ks_A_grow zk4 kc_A_grow ⟨rfl, by decide, by decide, by decide⟩ rfl rfl ⟨Nat.le_of_ble_eq_true rfl, Nat.le_of_ble_eq_true rfl⟩ ⟨hP, hK, hD, hS, hA, hE⟩ (va_recv hK hP (ci := 3) (q0 := 3) rfl rfl) rfl hl.1 rfl (Nat.le_of_ble_eq_true rfl) d_A_add2_7 ⟨Nat.le_of_ble_eq_true rfl, Nat.le_of_ble_eq_true rfl⟩) ⟨hP, hK, hD, hS, hA, hE⟩ (fun r u H locs hu hP hK hD hS => ?_)
  obtain ⟨q, cA⟩ := u
  have hu : r = some q := hu
  subst hu
  refine zh_v (show va_rf (some q) = .ref q from rfl) ?_
  have hP : va_P D zcl (zWL g z md q 0 [(q, .inl (cA, zRo 10 (fun _ => none)))]) H := hP
  have hD : va_D A (zWL g z md q 0 [(q, .inl (cA, zRo 10 (fun _ => none)))]) := hD
  have hK : va_K D zcl (zTL g [(cA, .object "java/lang/Object")]) s := hK
  refine lv_astore_n (lv' := [(2, .ref q), (0, .ref (g_aK g)), (1, .ref b), (3, .int (nI 0))]) hx hb d_A_add2_10 rfl hl (by decide) rfl (fun ls hl => ?_)
  refine lv_aload_n hx hb d_A_add2_11 rfl (lv_at hl 0 rfl) ?_
  refine lv_iload_n hx hb d_A_add2_12 rfl (lv_at hl 3 rfl) ?_
  refine lv_aload_n hx hb d_A_add2_13 rfl (lv_at hl 2 rfl) ?_
  obtain ⟨k9, hk9⟩ := zpoolL (g := g) (z := z) (md := md) (r := q) (len := 0) (we := [(q, .inl (cA, zRo 10 (fun _ => none)))]) hb9
  refine vb_astq (C := RB) (E := "java/lang/Object") hx hb hK hP hD hS 6 4 rfl rfl (va_recv hK hP (ci := 1) (q := (RB, TB, 4)) rfl hk9) (fun comp c9 h1 h2 => vb_asgC (hE.1.1 _ zn590) comp c9 h1 h2) (vp_in_nI (by omega) (by omega)) d_A_add2_14 (fun H locs hP hD hS => ?_)
  rw [nI_clamp (n := 0) (by omega)] at hP hD
  have hP : va_P D zcl (zWL g z md q 0 [(q, .inl (cA, zRo 10 (va_up (fun _ => none) 0 (some b))))]) H := hP
  have hD : va_D A (zWL g z md q 0 [(q, .inl (cA, zRo 10 (va_up (fun _ => none) 0 (some b))))]) := hD
  have hK : va_K D zcl (zTL g [(cA, .object "java/lang/Object")]) s := hK
  refine lv_aload_n hx hb d_A_add2_15 rfl (lv_at hl 1 rfl) ?_
  refine lv_iload_n hx hb d_A_add2_16 rfl (lv_at hl 3 rfl) ?_
  refine lv_iconst (v := nI 1) hx hb d_A_add2_17 (by decide) ?_
  refine lv_iadd hx hb d_A_add2_18 ?_
  refine zh_t (show (nI 0 + nI 1) = nI (0 + 1) from nI_add _ _) ?_
  refine va_put (D := D) (ci := 3) (v := .int (nI (0 + 1))) (ty := .int) (C := RA) (T := TA) (N := 3) hx hb hk inA tyA okA nmA hown hK hP hD hS 3 rfl rfl 2 (by decide) (hk _ zk44) (fun _ h9 => h9) rfl (by decide +kernel) rfl rfl (Nat.le_of_ble_eq_true rfl) d_A_add2_19 (fun H locs hP hD hS => ?_)
  have hP : va_P D zcl (zWL g z md q (0 + 1) [(q, .inl (cA, zRo 10 (va_up (fun _ => none) 0 (some b))))]) H := hP
  have hD : va_D A (zWL g z md q (0 + 1) [(q, .inl (cA, zRo 10 (va_up (fun _ => none) 0 (some b))))]) := hD
  exact W.vret hx hb hr (fun t ht hW => ⟨⟨(q, cA), rfl, trivial, by rw [ht]; exact hP, va_K.moved hW.alike hK, hD⟩, hS.F ht⟩) hS.2.2 d_A_add2_22
set_option maxHeartbeats 1000000 in
set_option maxRecDepth 100000 in
theorem c_A_add_first (l : Launch) (D : va_G) (t0 : Nat) (g : ZG) (z : ZT) (sz : Nat) (md : Int32) (b : Nat) (hb9 : b ∈ z_LB z)  : Met l y_A_add w_A_add ({ frames := 6, cells := 1, slots := 1000, locals := 210 }) (zPre D t0 (zTL g []) (zWL g z md t0 0 []) sz [.ref (g_aK g), .ref b]) (va_Qi (fun r _ => True) (fun (u : Nat × ClassId) t => zPost D (zTL g [(u.2, .object "java/lang/Object")]) (va_A (zWL g z md t0 0 []) sz) (zWL g z (md + 1) u.1 (0 + 1) [(u.1, .inl (u.2, zRo 10 (va_up (fun _ => none) 0 (some b))))]) t) (va_A (zWL g z md t0 0 []) sz)) 1 1000 (va_A (zWL g z md t0 0 []) sz) := by
  refine Met.ofW (cc := c_A_add) (maxL := 2) (ret := (some .boolean)) (by decide) rfl ?_
  intro p e s m args below meth c s₁ B hml hv
  obtain ⟨rfl, hsz, hP, hK, hD0, hE⟩ := hv
  have hx := B.exec
  have hb := B.bytes
  have hr := B.returns
  have hts := atoms_spec (ws := w_A_add) B.pre
  have hk : ∀ w ∈ zB, w.before _ s = true := fun w h => hts w (List.mem_cons_of_mem _ h)
  have hown : s.vm.findClass "java/util/ArrayList" = some m.cls := findClass_of_methodNamed B.named
  have hlocks := B.notSynchronized
  subst hsz
  have hD := hD0.self (sz := s.heap.size)
  generalize hAe : va_A (zWL g z md t0 0 []) s.heap.size = A at hD hE ⊢
  have hA : ∀ q : Nat, s.heap.size ≤ q → A q := fun q h => by rw [← hAe]; exact Or.inr h
  have hS : va_S A s.heap s.heap [] := va_S.rf
  have hl := lv_entry ([.ref (g_aK g), .ref b]) (n := 2) (Nat.le_of_ble_eq_true rfl)
  rw [lg_entry_eq]
  generalize (lg_sl ([.ref (g_aK g), .ref b]) ++ List.replicate (2 - (lg_sl ([.ref (g_aK g), .ref b])).length) Slot.unset).toArray = ls at hl ⊢
  have hl : lv_has ls 2 [(0, .ref (g_aK g)), (1, .ref b)] := hl
  refine lv_aload_n hx hb d_A_add_0 rfl (lv_at hl 0 rfl) ?_
  refine lv_dup hx hb d_A_add_1 rfl ?_
  refine va_get (D := D) (ci := 3) (v := .int md) (C := RA) (T := TA) (N := 3) hx hb hk inA hown hK hP 3 rfl rfl 0 (by decide) (hk _ zk46) (fun x9 h9 => u_same (hk _ zk47) x9 h9) rfl d_A_add_2 ?_
  refine lv_iconst (v := nI 1) hx hb d_A_add_5 (by decide) ?_
  refine lv_iadd hx hb d_A_add_6 ?_
  refine zh_t (show md + nI 1 = md + 1 from rfl) ?_
  refine va_put (D := D) (ci := 3) (v := .int (md + 1)) (ty := .int) (C := RA) (T := TA) (N := 3) hx hb hk inA tyA okA nmA hown hK hP hD hS 3 rfl rfl 0 (by decide) (hk _ zk46) (fun x9 h9 => u_same (hk _ zk47) x9 h9) rfl (by decide +kernel) rfl rfl (Nat.le_of_ble_eq_true rfl) d_A_add_7 (fun H locs hP hD hS => ?_)
  have hP : va_P D zcl (zWL g z (md + 1) t0 0 []) H := hP
  have hD : va_D A (zWL g z (md + 1) t0 0 []) := hD
  have hK : va_K D zcl (zTL g []) s := hK
  refine lv_aload_n hx hb d_A_add_10 rfl (lv_at hl 0 rfl) ?_
  refine lv_aload_n hx hb d_A_add_11 rfl (lv_at hl 1 rfl) ?_
  refine lv_aload_n hx hb d_A_add_12 rfl (lv_at hl 0 rfl) ?_
  refine va_get (D := D) (ci := 3) (v := .ref t0) (C := RA) (T := TA) (N := 3) hx hb hk inA hown hK hP 3 rfl rfl 1 (by decide) (hk _ zk43) (fun _ h9 => h9) rfl d_A_add_13 ?_
  refine lv_aload_n hx hb d_A_add_16 rfl (lv_at hl 0 rfl) ?_
  refine va_get (D := D) (ci := 3) (v := .int (nI 0)) (C := RA) (T := TA) (N := 3) hx hb hk inA hown hK hP 3 rfl rfl 2 (by decide) (hk _ zk44) (fun _ h9 => h9) rfl d_A_add_17 ?_
  refine zcv (zrV (n := 3) (As := [.ref b, .ref t0, .int (nI 0)]) (rest := []) ⟨hx, hb, hml, hown, hk⟩ (c_A_add2_first l D t0 g z H.size (md + 1) b hb9) zk289 zk291 ks_A_add2 zk4 kc_A_add2 ⟨rfl, by decide, by decide, by decide⟩ rfl rfl ⟨Nat.le_of_ble_eq_true rfl, Nat.le_of_ble_eq_true rfl⟩ ⟨hP, hK, hD, hS, hA, hE⟩ (va_recv hK hP (ci := 3) (q0 := 3) rfl rfl) rfl hl.1 rfl (Nat.le_of_ble_eq_true rfl) d_A_add_20 ⟨Nat.le_of_ble_eq_true rfl, Nat.le_of_ble_eq_true rfl⟩) ⟨hP, hK, hD, hS, hA, hE⟩ (fun u H locs hu hP hK hD hS => ?_)
  refine lv_iconst (v := nI 1) hx hb d_A_add_23 (by decide) ?_
  exact W.zret hx hb hr rfl (fun t ht hW => ⟨⟨_, u, rfl, trivial, by rw [ht]; exact hP, va_K.moved hW.alike hK, hD⟩, hS.F ht⟩) hS.2.2 d_A_add_24
set_option maxHeartbeats 1000000 in
set_option maxRecDepth 100000 in
theorem c_A_add2_full (l : Launch) (D : va_G) (t0 : Nat) (g : ZG) (z : ZT) (sz : Nat) (md : Int32) (a n : Nat) (cE : ClassId) (f : Nat → Option Nat) (h2 : 2 ≤ n) (hn : n < 600) (hf0 : ∀ i : Nat, n ≤ i → f i = none) (hfl : ∀ i y : Nat, f i = some y → y ∈ z_LB z) (b : Nat) (hb9 : b ∈ z_LB z)  : Met l y_A_add2 w_A_add2 ({ frames := 5, cells := 1, slots := 1000, locals := 180 }) (zPre D t0 (zTL g [(cE, .object "java/lang/Object")]) (zWL g z md a n [(a, .inl (cE, zRo n f))]) sz [.ref (g_aK g), .ref b, .ref a, .int (nI n)]) (va_Qv (fun _ => True) (fun (u : Nat × ClassId) t => zPost D (zTL g [(u.2, .object "java/lang/Object")]) (va_A (zWL g z md a n [(a, .inl (cE, zRo n f))]) sz) (zWL g z md u.1 (n + 1) [(u.1, .inl (u.2, zRo (n + n / 2) (va_up f n (some b))))]) t) (va_A (zWL g z md a n [(a, .inl (cE, zRo n f))]) sz)) 1 1000 (va_A (zWL g z md a n [(a, .inl (cE, zRo n f))]) sz) := by
  refine Met.ofW (cc := c_A_add2) (maxL := 4) (ret := none) (by decide) rfl ?_
  intro p e s m args below meth c s₁ B hml hv
  obtain ⟨rfl, hsz, hP, hK, hD0, hE⟩ := hv
  have hx := B.exec
  have hb := B.bytes
  have hr := B.returns
  have hts := atoms_spec (ws := w_A_add2) B.pre
  have hk : ∀ w ∈ zB, w.before _ s = true := fun w h => hts w (List.mem_cons_of_mem _ h)
  have hown : s.vm.findClass "java/util/ArrayList" = some m.cls := findClass_of_methodNamed B.named
  have hlocks := B.notSynchronized
  subst hsz
  have hD := hD0.self (sz := s.heap.size)
  generalize hAe : va_A (zWL g z md a n [(a, .inl (cE, zRo n f))]) s.heap.size = A at hD hE ⊢
  have hA : ∀ q : Nat, s.heap.size ≤ q → A q := fun q h => by rw [← hAe]; exact Or.inr h
  have hS : va_S A s.heap s.heap [] := va_S.rf
  have hl := lv_entry ([.ref (g_aK g), .ref b, .ref a, .int (nI n)]) (n := 4) (Nat.le_of_ble_eq_true rfl)
  rw [lg_entry_eq]
  generalize (lg_sl ([.ref (g_aK g), .ref b, .ref a, .int (nI n)]) ++ List.replicate (4 - (lg_sl ([.ref (g_aK g), .ref b, .ref a, .int (nI n)])).length) Slot.unset).toArray = ls at hl ⊢
  have hl : lv_has ls 4 [(0, .ref (g_aK g)), (1, .ref b), (2, .ref a), (3, .int (nI n))] := hl
  refine lv_iload_n hx hb d_A_add2_0 rfl (lv_at hl 3 rfl) ?_
  refine lv_aload_n hx hb d_A_add2_1 rfl (lv_at hl 2 rfl) ?_
  refine va_alen (v := nI n) hx hb hK hP 6 4 rfl rfl rfl d_A_add2_2 ?_
  refine lv_icmp_ne (tgt := 11) hx hb d_A_add2_3 (by decide) (fun h => ?_) (fun h => ?_)
  · rw [nI_eq (by omega) (by omega)] at h
    exact absurd rfl h
  rw [nI_eq (by omega) (by omega)] at h
  refine lv_aload_n hx hb d_A_add2_6 rfl (lv_at hl 0 rfl) ?_
  refine zcq (zrV (n := 0) (As := []) (rest := []) ⟨hx, hb, hml, hown, hk⟩ (c_A_grow_full l D t0 g z s.heap.size md a n cE f h2 hn hf0 hfl) zk293 zk295 ks_A_grow zk4 kc_A_grow ⟨rfl, by decide, by decide, by decide⟩ rfl rfl ⟨Nat.le_of_ble_eq_true rfl, Nat.le_of_ble_eq_true rfl⟩ ⟨hP, hK, hD, hS, hA, hE⟩ (va_recv hK hP (ci := 3) (q0 := 3) rfl rfl) rfl hl.1 rfl (Nat.le_of_ble_eq_true rfl) d_A_add2_7 ⟨Nat.le_of_ble_eq_true rfl, Nat.le_of_ble_eq_true rfl⟩) ⟨hP, hK, hD, hS, hA, hE⟩ (fun r u H locs hu hP hK hD hS => ?_)
  obtain ⟨q, cA⟩ := u
  have hu : r = some q := hu
  subst hu
  refine zh_v (show va_rf (some q) = .ref q from rfl) ?_
  have hP : va_P D zcl (zWL g z md q n [(q, .inl (cA, zRo (n + n / 2) f))]) H := hP
  have hD : va_D A (zWL g z md q n [(q, .inl (cA, zRo (n + n / 2) f))]) := hD
  have hK : va_K D zcl (zTL g [(cA, .object "java/lang/Object")]) s := hK
  refine lv_astore_n (lv' := [(2, .ref q), (0, .ref (g_aK g)), (1, .ref b), (3, .int (nI n))]) hx hb d_A_add2_10 rfl hl (by decide) rfl (fun ls hl => ?_)
  refine lv_aload_n hx hb d_A_add2_11 rfl (lv_at hl 0 rfl) ?_
  refine lv_iload_n hx hb d_A_add2_12 rfl (lv_at hl 3 rfl) ?_
  refine lv_aload_n hx hb d_A_add2_13 rfl (lv_at hl 2 rfl) ?_
  obtain ⟨k9, hk9⟩ := zpoolL (g := g) (z := z) (md := md) (r := q) (len := n) (we := [(q, .inl (cA, zRo (n + n / 2) f))]) hb9
  refine vb_astq (C := RB) (E := "java/lang/Object") hx hb hK hP hD hS 6 4 rfl rfl (va_recv hK hP (ci := 1) (q := (RB, TB, 4)) rfl hk9) (fun comp c9 h1 h2 => vb_asgC (hE.1.1 _ zn590) comp c9 h1 h2) (vp_in_nI (by omega) (by omega)) d_A_add2_14 (fun H locs hP hD hS => ?_)
  rw [nI_clamp (n := n) (by omega)] at hP hD
  have hP : va_P D zcl (zWL g z md q n [(q, .inl (cA, zRo (n + n / 2) (va_up f n (some b))))]) H := hP
  have hD : va_D A (zWL g z md q n [(q, .inl (cA, zRo (n + n / 2) (va_up f n (some b))))]) := hD
  have hK : va_K D zcl (zTL g [(cA, .object "java/lang/Object")]) s := hK
  refine lv_aload_n hx hb d_A_add2_15 rfl (lv_at hl 1 rfl) ?_
  refine lv_iload_n hx hb d_A_add2_16 rfl (lv_at hl 3 rfl) ?_
  refine lv_iconst (v := nI 1) hx hb d_A_add2_17 (by decide) ?_
  refine lv_iadd hx hb d_A_add2_18 ?_
  refine zh_t (show (nI n + nI 1) = nI (n + 1) from nI_add _ _) ?_
  refine va_put (D := D) (ci := 3) (v := .int (nI (n + 1))) (ty := .int) (C := RA) (T := TA) (N := 3) hx hb hk inA tyA okA nmA hown hK hP hD hS 3 rfl rfl 2 (by decide) (hk _ zk44) (fun _ h9 => h9) rfl (by decide +kernel) rfl rfl (Nat.le_of_ble_eq_true rfl) d_A_add2_19 (fun H locs hP hD hS => ?_)
  have hP : va_P D zcl (zWL g z md q (n + 1) [(q, .inl (cA, zRo (n + n / 2) (va_up f n (some b))))]) H := hP
  have hD : va_D A (zWL g z md q (n + 1) [(q, .inl (cA, zRo (n + n / 2) (va_up f n (some b))))]) := hD
  exact W.vret hx hb hr (fun t ht hW => ⟨⟨(q, cA), rfl, trivial, by rw [ht]; exact hP, va_K.moved hW.alike hK, hD⟩, hS.F ht⟩) hS.2.2 d_A_add2_22
set_option maxHeartbeats 1000000 in
set_option maxRecDepth 100000 in
theorem c_A_add_full (l : Launch) (D : va_G) (t0 : Nat) (g : ZG) (z : ZT) (sz : Nat) (md : Int32) (a n : Nat) (cE : ClassId) (f : Nat → Option Nat) (h2 : 2 ≤ n) (hn : n < 600) (hf0 : ∀ i : Nat, n ≤ i → f i = none) (hfl : ∀ i y : Nat, f i = some y → y ∈ z_LB z) (b : Nat) (hb9 : b ∈ z_LB z)  : Met l y_A_add w_A_add ({ frames := 6, cells := 1, slots := 1000, locals := 210 }) (zPre D t0 (zTL g [(cE, .object "java/lang/Object")]) (zWL g z md a n [(a, .inl (cE, zRo n f))]) sz [.ref (g_aK g), .ref b]) (va_Qi (fun r _ => True) (fun (u : Nat × ClassId) t => zPost D (zTL g [(u.2, .object "java/lang/Object")]) (va_A (zWL g z md a n [(a, .inl (cE, zRo n f))]) sz) (zWL g z (md + 1) u.1 (n + 1) [(u.1, .inl (u.2, zRo (n + n / 2) (va_up f n (some b))))]) t) (va_A (zWL g z md a n [(a, .inl (cE, zRo n f))]) sz)) 1 1000 (va_A (zWL g z md a n [(a, .inl (cE, zRo n f))]) sz) := by
  refine Met.ofW (cc := c_A_add) (maxL := 2) (ret := (some .boolean)) (by decide) rfl ?_
  intro p e s m args below meth c s₁ B hml hv
  obtain ⟨rfl, hsz, hP, hK, hD0, hE⟩ := hv
  have hx := B.exec
  have hb := B.bytes
  have hr := B.returns
  have hts := atoms_spec (ws := w_A_add) B.pre
  have hk : ∀ w ∈ zB, w.before _ s = true := fun w h => hts w (List.mem_cons_of_mem _ h)
  have hown : s.vm.findClass "java/util/ArrayList" = some m.cls := findClass_of_methodNamed B.named
  have hlocks := B.notSynchronized
  subst hsz
  have hD := hD0.self (sz := s.heap.size)
  generalize hAe : va_A (zWL g z md a n [(a, .inl (cE, zRo n f))]) s.heap.size = A at hD hE ⊢
  have hA : ∀ q : Nat, s.heap.size ≤ q → A q := fun q h => by rw [← hAe]; exact Or.inr h
  have hS : va_S A s.heap s.heap [] := va_S.rf
  have hl := lv_entry ([.ref (g_aK g), .ref b]) (n := 2) (Nat.le_of_ble_eq_true rfl)
  rw [lg_entry_eq]
  generalize (lg_sl ([.ref (g_aK g), .ref b]) ++ List.replicate (2 - (lg_sl ([.ref (g_aK g), .ref b])).length) Slot.unset).toArray = ls at hl ⊢
  have hl : lv_has ls 2 [(0, .ref (g_aK g)), (1, .ref b)] := hl
  refine lv_aload_n hx hb d_A_add_0 rfl (lv_at hl 0 rfl) ?_
  refine lv_dup hx hb d_A_add_1 rfl ?_
  refine va_get (D := D) (ci := 3) (v := .int md) (C := RA) (T := TA) (N := 3) hx hb hk inA hown hK hP 3 rfl rfl 0 (by decide) (hk _ zk46) (fun x9 h9 => u_same (hk _ zk47) x9 h9) rfl d_A_add_2 ?_
  refine lv_iconst (v := nI 1) hx hb d_A_add_5 (by decide) ?_
  refine lv_iadd hx hb d_A_add_6 ?_
  refine zh_t (show md + nI 1 = md + 1 from rfl) ?_
  refine va_put (D := D) (ci := 3) (v := .int (md + 1)) (ty := .int) (C := RA) (T := TA) (N := 3) hx hb hk inA tyA okA nmA hown hK hP hD hS 3 rfl rfl 0 (by decide) (hk _ zk46) (fun x9 h9 => u_same (hk _ zk47) x9 h9) rfl (by decide +kernel) rfl rfl (Nat.le_of_ble_eq_true rfl) d_A_add_7 (fun H locs hP hD hS => ?_)
  have hP : va_P D zcl (zWL g z (md + 1) a n [(a, .inl (cE, zRo n f))]) H := hP
  have hD : va_D A (zWL g z (md + 1) a n [(a, .inl (cE, zRo n f))]) := hD
  have hK : va_K D zcl (zTL g [(cE, .object "java/lang/Object")]) s := hK
  refine lv_aload_n hx hb d_A_add_10 rfl (lv_at hl 0 rfl) ?_
  refine lv_aload_n hx hb d_A_add_11 rfl (lv_at hl 1 rfl) ?_
  refine lv_aload_n hx hb d_A_add_12 rfl (lv_at hl 0 rfl) ?_
  refine va_get (D := D) (ci := 3) (v := .ref a) (C := RA) (T := TA) (N := 3) hx hb hk inA hown hK hP 3 rfl rfl 1 (by decide) (hk _ zk43) (fun _ h9 => h9) rfl d_A_add_13 ?_
  refine lv_aload_n hx hb d_A_add_16 rfl (lv_at hl 0 rfl) ?_
  refine va_get (D := D) (ci := 3) (v := .int (nI n)) (C := RA) (T := TA) (N := 3) hx hb hk inA hown hK hP 3 rfl rfl 2 (by decide) (hk _ zk44) (fun _ h9 => h9) rfl d_A_add_17 ?_
  refine zcv (zrV (n := 3) (As := [.ref b, .ref a, .int (nI n)]) (rest := []) ⟨hx, hb, hml, hown, hk⟩ (c_A_add2_full l D t0 g z H.size (md + 1) a n cE f h2 hn hf0 hfl b hb9) zk289 zk291 ks_A_add2 zk4 kc_A_add2 ⟨rfl, by decide, by decide, by decide⟩ rfl rfl ⟨Nat.le_of_ble_eq_true rfl, Nat.le_of_ble_eq_true rfl⟩ ⟨hP, hK, hD, hS, hA, hE⟩ (va_recv hK hP (ci := 3) (q0 := 3) rfl rfl) rfl hl.1 rfl (Nat.le_of_ble_eq_true rfl) d_A_add_20 ⟨Nat.le_of_ble_eq_true rfl, Nat.le_of_ble_eq_true rfl⟩) ⟨hP, hK, hD, hS, hA, hE⟩ (fun u H locs hu hP hK hD hS => ?_)
  refine lv_iconst (v := nI 1) hx hb d_A_add_23 (by decide) ?_
  exact W.zret hx hb hr rfl (fun t ht hW => ⟨⟨_, u, rfl, trivial, by rw [ht]; exact hP, va_K.moved hW.alike hK, hD⟩, hS.F ht⟩) hS.2.2 d_A_add_24
