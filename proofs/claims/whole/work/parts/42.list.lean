-- ArrayList: its own array beside the other cells
abbrev zRo (n : Nat) (f : Nat → Option Nat) : vp_A := (n, .inr (.inr (.inr (.inr f))))
theorem zarr_recv {D : va_G} {tys : List (ClassId × FieldType)} {w : va_W} {s : State} {H : Heap} {i j a : Nat} {cA : ClassId} {x : vp_A} (hP : va_P D zcl w H) (hK : va_K D zcl tys s) (h : w[i]? = some (a, .inl (cA, x))) (ht : tys[j]? = some (cA, .object "java/lang/Object")) :
    ∃ cell : Cell, H[a]? = some cell ∧ cell.vm.isStatics = false ∧ s.vm.findClass "[Ljava/lang/Object;" = some cell.cls := by
  have h1 : H[a]? = some (vp_cell cA x) := hP i _ h
  obtain ⟨n, f⟩ := x
  refine ⟨_, h1, ?_, ?_⟩
  · rcases f with f | f | f | f | f <;> rfl
  · have h2 : (vp_cell cA (n, f)).cls = cA := by rcases f with f | f | f | f | f <;> rfl
    rw [h2]
    exact va_nmO (hK.2 j _ ht).2 rfl
theorem zcpy_all {f : Nat → Option Nat} {n : Nat} (h : ∀ i, n ≤ i → f i = none) : va_cpy f (fun _ => none) 0 0 n = f := by
  funext k
  unfold va_cpy
  by_cases e : 0 ≤ k ∧ k < 0 + n
  · rw [if_pos e]
    congr 1
    omega
  · rw [if_neg e, h k (by omega)]
set_option maxHeartbeats 1000000 in
set_option maxRecDepth 100000 in
theorem c_A_size_ok (l : Launch) (D : va_G) (t0 : Nat) (g : ZG) (z : ZT) (sz : Nat)  : Met l y_A_size w_A_size ({ frames := 0, cells := 0, slots := 0, locals := 0 }) (zPre D t0 (zT g z) (zW t0 g z) sz [.ref (g_aK g)]) (vp_Si (fun r => r = nI (z_kl z).length)) 0 0 (fun _ => False) := by
  refine Met.ofW (cc := c_A_size) (maxL := 1) (ret := (some .int)) (by decide) rfl ?_
  intro p e s m args below meth c s₁ B hml hv
  obtain ⟨rfl, hsz, hP, hK, hD0, hE⟩ := hv
  have hx := B.exec
  have hb := B.bytes
  have hr := B.returns
  have hts := atoms_spec (ws := w_A_size) B.pre
  have hk : ∀ w ∈ zB, w.before _ s = true := fun w h => hts w (List.mem_cons_of_mem _ h)
  have hown : s.vm.findClass "java/util/ArrayList" = some m.cls := findClass_of_methodNamed B.named
  have hlocks := B.notSynchronized
  subst hsz
  have hD := hD0.self (sz := s.heap.size)
  generalize hAe : va_A (zW t0 g z) s.heap.size = A at hD hE
  have hA : ∀ q : Nat, s.heap.size ≤ q → A q := fun q h => by rw [← hAe]; exact Or.inr h
  have hS : va_S A s.heap s.heap [] := va_S.rf
  have hl := lv_entry ([.ref (g_aK g)]) (n := 1) (Nat.le_of_ble_eq_true rfl)
  rw [lg_entry_eq]
  generalize (lg_sl ([.ref (g_aK g)]) ++ List.replicate (1 - (lg_sl ([.ref (g_aK g)])).length) Slot.unset).toArray = ls at hl ⊢
  have hl : lv_has ls 1 [(0, .ref (g_aK g))] := hl
  refine lv_aload_n hx hb d_A_size_0 rfl (lv_at hl 0 rfl) ?_
  refine va_get (D := D) (ci := 3) (v := .int (nI ((z_kl z).length))) (C := RA) (T := TA) (N := 3) hx hb hk inA hown hK hP 3 rfl rfl 2 (by decide) (hk _ zk44) (fun _ h9 => h9) rfl d_A_size_1 ?_
  exact W.iret hx hb hr (fun t ht hW => ⟨_, rfl, rfl, ht⟩) (fun q h => absurd h List.not_mem_nil) d_A_size_4
set_option maxHeartbeats 1000000 in
set_option maxRecDepth 100000 in
theorem c_A_isEmpty_ok (l : Launch) (D : va_G) (t0 : Nat) (g : ZG) (z : ZT) (sz : Nat) (hz : zOK z) : Met l y_A_isEmpty w_A_isEmpty ({ frames := 0, cells := 0, slots := 0, locals := 0 }) (zPre D t0 (zT g z) (zW t0 g z) sz [.ref (g_aK g)]) (vp_Si (fun r => r = zb (decide ((z_kl z).length = 0)))) 0 0 (fun _ => False) := by
  refine Met.ofW (cc := c_A_isEmpty) (maxL := 1) (ret := (some .boolean)) (by decide) rfl ?_
  intro p e s m args below meth c s₁ B hml hv
  obtain ⟨rfl, hsz, hP, hK, hD0, hE⟩ := hv
  have hx := B.exec
  have hb := B.bytes
  have hr := B.returns
  have hts := atoms_spec (ws := w_A_isEmpty) B.pre
  have hk : ∀ w ∈ zB, w.before _ s = true := fun w h => hts w (List.mem_cons_of_mem _ h)
  have hown : s.vm.findClass "java/util/ArrayList" = some m.cls := findClass_of_methodNamed B.named
  have hlocks := B.notSynchronized
  subst hsz
  have hD := hD0.self (sz := s.heap.size)
  generalize hAe : va_A (zW t0 g z) s.heap.size = A at hD hE
  have hA : ∀ q : Nat, s.heap.size ≤ q → A q := fun q h => by rw [← hAe]; exact Or.inr h
  have hS : va_S A s.heap s.heap [] := va_S.rf
  have hl := lv_entry ([.ref (g_aK g)]) (n := 1) (Nat.le_of_ble_eq_true rfl)
  rw [lg_entry_eq]
  generalize (lg_sl ([.ref (g_aK g)]) ++ List.replicate (1 - (lg_sl ([.ref (g_aK g)])).length) Slot.unset).toArray = ls at hl ⊢
  have hl : lv_has ls 1 [(0, .ref (g_aK g))] := hl
  have hz9 := hz.2.2.2.2.2.2.2.2.2.2
  refine lv_aload_n hx hb d_A_isEmpty_0 rfl (lv_at hl 0 rfl) ?_
  refine va_get (D := D) (ci := 3) (v := .int (nI ((z_kl z).length))) (C := RA) (T := TA) (N := 3) hx hb hk inA hown hK hP 3 rfl rfl 2 (by decide) (hk _ zk44) (fun _ h9 => h9) rfl d_A_isEmpty_1 ?_
  refine lv_if_ne (tgt := 11) hx hb d_A_isEmpty_4 (by decide) (fun h => ?_) (fun h => ?_)
  · rw [show (0 : Int32) = nI 0 from rfl, nI_eq (by omega) (by omega)] at h
    refine lv_iconst (v := nI 0) hx hb d_A_isEmpty_11 (by decide) ?_
    exact W.zret hx hb hr rfl (fun t ht hW => ⟨_, rfl, by rw [decide_eq_false h]; rfl, ht⟩) (fun q h => absurd h List.not_mem_nil) d_A_isEmpty_12
  rw [show (0 : Int32) = nI 0 from rfl, nI_eq (by omega) (by omega)] at h
  refine lv_iconst (v := nI 1) hx hb d_A_isEmpty_7 (by decide) ?_
  refine lv_goto (tgt := 12) hx hb d_A_isEmpty_8 (by decide) ?_
  exact W.zret hx hb hr rfl (fun t ht hW => ⟨_, rfl, by rw [decide_eq_true h]; rfl, ht⟩) (fun q h => absurd h List.not_mem_nil) d_A_isEmpty_12
set_option maxHeartbeats 1000000 in
set_option maxRecDepth 100000 in
theorem c_Pc_checkIndex_ok (l : Launch) (D : va_G) (t0 : Nat) (tys : List (ClassId × FieldType)) (w : va_W) (sz : Nat) (i n : Nat) (hi : i < n) (hn : n < 1000) : Met l y_Pc_checkIndex w_Pc_checkIndex ({ frames := 0, cells := 0, slots := 0, locals := 0 }) (zPre D t0 (tys) (w) sz [.int (nI i), .int (nI n), .null]) (vp_Si (fun r => r = nI i)) 0 0 (fun _ => False) := by
  refine Met.ofW (cc := c_Pc_checkIndex) (maxL := 3) (ret := (some .int)) (by decide) rfl ?_
  intro p e s m args below meth c s₁ B hml hv
  obtain ⟨rfl, hsz, hP, hK, hD0, hE⟩ := hv
  have hx := B.exec
  have hb := B.bytes
  have hr := B.returns
  have hts := atoms_spec (ws := w_Pc_checkIndex) B.pre
  have hk : ∀ w ∈ zB, w.before _ s = true := fun w h => hts w (List.mem_cons_of_mem _ h)
  have hown : s.vm.findClass "jdk/internal/util/Preconditions" = some m.cls := findClass_of_methodNamed B.named
  have hlocks := B.notSynchronized
  subst hsz
  have hD := hD0.self (sz := s.heap.size)
  generalize hAe : va_A (w) s.heap.size = A at hD hE
  have hA : ∀ q : Nat, s.heap.size ≤ q → A q := fun q h => by rw [← hAe]; exact Or.inr h
  have hS : va_S A s.heap s.heap [] := va_S.rf
  have hl := lv_entry ([.int (nI i), .int (nI n), .null]) (n := 3) (Nat.le_of_ble_eq_true rfl)
  rw [lg_entry_eq]
  generalize (lg_sl ([.int (nI i), .int (nI n), .null]) ++ List.replicate (3 - (lg_sl ([.int (nI i), .int (nI n), .null])).length) Slot.unset).toArray = ls at hl ⊢
  have hl : lv_has ls 3 [(0, .int (nI i)), (1, .int (nI n)), (2, .null)] := hl
  refine lv_iload_n hx hb d_Pc_checkIndex_0 rfl (lv_at hl 0 rfl) ?_
  refine lv_if_lt (tgt := 9) hx hb d_Pc_checkIndex_1 (by decide) (fun h => ?_) (fun h => ?_)
  · rw [show (0 : Int32) = nI 0 from rfl, nI_ltI (by omega) (by omega)] at h
    exact absurd h (by omega)
  rw [show (0 : Int32) = nI 0 from rfl, nI_ltI (by omega) (by omega)] at h
  refine lv_iload_n hx hb d_Pc_checkIndex_4 rfl (lv_at hl 0 rfl) ?_
  refine lv_iload_n hx hb d_Pc_checkIndex_5 rfl (lv_at hl 1 rfl) ?_
  refine lv_icmp_lt (tgt := 16) hx hb d_Pc_checkIndex_6 (by decide) (fun h => ?_) (fun h => ?_)
  rotate_left 1
  · rw [nI_ltI (by omega) (by omega)] at h
    exact absurd h (by omega)
  rw [nI_ltI (by omega) (by omega)] at h
  refine lv_iload_n hx hb d_Pc_checkIndex_16 rfl (lv_at hl 0 rfl) ?_
  exact W.iret hx hb hr (fun t ht hW => ⟨_, rfl, rfl, ht⟩) (fun q h => absurd h List.not_mem_nil) d_Pc_checkIndex_17
set_option maxHeartbeats 1000000 in
set_option maxRecDepth 100000 in
theorem c_Ob_checkIndex_ok (l : Launch) (D : va_G) (t0 : Nat) (tys : List (ClassId × FieldType)) (w : va_W) (sz : Nat) (i n : Nat) (hi : i < n) (hn : n < 1000) : Met l y_Ob_checkIndex w_Ob_checkIndex ({ frames := 1, cells := 0, slots := 0, locals := 24 }) (zPre D t0 (tys) (w) sz [.int (nI i), .int (nI n)]) (vp_Si (fun r => r = nI i)) 0 0 (fun _ => False) := by
  refine Met.ofW (cc := c_Ob_checkIndex) (maxL := 2) (ret := (some .int)) (by decide) rfl ?_
  intro p e s m args below meth c s₁ B hml hv
  obtain ⟨rfl, hsz, hP, hK, hD0, hE⟩ := hv
  have hx := B.exec
  have hb := B.bytes
  have hr := B.returns
  have hts := atoms_spec (ws := w_Ob_checkIndex) B.pre
  have hk : ∀ w ∈ zB, w.before _ s = true := fun w h => hts w (List.mem_cons_of_mem _ h)
  have hown : s.vm.findClass "java/util/Objects" = some m.cls := findClass_of_methodNamed B.named
  have hlocks := B.notSynchronized
  subst hsz
  have hD := hD0.self (sz := s.heap.size)
  generalize hAe : va_A (w) s.heap.size = A at hD hE
  have hA : ∀ q : Nat, s.heap.size ≤ q → A q := fun q h => by rw [← hAe]; exact Or.inr h
  have hS : va_S A s.heap s.heap [] := va_S.rf
  have hl := lv_entry ([.int (nI i), .int (nI n)]) (n := 2) (Nat.le_of_ble_eq_true rfl)
  rw [lg_entry_eq]
  generalize (lg_sl ([.int (nI i), .int (nI n)]) ++ List.replicate (2 - (lg_sl ([.int (nI i), .int (nI n)])).length) Slot.unset).toArray = ls at hl ⊢
  have hl : lv_has ls 2 [(0, .int (nI i)), (1, .int (nI n))] := hl
  refine lv_iload_n hx hb d_Ob_checkIndex_0 rfl (lv_at hl 0 rfl) ?_
  refine lv_iload_n hx hb d_Ob_checkIndex_1 rfl (lv_at hl 1 rfl) ?_
  refine lv_null hx hb d_Ob_checkIndex_2 ?_
  refine vp_callSi (zrS (n := 3) (As := [.int (nI i), .int (nI n), .null]) (rest := []) ⟨hx, hb, hml, hown, hk⟩ (c_Pc_checkIndex_ok l D t0 tys w s.heap.size i n hi hn) zk356 zk357 zk17 kc_Pc_checkIndex ⟨by decide, by decide, by decide⟩ rfl rfl ⟨Nat.le_of_ble_eq_true rfl, Nat.le_of_ble_eq_true rfl⟩ ⟨hP, hK, hD, hS, hA, hE⟩ rfl hl.1 rfl (Nat.le_of_ble_eq_true rfl) d_Ob_checkIndex_3 ⟨Nat.le_of_ble_eq_true rfl, Nat.le_of_ble_eq_true rfl⟩).run (fun r hr1 => ?_)
  exact W.iret hx hb hr (fun t ht hW => ⟨_, rfl, hr1, ht⟩) (fun q h => absurd h List.not_mem_nil) d_Ob_checkIndex_6
set_option maxHeartbeats 1000000 in
set_option maxRecDepth 100000 in
theorem c_Su_newLength_ok (l : Launch) (D : va_G) (t0 : Nat) (tys : List (ClassId × FieldType)) (w : va_W) (sz : Nat) (n : Nat) (h2 : 2 ≤ n) (hn : n < 600) : Met l y_Su_newLength w_Su_newLength ({ frames := 1, cells := 0, slots := 0, locals := 40 }) (zPre D t0 (tys) (w) sz [.int (nI n), .int (nI 1), .int (nI (n / 2))]) (vp_Si (fun r => r = nI (n + n / 2))) 0 0 (fun _ => False) := by
  refine Met.ofW (cc := c_Su_newLength) (maxL := 4) (ret := (some .int)) (by decide) rfl ?_
  intro p e s m args below meth c s₁ B hml hv
  obtain ⟨rfl, hsz, hP, hK, hD0, hE⟩ := hv
  have hx := B.exec
  have hb := B.bytes
  have hr := B.returns
  have hts := atoms_spec (ws := w_Su_newLength) B.pre
  have hk : ∀ w ∈ zB, w.before _ s = true := fun w h => hts w (List.mem_cons_of_mem _ h)
  have hown : s.vm.findClass "jdk/internal/util/ArraysSupport" = some m.cls := findClass_of_methodNamed B.named
  have hlocks := B.notSynchronized
  subst hsz
  have hD := hD0.self (sz := s.heap.size)
  generalize hAe : va_A (w) s.heap.size = A at hD hE
  have hA : ∀ q : Nat, s.heap.size ≤ q → A q := fun q h => by rw [← hAe]; exact Or.inr h
  have hS : va_S A s.heap s.heap [] := va_S.rf
  have hl := lv_entry ([.int (nI n), .int (nI 1), .int (nI (n / 2))]) (n := 4) (Nat.le_of_ble_eq_true rfl)
  rw [lg_entry_eq]
  generalize (lg_sl ([.int (nI n), .int (nI 1), .int (nI (n / 2))]) ++ List.replicate (4 - (lg_sl ([.int (nI n), .int (nI 1), .int (nI (n / 2))])).length) Slot.unset).toArray = ls at hl ⊢
  have hl : lv_has ls 4 [(0, .int (nI n)), (1, .int (nI 1)), (2, .int (nI (n / 2)))] := hl
  refine lv_iload_n hx hb d_Su_newLength_0 rfl (lv_at hl 0 rfl) ?_
  refine lv_iload_n hx hb d_Su_newLength_1 rfl (lv_at hl 1 rfl) ?_
  refine lv_iload_n hx hb d_Su_newLength_2 rfl (lv_at hl 2 rfl) ?_
  refine va_mmax hx hb (hml.trans hl.1.symm) hown (hk _ zk304) (hk _ zk221) (hk _ zk10) (hk _ kc_Mt_max) (Nat.le_of_ble_eq_true rfl) (Nat.le_of_ble_eq_true rfl) (Nat.le_refl _) (Nat.le_refl _) d_Su_newLength_3 ?_
  refine zh_t (show (if nI 1 < nI (n / 2) then nI (n / 2) else nI 1) = nI (n / 2) from by by_cases q : 1 < n / 2; (rw [if_pos (nI_lt q (by omega))]); (rw [if_neg (nI_nlt (by omega) (by decide))]; exact congrArg nI (by omega))) ?_
  refine lv_iadd hx hb d_Su_newLength_6 ?_
  refine zh_t (show (nI n + nI (n / 2)) = nI (n + (n / 2)) from nI_add _ _) ?_
  refine lv_istore_n (lv' := [(3, .int (nI (n + (n / 2)))), (0, .int (nI n)), (1, .int (nI 1)), (2, .int (nI (n / 2)))]) hx hb d_Su_newLength_7 rfl hl (by decide) rfl (fun ls hl => ?_)
  refine lv_iconst (v := nI 0) hx hb d_Su_newLength_8 (by decide) ?_
  refine lv_iload_n hx hb d_Su_newLength_9 rfl (lv_at hl 0 rfl) ?_
  refine lv_icmp_ge (tgt := 21) hx hb d_Su_newLength_10 (by decide) (fun h => ?_) (fun h => ?_)
  · rw [nI_leI (by omega) (by omega)] at h
    exact absurd h (by omega)
  rw [nI_leI (by omega) (by omega)] at h
  refine lv_iload_n hx hb d_Su_newLength_13 rfl (lv_at hl 0 rfl) ?_
  refine lv_ldc (v := 2147483639) hx hb hown (hk _ zk305) d_Su_newLength_14 ?_
  refine zh_t (show (2147483639 : Int32) = nI 2147483639 from rfl) ?_
  refine lv_icmp_gt (tgt := 21) hx hb d_Su_newLength_16 (by decide) (fun h => ?_) (fun h => ?_)
  · rw [nI_ltI (by omega) (by omega)] at h
    exact absurd h (by omega)
  rw [nI_ltI (by omega) (by omega)] at h
  refine lv_iload_n hx hb d_Su_newLength_19 rfl (lv_at hl 0 rfl) ?_
  exact W.iret hx hb hr (fun t ht hW => ⟨_, rfl, rfl, ht⟩) (fun q h => absurd h List.not_mem_nil) d_Su_newLength_20
