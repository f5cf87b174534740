set_option maxHeartbeats 1000000 in
set_option maxRecDepth 100000 in
theorem c_Z_firstRoomFor_ok (l : Launch) (D : va_G) (t0 : Nat) (g : ZG) (z : ZT) (sz : Nat) (d : Nat) (hd : d ≤ 128) : Met l y_Z_firstRoomFor w_Z_firstRoomFor ({ frames := 0, cells := 0, slots := 0, locals := 0 }) (zPre D t0 (zT g z) (zW t0 g z) sz [.ref (g_h g), .int (nI d)]) (vp_Si (fun r => ∃ k : Nat, zr_room (zt_gap (z_tk z) d) d k ∧ r = if k = 0 then -1 else nI k)) 0 0 (fun _ => False) := by
  refine Met.ofW (cc := c_Z_firstRoomFor) (maxL := 4) (ret := (some .int)) (by decide) rfl ?_
  intro p e s m args below meth c s₁ B hml hv
  obtain ⟨rfl, hsz, hP, hK, hD0, hE⟩ := hv
  have hx := B.exec
  have hb := B.bytes
  have hr := B.returns
  have hts := atoms_spec (ws := w_Z_firstRoomFor) B.pre
  have hk : ∀ w ∈ zB, w.before _ s = true := fun w h => hts w (List.mem_cons_of_mem _ h)
  have hown : s.vm.findClass "ZoneHeap" = some m.cls := findClass_of_methodNamed B.named
  have hlocks := B.notSynchronized
  subst hsz
  have hD := hD0.self (sz := s.heap.size)
  generalize hAe : va_A (zW t0 g z) s.heap.size = A at hD hE
  have hA : ∀ q : Nat, s.heap.size ≤ q → A q := fun q h => by rw [← hAe]; exact Or.inr h
  have hS : va_S A s.heap s.heap [] := va_S.rf
  have hl := lv_entry ([.ref (g_h g), .int (nI d)]) (n := 4) (Nat.le_of_ble_eq_true rfl)
  rw [lg_entry_eq]
  generalize (lg_sl ([.ref (g_h g), .int (nI d)]) ++ List.replicate (4 - (lg_sl ([.ref (g_h g), .int (nI d)])).length) Slot.unset).toArray = ls at hl ⊢
  have hl : lv_has ls 4 [(0, .ref (g_h g)), (1, .int (nI d))] := hl
  refine lv_iconst (v := nI 0) hx hb d_Z_firstRoomFor_0 (by decide) ?_
  refine lv_istore_n (lv' := [(2, .int (nI 0)), (0, .ref (g_h g)), (1, .int (nI d))]) hx hb d_Z_firstRoomFor_1 rfl hl (by decide) rfl (fun ls hl => ?_)
  refine lv_iconst (v := nI 0) hx hb d_Z_firstRoomFor_2 (by decide) ?_
  refine lv_istore_n (lv' := [(3, .int (nI 0)), (2, .int (nI 0)), (0, .ref (g_h g)), (1, .int (nI d))]) hx hb d_Z_firstRoomFor_3 rfl hl (by decide) rfl (fun ls hl => ?_)
  refine zh_loop0 (A := Nat × Nat) (fun q ls => lv_has ls 4 [(0, .ref (g_h g)), (1, .int (nI d)), (2, .int (nI q.2)), (3, .int (nI q.1))] ∧ (q.1 ≤ 512) ∧ (q.2 < d + 2) ∧ (zt_run (z_tk z) q.1 q.2) ∧ (∀ c : Nat, 1 ≤ c → c + d < q.1 → ¬ zt_gap (z_tk z) d c)) (fun q => 512 - q.1) ?_ (0, 0) ⟨lv_sub hl [2, 3, 1, 0] rfl, by dsimp only; omega, by dsimp only; omega, zt_run0, fun c h1 h2 => by dsimp only at h2; omega⟩
  rintro ⟨i, u⟩ ls ⟨hl, hi, hu, hrun, hno⟩ ih
  have hl : lv_has ls 4 [(0, .ref (g_h g)), (1, .int (nI d)), (2, .int (nI u)), (3, .int (nI i))] := hl
  have hi : i ≤ 512 := hi
  have hu : u < d + 2 := hu
  have hrun : zt_run (z_tk z) i u := hrun
  have hno : ∀ c : Nat, 1 ≤ c → c + d < i → ¬ zt_gap (z_tk z) d c := hno
  refine lv_iload_n hx hb d_Z_firstRoomFor_4 rfl (lv_at hl 3 rfl) ?_
  refine lv_sipush (v := nI 512) hx hb d_Z_firstRoomFor_5 (by decide) ?_
  refine lv_icmp_ge (tgt := 45) hx hb d_Z_firstRoomFor_8 (by decide) (fun h => ?_) (fun h => ?_)
  · rw [nI_leI (by omega) (by omega)] at h
    refine lv_iconst (v := ((-1))) hx hb d_Z_firstRoomFor_45 (by decide) ?_
    exact W.iret hx hb hr (fun t ht hW => ⟨_, rfl, ⟨0, Or.inl ⟨rfl, fun c q1 q2 => hno c q1 (by omega)⟩, rfl⟩, ht⟩) (fun q h => absurd h List.not_mem_nil) d_Z_firstRoomFor_46
  rw [nI_leI (by omega) (by omega)] at h
  refine lv_aload_n hx hb d_Z_firstRoomFor_11 rfl (lv_at hl 0 rfl) ?_
  refine va_get (D := D) (ci := 0) (v := .ref (g_aT g)) (C := RZ) (T := TZ) (N := 11) hx hb hk inZ hown hK hP 0 rfl rfl 1 (by decide) (hk _ zk57) (fun _ h9 => h9) rfl d_Z_firstRoomFor_12 ?_
  refine lv_iload_n hx hb d_Z_firstRoomFor_15 rfl (lv_at hl 3 rfl) ?_
  refine va_aldq hx hb hK hP 2 1 rfl rfl (vp_in_nI (by omega) (by decide)) d_Z_firstRoomFor_16 ?_
  refine zh_v (show va_rf (z_tk z (nI i).toNatClampNeg) = va_rf (z_tk z i) from by rw [nI_clamp (by omega)]) ?_
  rcases zopt (z_tk z i) with htk | ⟨a, htk⟩
  · refine zh_v (show va_rf (z_tk z i) = .null from by rw [htk]; rfl) ?_
    refine lv_ifnonnullN hx hb d_Z_firstRoomFor_17 ?_
    refine lv_iload_n hx hb d_Z_firstRoomFor_20 rfl (lv_at hl 2 rfl) ?_
    refine lv_iconst (v := nI 1) hx hb d_Z_firstRoomFor_21 (by decide) ?_
    refine lv_iadd hx hb d_Z_firstRoomFor_22 ?_
    refine zh_t (show (nI u + nI 1) = nI (u + 1) from nI_add _ _) ?_
    refine lv_goto (tgt := 27) hx hb d_Z_firstRoomFor_23 (by decide) ?_
    refine lv_istore_n (lv' := [(2, .int (nI (u + 1))), (0, .ref (g_h g)), (1, .int (nI d)), (3, .int (nI i))]) hx hb d_Z_firstRoomFor_27 rfl hl (by decide) rfl (fun ls hl => ?_)
    have hr2 := zt_run_free hrun htk
    refine lv_iload_n hx hb d_Z_firstRoomFor_28 rfl (lv_at hl 0 rfl) ?_
    refine lv_iload_n hx hb d_Z_firstRoomFor_29 rfl (lv_at hl 2 rfl) ?_
    refine lv_iconst (v := nI 2) hx hb d_Z_firstRoomFor_30 (by decide) ?_
    refine lv_iadd hx hb d_Z_firstRoomFor_31 ?_
    refine zh_t (show (nI d + nI 2) = nI (d + 2) from nI_add _ _) ?_
    refine lv_icmp_ne (tgt := 39) hx hb d_Z_firstRoomFor_32 (by decide) (fun h => ?_) (fun h => ?_)
    · rw [nI_eq (by omega) (by omega)] at h
      refine lv_iinc (lv' := [(3, .int (nI (i + 1))), (2, .int (nI (u + 1))), (0, .ref (g_h g)), (1, .int (nI d))]) (v := nI (i + 1)) hx hb d_Z_firstRoomFor_39 hl (k := 3) rfl (nI_add _ _) (by decide) rfl (fun ls hl => ?_)
      refine lv_goto (tgt := 4) hx hb d_Z_firstRoomFor_42 (by decide) ?_
      exact ih (i + 1, u + 1) ls ⟨lv_sub hl [2, 3, 1, 0] rfl, by dsimp only; omega, by dsimp only; omega, hr2, zt_run_no hr2 (by omega) hno⟩ (by show _ < _; (try dsimp only); omega)
    rw [nI_eq (by omega) (by omega)] at h
    refine lv_iload_n hx hb d_Z_firstRoomFor_35 rfl (lv_at hl 3 rfl) ?_
    refine lv_iload_n hx hb d_Z_firstRoomFor_36 rfl (lv_at hl 2 rfl) ?_
    refine lv_isub hx hb d_Z_firstRoomFor_37 ?_
    refine zh_t (show (nI i - nI d) = nI (i - d) from pk_sub (by (have := hr2.1; omega))) ?_
    exact W.iret hx hb hr (fun t ht hW => ⟨_, rfl, ⟨i - d, by have e9 : u + 1 = d + 2 := h; rw [e9] at hr2; exact zt_run_yes hr2 (by omega) hno, by rw [if_neg (by have := hr2.1; omega)]⟩, ht⟩) (fun q h => absurd h List.not_mem_nil) d_Z_firstRoomFor_38
  refine zh_v (show va_rf (z_tk z i) = .ref a from by rw [htk]; rfl) ?_
  refine lv_ifnonnull (tgt := 26) hx hb d_Z_firstRoomFor_17 (by decide) ?_
  refine lv_iconst (v := nI 0) hx hb d_Z_firstRoomFor_26 (by decide) ?_
  refine lv_istore_n (lv' := [(2, .int (nI 0)), (0, .ref (g_h g)), (1, .int (nI d)), (3, .int (nI i))]) hx hb d_Z_firstRoomFor_27 rfl hl (by decide) rfl (fun ls hl => ?_)
  have hr2 := zt_run_hit (tk := z_tk z) (i := i) (by rw [htk]; intro q; cases q)
  refine lv_iload_n hx hb d_Z_firstRoomFor_28 rfl (lv_at hl 0 rfl) ?_
  refine lv_iload_n hx hb d_Z_firstRoomFor_29 rfl (lv_at hl 2 rfl) ?_
  refine lv_iconst (v := nI 2) hx hb d_Z_firstRoomFor_30 (by decide) ?_
  refine lv_iadd hx hb d_Z_firstRoomFor_31 ?_
  refine zh_t (show (nI d + nI 2) = nI (d + 2) from nI_add _ _) ?_
  refine lv_icmp_ne (tgt := 39) hx hb d_Z_firstRoomFor_32 (by decide) (fun h => ?_) (fun h => ?_)
  rotate_left 1
  · rw [nI_eq (by omega) (by omega)] at h
    exact absurd h (by omega)
  rw [nI_eq (by omega) (by omega)] at h
  refine lv_iinc (lv' := [(3, .int (nI (i + 1))), (2, .int (nI 0)), (0, .ref (g_h g)), (1, .int (nI d))]) (v := nI (i + 1)) hx hb d_Z_firstRoomFor_39 hl (k := 3) rfl (nI_add _ _) (by decide) rfl (fun ls hl => ?_)
  refine lv_goto (tgt := 4) hx hb d_Z_firstRoomFor_42 (by decide) ?_
  exact ih (i + 1, 0) ls ⟨lv_sub hl [2, 3, 1, 0] rfl, by dsimp only; omega, by dsimp only; omega, hr2, zt_run_no hr2 (by omega) hno⟩ (by show _ < _; (try dsimp only); omega)
