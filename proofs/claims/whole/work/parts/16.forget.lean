set_option maxHeartbeats 1000000 in
set_option maxRecDepth 100000 in
theorem c_Z_forgetReached_ok (l : Launch) (D : va_G) (t0 : Nat) (g : ZG) (z : ZT) (sz : Nat) (hz : zOK z) : Met l y_Z_forgetReached w_Z_forgetReached ({ frames := 0, cells := 0, slots := 0, locals := 0 }) (zPre D t0 (zT g z) (zW t0 g z) sz [.ref (g_h g)]) (va_Qv (fun u => u = z3 z (zq_frc z (z_rn z), z_rb z, 0)) (fun (u : ZT) t => zPost D (zT g u) (va_A (zW t0 g z) sz) (zW t0 g u) t) (va_A (zW t0 g z) sz)) 0 0 (va_A (zW t0 g z) sz) := by
  refine Met.ofW (cc := c_Z_forgetReached) (maxL := 2) (ret := none) (by decide) rfl ?_
  intro p e s m args below meth c s₁ B hml hv
  obtain ⟨rfl, hsz, hP, hK, hD0, hE⟩ := hv
  have hx := B.exec
  have hb := B.bytes
  have hr := B.returns
  have hts := atoms_spec (ws := w_Z_forgetReached) B.pre
  have hk : ∀ w ∈ zB, w.before _ s = true := fun w h => hts w (List.mem_cons_of_mem _ h)
  have hown : s.vm.findClass "ZoneHeap" = some m.cls := findClass_of_methodNamed B.named
  have hlocks := B.notSynchronized
  subst hsz
  have hD := hD0.self (sz := s.heap.size)
  generalize hAe : va_A (zW t0 g z) s.heap.size = A at hD hE ⊢
  have hA : ∀ q : Nat, s.heap.size ≤ q → A q := fun q h => by rw [← hAe]; exact Or.inr h
  have hS : va_S A s.heap s.heap [] := va_S.rf
  have hl := lv_entry ([.ref (g_h g)]) (n := 2) (Nat.le_of_ble_eq_true rfl)
  rw [lg_entry_eq]
  generalize (lg_sl ([.ref (g_h g)]) ++ List.replicate (2 - (lg_sl ([.ref (g_h g)])).length) Slot.unset).toArray = ls at hl ⊢
  have hl : lv_has ls 2 [(0, .ref (g_h g))] := hl
  have hrn := hz.2.2.2.1
  refine lv_iconst (v := nI 0) hx hb d_Z_forgetReached_0 (by decide) ?_
  refine lv_istore_n (lv' := [(1, .int (nI 0)), (0, .ref (g_h g))]) hx hb d_Z_forgetReached_1 rfl hl (by decide) rfl (fun ls hl => ?_)
  refine zh_loopH (A := Nat × (Nat → Bool)) (fun q H locs ls => lv_has ls 2 [(0, .ref (g_h g)), (1, .int (nI q.1))] ∧ va_P D zcl (zW t0 g (zmk (z_oct z) (z_tk z) (z_ko z) (z_lb z) (z_lo z) (z_mb z) (z_rb z) (z_rn z) (z_lf z) (z_ln z) (z_md z) (z_cE z) (z_aE z) (z_cap z) (z_kl z) (z_LB z) (z_bs z) (z_bz z) (z_kp z) q.2)) H ∧ va_K D zcl (zT g (zmk (z_oct z) (z_tk z) (z_ko z) (z_lb z) (z_lo z) (z_mb z) (z_rb z) (z_rn z) (z_lf z) (z_ln z) (z_md z) (z_cE z) (z_aE z) (z_cap z) (z_kl z) (z_LB z) (z_bs z) (z_bz z) (z_kp z) q.2)) s ∧ va_D A (zW t0 g (zmk (z_oct z) (z_tk z) (z_ko z) (z_lb z) (z_lo z) (z_mb z) (z_rb z) (z_rn z) (z_lf z) (z_ln z) (z_md z) (z_cE z) (z_aE z) (z_cap z) (z_kl z) (z_LB z) (z_bs z) (z_bz z) (z_kp z) q.2)) ∧ va_S A s.heap H locs ∧ (q.1 ≤ z_rn z) ∧ (q.2 = zq_frc z q.1)) (fun q => z_rn z - q.1) ?_ (0, z_rc z) ⟨lv_sub hl [1, 0] rfl, by rw [z_eta]; exact hP, hK, by rw [z_eta]; exact hD, hS, Nat.zero_le _, rfl⟩
  rintro ⟨i, fr⟩ H locs ls ⟨hl, hP, hK, hD, hS, hi, hfr⟩ ih
  have hl : lv_has ls 2 [(0, .ref (g_h g)), (1, .int (nI i))] := hl
  have hP : va_P D zcl (zW t0 g (zmk (z_oct z) (z_tk z) (z_ko z) (z_lb z) (z_lo z) (z_mb z) (z_rb z) (z_rn z) (z_lf z) (z_ln z) (z_md z) (z_cE z) (z_aE z) (z_cap z) (z_kl z) (z_LB z) (z_bs z) (z_bz z) (z_kp z) fr)) H := hP
  have hK : va_K D zcl (zT g (zmk (z_oct z) (z_tk z) (z_ko z) (z_lb z) (z_lo z) (z_mb z) (z_rb z) (z_rn z) (z_lf z) (z_ln z) (z_md z) (z_cE z) (z_aE z) (z_cap z) (z_kl z) (z_LB z) (z_bs z) (z_bz z) (z_kp z) fr)) s := hK
  have hD : va_D A (zW t0 g (zmk (z_oct z) (z_tk z) (z_ko z) (z_lb z) (z_lo z) (z_mb z) (z_rb z) (z_rn z) (z_lf z) (z_ln z) (z_md z) (z_cE z) (z_aE z) (z_cap z) (z_kl z) (z_LB z) (z_bs z) (z_bz z) (z_kp z) fr)) := hD
  have hi : i ≤ z_rn z := hi
  have hfr : fr = zq_frc z i := hfr
  refine lv_iload_n hx hb d_Z_forgetReached_2 rfl (lv_at hl 1 rfl) ?_
  refine lv_aload_n hx hb d_Z_forgetReached_3 rfl (lv_at hl 0 rfl) ?_
  refine va_get (D := D) (ci := 0) (v := .int (nI (z_rn z))) (C := RZ) (T := TZ) (N := 11) hx hb hk inZ hown hK hP 0 rfl rfl 8 (by decide) (hk _ zk64) (fun _ h9 => h9) rfl d_Z_forgetReached_4 ?_
  refine lv_icmp_ge (tgt := 26) hx hb d_Z_forgetReached_7 (by decide) (fun h => ?_) (fun h => ?_)
  · rw [nI_leI (by omega) (by omega)] at h
    have hie : i = z_rn z := by omega
    rw [hie] at hfr
    refine lv_aload_n hx hb d_Z_forgetReached_26 rfl (lv_at hl 0 rfl) ?_
    refine lv_iconst (v := nI 0) hx hb d_Z_forgetReached_27 (by decide) ?_
    refine va_put (D := D) (ci := 0) (v := .int (nI 0)) (ty := .int) (C := RZ) (T := TZ) (N := 11) hx hb hk inZ tyZ okZ nmZ hown hK hP hD hS 0 rfl rfl 8 (by decide) (hk _ zk64) (fun _ h9 => h9) rfl (by decide +kernel) rfl rfl (Nat.le_of_ble_eq_true rfl) d_Z_forgetReached_28 (fun H locs hP hD hS => ?_)
    have hP : va_P D zcl (zW t0 g (zmk (z_oct z) (z_tk z) (z_ko z) (z_lb z) (z_lo z) (z_mb z) (z_rb z) 0 (z_lf z) (z_ln z) (z_md z) (z_cE z) (z_aE z) (z_cap z) (z_kl z) (z_LB z) (z_bs z) (z_bz z) (z_kp z) fr)) H := hP
    have hD : va_D A (zW t0 g (zmk (z_oct z) (z_tk z) (z_ko z) (z_lb z) (z_lo z) (z_mb z) (z_rb z) 0 (z_lf z) (z_ln z) (z_md z) (z_cE z) (z_aE z) (z_cap z) (z_kl z) (z_LB z) (z_bs z) (z_bz z) (z_kp z) fr)) := hD
    exact W.vret hx hb hr (fun t ht hW => ⟨⟨(z3 z (fr, z_rb z, 0)), rfl, by rw [hfr], by rw [ht]; exact hP, va_K.moved hW.alike hK, hD⟩, hS.F ht⟩) hS.2.2 d_Z_forgetReached_31
  rw [nI_leI (by omega) (by omega)] at h
  obtain ⟨a, hra, ha⟩ := hz.2.2.2.2.1 i (by omega)
  refine lv_aload_n hx hb d_Z_forgetReached_10 rfl (lv_at hl 0 rfl) ?_
  refine va_get (D := D) (ci := 0) (v := .ref (g_aR g)) (C := RZ) (T := TZ) (N := 11) hx hb hk inZ hown hK hP 0 rfl rfl 7 (by decide) (hk _ zk63) (fun _ h9 => h9) rfl d_Z_forgetReached_11 ?_
  refine lv_iload_n hx hb d_Z_forgetReached_14 rfl (lv_at hl 1 rfl) ?_
  refine va_aldq hx hb hK hP 4 2 rfl rfl (vp_in_nI (by omega) (by decide)) d_Z_forgetReached_15 ?_
  refine zh_v (show va_rf (z_rb z (nI i).toNatClampNeg) = va_rf (z_rb z i) from by rw [nI_clamp (by omega)]) ?_
  refine zh_v (show va_rf (z_rb z i) = .ref a from by rw [hra]; rfl) ?_
  refine lv_iconst (v := nI 0) hx hb d_Z_forgetReached_16 (by decide) ?_
  refine zh_t (show nI 0 = zb false from rfl) ?_
  obtain ⟨k9, hk9⟩ := zpool (t0 := t0) (g := g) (z := (zmk (z_oct z) (z_tk z) (z_ko z) (z_lb z) (z_lo z) (z_mb z) (z_rb z) (z_rn z) (z_lf z) (z_ln z) (z_md z) (z_cE z) (z_aE z) (z_cap z) (z_kl z) (z_LB z) (z_bs z) (z_bz z) (z_kp z) fr)) ha
  have hD9 := hD
  refine va_putN (D := D) (ci := 1) (v := .int (zb false)) (ty := .boolean) (C := RB) (T := TB) (N := 4) hx hb hk inB tyB okB nmB hown hK hP hD hS k9 hk9 rfl 3 (by decide) (va_Nw.use rfl (hE.1.1 _ zn238)) (fun _ h9 => h9) rfl (by decide +kernel) (zh_nar _) (zh_fit _) (Nat.le_of_ble_eq_true rfl) d_Z_forgetReached_17 (fun H locs hP hD hS => ?_)
  have e9 : _ = zW t0 g (zmk (z_oct z) (z_tk z) (z_ko z) (z_lb z) (z_lo z) (z_mb z) (z_rb z) (z_rn z) (z_lf z) (z_ln z) (z_md z) (z_cE z) (z_aE z) (z_cap z) (z_kl z) (z_LB z) (z_bs z) (z_bz z) (z_kp z) (va_up fr a false)) := zset_rc (t0 := t0) (g := g) (z := (zmk (z_oct z) (z_tk z) (z_ko z) (z_lb z) (z_lo z) (z_mb z) (z_rb z) (z_rn z) (z_lf z) (z_ln z) (z_md z) (z_cE z) (z_aE z) (z_cap z) (z_kl z) (z_LB z) (z_bs z) (z_bz z) (z_kp z) fr)) (v := false) hD9 ha hk9
  have hP : va_P D zcl (zW t0 g (zmk (z_oct z) (z_tk z) (z_ko z) (z_lb z) (z_lo z) (z_mb z) (z_rb z) (z_rn z) (z_lf z) (z_ln z) (z_md z) (z_cE z) (z_aE z) (z_cap z) (z_kl z) (z_LB z) (z_bs z) (z_bz z) (z_kp z) (va_up fr a false))) H := Eq.mp (congrArg (fun w9 => va_P D zcl w9 H) e9) hP
  have hD : va_D A (zW t0 g (zmk (z_oct z) (z_tk z) (z_ko z) (z_lb z) (z_lo z) (z_mb z) (z_rb z) (z_rn z) (z_lf z) (z_ln z) (z_md z) (z_cE z) (z_aE z) (z_cap z) (z_kl z) (z_LB z) (z_bs z) (z_bz z) (z_kp z) (va_up fr a false))) := Eq.mp (congrArg (fun w9 => va_D A w9) e9) hD
  refine lv_iinc (lv' := [(1, .int (nI (i + 1))), (0, .ref (g_h g))]) (v := nI (i + 1)) hx hb d_Z_forgetReached_20 hl (k := 1) rfl (nI_add _ _) (by decide) rfl (fun ls hl => ?_)
  refine lv_goto (tgt := 2) hx hb d_Z_forgetReached_23 (by decide) ?_
  have e8 : va_up fr a false = zq_frc z (i + 1) := by rw [zq_frc_s hra, hfr]
  have hP : va_P D zcl (zW t0 g (zmk (z_oct z) (z_tk z) (z_ko z) (z_lb z) (z_lo z) (z_mb z) (z_rb z) (z_rn z) (z_lf z) (z_ln z) (z_md z) (z_cE z) (z_aE z) (z_cap z) (z_kl z) (z_LB z) (z_bs z) (z_bz z) (z_kp z) (va_up fr a false))) H := hP
  have hD : va_D A (zW t0 g (zmk (z_oct z) (z_tk z) (z_ko z) (z_lb z) (z_lo z) (z_mb z) (z_rb z) (z_rn z) (z_lf z) (z_ln z) (z_md z) (z_cE z) (z_aE z) (z_cap z) (z_kl z) (z_LB z) (z_bs z) (z_bz z) (z_kp z) (va_up fr a false))) := hD
  have hK : va_K D zcl (zT g (zmk (z_oct z) (z_tk z) (z_ko z) (z_lb z) (z_lo z) (z_mb z) (z_rb z) (z_rn z) (z_lf z) (z_ln z) (z_md z) (z_cE z) (z_aE z) (z_cap z) (z_kl z) (z_LB z) (z_bs z) (z_bz z) (z_kp z) (va_up fr a false))) s := hK
  exact ih (i + 1, va_up fr a false) H locs ls ⟨lv_sub hl [1, 0] rfl, hP, hK, hD, hS, by show _ ≤ _; dsimp only; omega, e8⟩ (by show _ < _; (try dsimp only); omega)
