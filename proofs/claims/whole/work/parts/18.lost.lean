def zq_t3 (z : ZT) (a b : Int32) : T3 := zs3 z 256 0 (zr3 z b (zr3 z a (zq_frc z (z_rn z), z_rb z, 0)))
def zq_lost (z : ZT) (a b : Int32) : ZT := zq_note (z3 z (zq_t3 z a b)) 512
theorem zs3_stop {z : ZT} {i : Nat} {t : T3} (hi : i ≤ 255) (h : ¬ (i < t.2.2 ∧ i < 255)) : zs3 z (256 - i) i t = t := by
  obtain ⟨f, hf⟩ : ∃ f, 256 - i = f + 1 := ⟨255 - i, by omega⟩
  rw [hf]
  simp only [zs3, if_neg h]
theorem zs3_step {z : ZT} {i a : Nat} {t : T3} (h : i < t.2.2 ∧ i < 255) (ha : t.2.1 i = some a) : zs3 z (256 - i) i t = zs3 z (256 - (i + 1)) (i + 1) (zw3 z a t (z_bz z a / 4)) := by
  obtain ⟨f, hf⟩ : ∃ f, 256 - i = f + 1 := ⟨255 - i, by omega⟩
  rw [hf, show 256 - (i + 1) = f by omega]
  simp only [zs3, if_pos h, ha]
theorem zOK.note {z : ZT} (hz : zOK z) (c : Nat) : zOK (zq_note z c) := ⟨hz.1, hz.2.1, hz.2.2.1, hz.2.2.2.1, hz.2.2.2.2.1, zq_nl_le c, hz.2.2.2.2.2.2⟩
set_option maxHeartbeats 1000000 in
set_option maxRecDepth 100000 in
theorem c_Z_lost_ok (l : Launch) (D : va_G) (t0 : Nat) (g : ZG) (z : ZT) (sz : Nat) (v1 v2 : Int32) (hz : zOK z) : Met l y_Z_lost w_Z_lost ({ frames := 5, cells := 0, slots := 0, locals := 150 }) (zPre D t0 (zT g z) (zW t0 g z) sz [.ref (g_h g), .int v1, .int v2]) (va_Qi (fun r u => u = zq_lost z v1 v2 ∧ r = nI (z_ln u)) (fun (u : ZT) t => zPost D (zT g u) (va_A (zW t0 g z) sz) (zW t0 g u) t) (va_A (zW t0 g z) sz)) 0 0 (va_A (zW t0 g z) sz) := by
  refine Met.ofW (cc := c_Z_lost) (maxL := 4) (ret := (some .int)) (by decide) rfl ?_
  intro p e s m args below meth c s₁ B hml hv
  obtain ⟨rfl, hsz, hP, hK, hD0, hE⟩ := hv
  have hx := B.exec
  have hb := B.bytes
  have hr := B.returns
  have hts := atoms_spec (ws := w_Z_lost) B.pre
  have hk : ∀ w ∈ zB, w.before _ s = true := fun w h => hts w (List.mem_cons_of_mem _ h)
  have hown : s.vm.findClass "ZoneHeap" = some m.cls := findClass_of_methodNamed B.named
  have hlocks := B.notSynchronized
  subst hsz
  have hD := hD0.self (sz := s.heap.size)
  generalize hAe : va_A (zW t0 g z) s.heap.size = A at hD hE ⊢
  have hA : ∀ q : Nat, s.heap.size ≤ q → A q := fun q h => by rw [← hAe]; exact Or.inr h
  have hS : va_S A s.heap s.heap [] := va_S.rf
  have hl := lv_entry ([.ref (g_h g), .int v1, .int v2]) (n := 4) (Nat.le_of_ble_eq_true rfl)
  rw [lg_entry_eq]
  generalize (lg_sl ([.ref (g_h g), .int v1, .int v2]) ++ List.replicate (4 - (lg_sl ([.ref (g_h g), .int v1, .int v2])).length) Slot.unset).toArray = ls at hl ⊢
  have hl : lv_has ls 4 [(0, .ref (g_h g)), (1, .int v1), (2, .int v2)] := hl
  refine lv_aload_n hx hb d_Z_lost_0 rfl (lv_at hl 0 rfl) ?_
  refine zcv (zrV (n := 0) (As := []) (rest := []) ⟨hx, hb, hml, hown, hk⟩ (c_Z_forgetReached_ok l D t0 g z s.heap.size hz) zk95 zk97 ks_Z_forgetReached zk1 kc_Z_forgetReached ⟨rfl, by decide, by decide, by decide⟩ rfl rfl ⟨Nat.le_of_ble_eq_true rfl, Nat.le_of_ble_eq_true rfl⟩ ⟨hP, hK, hD, hS, hA, hE⟩ (va_recv hK hP (ci := 0) (q0 := 0) rfl rfl) rfl hl.1 rfl (Nat.le_of_ble_eq_true rfl) d_Z_lost_1 ⟨Nat.le_of_ble_eq_true rfl, Nat.le_of_ble_eq_true rfl⟩) ⟨hP, hK, hD, hS, hA, hE⟩ (fun u H locs hu hP hK hD hS => ?_)
  subst hu
  have hP : va_P D zcl (zW t0 g (z3 z (zq_frc z (z_rn z), z_rb z, 0))) H := hP
  have hK : va_K D zcl (zT g (z3 z (zq_frc z (z_rn z), z_rb z, 0))) s := hK
  have hD : va_D A (zW t0 g (z3 z (zq_frc z (z_rn z), z_rb z, 0))) := hD
  obtain ⟨r0, hr0⟩ : ∃ q : T3, q = (zq_frc z (z_rn z), z_rb z, 0) := ⟨_, rfl⟩
  rw [← hr0] at hP hD hK
  have hk0 : z3ok z r0 := by rw [hr0]; exact ⟨Nat.zero_le _, fun j hj => by have hj : j < 0 := hj; omega⟩
  refine lv_aload_n hx hb d_Z_lost_4 rfl (lv_at hl 0 rfl) ?_
  refine lv_iload_n hx hb d_Z_lost_5 rfl (lv_at hl 1 rfl) ?_
  refine zcv (zrV (n := 1) (As := [.int v1]) (rest := []) ⟨hx, hb, hml, hown, hk⟩ (c_Z_reach_ok l D t0 g z H.size r0 v1 hz hk0) zk99 zk101 ks_Z_reach zk1 kc_Z_reach ⟨rfl, by decide, by decide, by decide⟩ rfl rfl ⟨Nat.le_of_ble_eq_true rfl, Nat.le_of_ble_eq_true rfl⟩ ⟨hP, hK, hD, hS, hA, hE⟩ (va_recv hK hP (ci := 0) (q0 := 0) rfl rfl) rfl hl.1 rfl (Nat.le_of_ble_eq_true rfl) d_Z_lost_6 ⟨Nat.le_of_ble_eq_true rfl, Nat.le_of_ble_eq_true rfl⟩) ⟨hP, hK, hD, hS, hA, hE⟩ (fun u H locs hu hP hK hD hS => ?_)
  subst hu
  have hP : va_P D zcl (zW t0 g (z3 z (zr3 z v1 r0))) H := hP
  have hK : va_K D zcl (zT g (z3 z (zr3 z v1 r0))) s := hK
  have hD : va_D A (zW t0 g (z3 z (zr3 z v1 r0))) := hD
  obtain ⟨r1, hr1⟩ : ∃ q : T3, q = zr3 z v1 r0 := ⟨_, rfl⟩
  rw [← hr1] at hP hD hK
  have hk1 : z3ok z r1 := by rw [hr1]; exact hk0.reach hz
  refine lv_aload_n hx hb d_Z_lost_9 rfl (lv_at hl 0 rfl) ?_
  refine lv_iload_n hx hb d_Z_lost_10 rfl (lv_at hl 2 rfl) ?_
  refine zcv (zrV (n := 1) (As := [.int v2]) (rest := []) ⟨hx, hb, hml, hown, hk⟩ (c_Z_reach_ok l D t0 g z H.size r1 v2 hz hk1) zk99 zk101 ks_Z_reach zk1 kc_Z_reach ⟨rfl, by decide, by decide, by decide⟩ rfl rfl ⟨Nat.le_of_ble_eq_true rfl, Nat.le_of_ble_eq_true rfl⟩ ⟨hP, hK, hD, hS, hA, hE⟩ (va_recv hK hP (ci := 0) (q0 := 0) rfl rfl) rfl hl.1 rfl (Nat.le_of_ble_eq_true rfl) d_Z_lost_11 ⟨Nat.le_of_ble_eq_true rfl, Nat.le_of_ble_eq_true rfl⟩) ⟨hP, hK, hD, hS, hA, hE⟩ (fun u H locs hu hP hK hD hS => ?_)
  subst hu
  have hP : va_P D zcl (zW t0 g (z3 z (zr3 z v2 r1))) H := hP
  have hK : va_K D zcl (zT g (z3 z (zr3 z v2 r1))) s := hK
  have hD : va_D A (zW t0 g (z3 z (zr3 z v2 r1))) := hD
  obtain ⟨r2, hr2⟩ : ∃ q : T3, q = zr3 z v2 r1 := ⟨_, rfl⟩
  rw [← hr2] at hP hD hK
  have hk2 : z3ok z r2 := by rw [hr2]; exact hk1.reach hz
  refine lv_iconst (v := nI 0) hx hb d_Z_lost_14 (by decide) ?_
  refine lv_istore_n (lv' := [(3, .int (nI 0)), (0, .ref (g_h g)), (1, .int v1), (2, .int v2)]) hx hb d_Z_lost_15 rfl hl (by decide) rfl (fun ls hl => ?_)
  refine zh_loopH (A := Nat × T3) (fun q H locs ls => lv_has ls 4 [(0, .ref (g_h g)), (3, .int (nI q.1))] ∧ va_P D zcl (zW t0 g (z3 z q.2)) H ∧ va_K D zcl (zT g (z3 z q.2)) s ∧ va_D A (zW t0 g (z3 z q.2)) ∧ va_S A s.heap H locs ∧ (q.1 ≤ 255) ∧ (z3ok z q.2) ∧ (zs3 z (256 - q.1) q.1 q.2 = zs3 z 256 0 r2)) (fun q => 255 - q.1) ?_ (0, r2) ⟨lv_sub hl [1, 0] rfl, hP, hK, hD, hS, Nat.zero_le _, hk2, rfl⟩
  rintro ⟨i, r3⟩ H locs ls ⟨hl, hP, hK, hD, hS, hi, h3, hfin⟩ ih
  have hl : lv_has ls 4 [(0, .ref (g_h g)), (3, .int (nI i))] := hl
  have hP : va_P D zcl (zW t0 g (z3 z r3)) H := hP
  have hK : va_K D zcl (zT g (z3 z r3)) s := hK
  have hD : va_D A (zW t0 g (z3 z r3)) := hD
  have hi : i ≤ 255 := hi
  have h3 : z3ok z r3 := h3
  have hfin : zs3 z (256 - i) i r3 = zs3 z 256 0 r2 := hfin
  have hP : va_P D zcl (zW t0 g (zmk (z_oct z) (z_tk z) (z_ko z) (z_lb z) (z_lo z) (z_mb z) r3.2.1 r3.2.2 (z_lf z) (z_ln z) (z_md z) (z_cE z) (z_aE z) (z_cap z) (z_kl z) (z_LB z) (z_bs z) (z_bz z) (z_kp z) r3.1)) H := hP
  have hD : va_D A (zW t0 g (zmk (z_oct z) (z_tk z) (z_ko z) (z_lb z) (z_lo z) (z_mb z) r3.2.1 r3.2.2 (z_lf z) (z_ln z) (z_md z) (z_cE z) (z_aE z) (z_cap z) (z_kl z) (z_LB z) (z_bs z) (z_bz z) (z_kp z) r3.1)) := hD
  have hK : va_K D zcl (zT g (zmk (z_oct z) (z_tk z) (z_ko z) (z_lb z) (z_lo z) (z_mb z) r3.2.1 r3.2.2 (z_lf z) (z_ln z) (z_md z) (z_cE z) (z_aE z) (z_cap z) (z_kl z) (z_LB z) (z_bs z) (z_bz z) (z_kp z) r3.1)) s := hK
  have h31 := h3.1
  refine lv_iload_n hx hb d_Z_lost_16 rfl (lv_at hl 1 rfl) ?_
  refine lv_aload_n hx hb d_Z_lost_17 rfl (lv_at hl 0 rfl) ?_
  refine va_get (D := D) (ci := 0) (v := .int (nI r3.2.2)) (C := RZ) (T := TZ) (N := 11) hx hb hk inZ hown hK hP 0 rfl rfl 8 (by decide) (hk _ zk64) (fun _ h9 => h9) rfl d_Z_lost_18 ?_
  refine lv_icmp_ge (tgt := 47) hx hb d_Z_lost_21 (by decide) (fun h => ?_) (fun h => ?_)
  · rw [nI_leI (by omega) (by omega)] at h
    have e3 : r3 = zq_t3 z v1 v2 := by rw [zs3_stop hi (by omega)] at hfin; rw [hfin, hr2, hr1, hr0]; rfl
    have hP : va_P D zcl (zW t0 g (z3 z r3)) H := hP
    have hD : va_D A (zW t0 g (z3 z r3)) := hD
    have hK : va_K D zcl (zT g (z3 z r3)) s := hK
    refine lv_aload_n hx hb d_Z_lost_47 rfl (lv_at hl 0 rfl) ?_
    refine zcv (zrV (n := 0) (As := []) (rest := []) ⟨hx, hb, hml, hown, hk⟩ (c_Z_noteLost_ok l D t0 g (z3 z r3) H.size (hz.t3 h3)) zk131 zk133 ks_Z_noteLost zk1 kc_Z_noteLost ⟨rfl, by decide, by decide, by decide⟩ rfl rfl ⟨Nat.le_of_ble_eq_true rfl, Nat.le_of_ble_eq_true rfl⟩ ⟨hP, hK, hD, hS, hA, hE⟩ (va_recv hK hP (ci := 0) (q0 := 0) rfl rfl) rfl hl.1 rfl (Nat.le_of_ble_eq_true rfl) d_Z_lost_48 ⟨Nat.le_of_ble_eq_true rfl, Nat.le_of_ble_eq_true rfl⟩) ⟨hP, hK, hD, hS, hA, hE⟩ (fun u H locs hu hP hK hD hS => ?_)
    subst hu
    have hP : va_P D zcl (zW t0 g (zq_note (z3 z r3) 512)) H := hP
    have hK : va_K D zcl (zT g (zq_note (z3 z r3) 512)) s := hK
    have hD : va_D A (zW t0 g (zq_note (z3 z r3) 512)) := hD
    refine lv_aload_n hx hb d_Z_lost_51 rfl (lv_at hl 0 rfl) ?_
    refine va_get (D := D) (ci := 0) (v := .int (nI (z_ln (zq_note (z3 z r3) 512)))) (C := RZ) (T := TZ) (N := 11) hx hb hk inZ hown hK hP 0 rfl rfl 10 (by decide) (hk _ zk66) (fun _ h9 => h9) rfl d_Z_lost_52 ?_
    exact W.iret hx hb hr (fun t ht hW => ⟨⟨_, (zq_note (z3 z r3) 512), rfl, ⟨by rw [e3]; rfl, rfl⟩, by rw [ht]; exact hP, va_K.moved hW.alike hK, hD⟩, hS.F ht⟩) hS.2.2 d_Z_lost_55
  rw [nI_leI (by omega) (by omega)] at h
  have hlt := h
  refine lv_iload_n hx hb d_Z_lost_24 rfl (lv_at hl 1 rfl) ?_
  refine lv_sipush (v := nI 255) hx hb d_Z_lost_25 (by decide) ?_
  refine lv_icmp_ge (tgt := 47) hx hb d_Z_lost_28 (by decide) (fun h => ?_) (fun h => ?_)
  · rw [nI_leI (by omega) (by omega)] at h
    have e3 : r3 = zq_t3 z v1 v2 := by rw [zs3_stop hi (by omega)] at hfin; rw [hfin, hr2, hr1, hr0]; rfl
    have hP : va_P D zcl (zW t0 g (z3 z r3)) H := hP
    have hD : va_D A (zW t0 g (z3 z r3)) := hD
    have hK : va_K D zcl (zT g (z3 z r3)) s := hK
    refine lv_aload_n hx hb d_Z_lost_47 rfl (lv_at hl 0 rfl) ?_
    refine zcv (zrV (n := 0) (As := []) (rest := []) ⟨hx, hb, hml, hown, hk⟩ (c_Z_noteLost_ok l D t0 g (z3 z r3) H.size (hz.t3 h3)) zk131 zk133 ks_Z_noteLost zk1 kc_Z_noteLost ⟨rfl, by decide, by decide, by decide⟩ rfl rfl ⟨Nat.le_of_ble_eq_true rfl, Nat.le_of_ble_eq_true rfl⟩ ⟨hP, hK, hD, hS, hA, hE⟩ (va_recv hK hP (ci := 0) (q0 := 0) rfl rfl) rfl hl.1 rfl (Nat.le_of_ble_eq_true rfl) d_Z_lost_48 ⟨Nat.le_of_ble_eq_true rfl, Nat.le_of_ble_eq_true rfl⟩) ⟨hP, hK, hD, hS, hA, hE⟩ (fun u H locs hu hP hK hD hS => ?_)
    subst hu
    have hP : va_P D zcl (zW t0 g (zq_note (z3 z r3) 512)) H := hP
    have hK : va_K D zcl (zT g (zq_note (z3 z r3) 512)) s := hK
    have hD : va_D A (zW t0 g (zq_note (z3 z r3) 512)) := hD
    refine lv_aload_n hx hb d_Z_lost_51 rfl (lv_at hl 0 rfl) ?_
    refine va_get (D := D) (ci := 0) (v := .int (nI (z_ln (zq_note (z3 z r3) 512)))) (C := RZ) (T := TZ) (N := 11) hx hb hk inZ hown hK hP 0 rfl rfl 10 (by decide) (hk _ zk66) (fun _ h9 => h9) rfl d_Z_lost_52 ?_
    exact W.iret hx hb hr (fun t ht hW => ⟨⟨_, (zq_note (z3 z r3) 512), rfl, ⟨by rw [e3]; rfl, rfl⟩, by rw [ht]; exact hP, va_K.moved hW.alike hK, hD⟩, hS.F ht⟩) hS.2.2 d_Z_lost_55
  rw [nI_leI (by omega) (by omega)] at h
  obtain ⟨a, hra, ha⟩ := h3.2 i (by omega)
  refine lv_aload_n hx hb d_Z_lost_31 rfl (lv_at hl 0 rfl) ?_
  refine lv_aload_n hx hb d_Z_lost_32 rfl (lv_at hl 0 rfl) ?_
  refine va_get (D := D) (ci := 0) (v := .ref (g_aR g)) (C := RZ) (T := TZ) (N := 11) hx hb hk inZ hown hK hP 0 rfl rfl 7 (by decide) (hk _ zk63) (fun _ h9 => h9) rfl d_Z_lost_33 ?_
  refine lv_iload_n hx hb d_Z_lost_36 rfl (lv_at hl 1 rfl) ?_
  refine va_aldq hx hb hK hP 4 2 rfl rfl (vp_in_nI (by omega) (by decide)) d_Z_lost_37 ?_
  refine zh_v (show va_rf (r3.2.1 (nI i).toNatClampNeg) = va_rf (r3.2.1 i) from by rw [nI_clamp (by omega)]) ?_
  refine zh_v (show va_rf (r3.2.1 i) = .ref a from by rw [hra]; rfl) ?_
  have hP : va_P D zcl (zW t0 g (z3 z r3)) H := hP
  have hD : va_D A (zW t0 g (z3 z r3)) := hD
  have hK : va_K D zcl (zT g (z3 z r3)) s := hK
  refine zcv (zrV (n := 1) (As := [.ref a]) (rest := []) ⟨hx, hb, hml, hown, hk⟩ (c_Z_reachFromWordsOf_ok l D t0 g z H.size r3 a ha hz h3) zk123 zk125 ks_Z_reachFromWordsOf zk1 kc_Z_reachFromWordsOf ⟨rfl, by decide, by decide, by decide⟩ rfl rfl ⟨Nat.le_of_ble_eq_true rfl, Nat.le_of_ble_eq_true rfl⟩ ⟨hP, hK, hD, hS, hA, hE⟩ (va_recv hK hP (ci := 0) (q0 := 0) rfl rfl) rfl hl.1 rfl (Nat.le_of_ble_eq_true rfl) d_Z_lost_38 ⟨Nat.le_of_ble_eq_true rfl, Nat.le_of_ble_eq_true rfl⟩) ⟨hP, hK, hD, hS, hA, hE⟩ (fun u H locs hu hP hK hD hS => ?_)
  subst hu
  have hP : va_P D zcl (zW t0 g (z3 z (zw3 z a r3 (z_bz z a / 4)))) H := hP
  have hK : va_K D zcl (zT g (z3 z (zw3 z a r3 (z_bz z a / 4)))) s := hK
  have hD : va_D A (zW t0 g (z3 z (zw3 z a r3 (z_bz z a / 4)))) := hD
  refine lv_iinc (lv' := [(3, .int (nI (i + 1))), (0, .ref (g_h g))]) (v := nI (i + 1)) hx hb d_Z_lost_41 hl (k := 1) rfl (nI_add _ _) (by decide) rfl (fun ls hl => ?_)
  refine lv_goto (tgt := 16) hx hb d_Z_lost_44 (by decide) ?_
  exact ih (i + 1, zw3 z a r3 (z_bz z a / 4)) H locs ls ⟨lv_sub hl [1, 0] rfl, hP, hK, hD, hS, by show _ ≤ _; dsimp only; omega, h3.words hz _, by rw [← hfin, zs3_step ⟨by omega, by omega⟩ hra]⟩ (by show _ < _; (try dsimp only); omega)
