theorem zsum_zero {f : Nat → Nat} : ∀ {n : Nat}, (∀ k, k < n → f k = 0) → zsum f n = 0
  | 0, _ => rfl
  | n + 1, h => by
    show zsum f n + f n = 0
    rw [zsum_zero (n := n) (fun k hk => h k (by omega)), h n (by omega)]
theorem mkept_some {z : MT} (h : 512 < mkept z) : ¬ ∀ j : Nat, j < m_many z → m_sta z j ≠ 2 := fun q => by
  have : mkept z = 0 := zsum_zero (fun k hk => if_neg (q k hk))
  omega
theorem mkept_lt {z : MT} (h : mOK z) : mkept z < 2 ^ 30 := by
  have h1 := zsum_kept (f := m_sta z) (g := m_sz z) (n := m_many z) (fun k hk => (h.at hk).2.2.1)
  have h2 := h.many
  have h3 : mkept z ≤ m_many z * 2048 := h1
  omega
def mold (z : MT) (k : Nat) (o : Int32) : Prop := (o = -1 ∧ ∀ j : Nat, j < k → m_sta z j ≠ 2) ∨ ∃ i : Nat, i < k ∧ o = nI i ∧ m_sta z i = 2 ∧ ∀ j : Nat, j < k → m_sta z j = 2 → m_sin z i ≤ m_sin z j
set_option maxHeartbeats 1000000 in
set_option maxRecDepth 100000 in
theorem c_M_give_ok (l : Launch) (D : va_G) (t0 : Nat) (g : MG) (z : MT) (sz : Nat) (b : Nat) (hb9 : b < m_many z) (hz : mOK z) (hbk : m_backs z + 1 < 100000) : Met l y_M_give w_M_give ({ frames := 1, cells := 0, slots := 0, locals := 40 }) (zPre D t0 (mT g) (mW g z) sz [.ref (n_h g), .int (nI b)]) (va_Qv (fun u => mgive (mq_mark z b) u) (fun (u : MT) t => zPost D (mT g) (va_A (mW g z) sz) (mW g u) t) (va_A (mW g z) sz)) 0 0 (va_A (mW g z) sz) := by
  refine Met.ofW (cc := c_M_give) (maxL := 4) (ret := none) (by decide) rfl ?_
  intro p e s m args below meth c s₁ B hml hv
  obtain ⟨rfl, hsz, hP, hK, hD0, hE⟩ := hv
  have hx := B.exec
  have hb := B.bytes
  have hr := B.returns
  have hts := atoms_spec (ws := w_M_give) B.pre
  have hk : ∀ w ∈ zB, w.before _ s = true := fun w h => hts w (List.mem_cons_of_mem _ h)
  have hown : s.vm.findClass "ZoneHeapModel" = some m.cls := findClass_of_methodNamed B.named
  have hlocks := B.notSynchronized
  subst hsz
  have hD := hD0.self (sz := s.heap.size)
  generalize hAe : va_A (mW g z) s.heap.size = A at hD hE ⊢
  have hA : ∀ q : Nat, s.heap.size ≤ q → A q := fun q h => by rw [← hAe]; exact Or.inr h
  have hS : va_S A s.heap s.heap [] := va_S.rf
  have hl := lv_entry ([.ref (n_h g), .int (nI b)]) (n := 4) (Nat.le_of_ble_eq_true rfl)
  rw [lg_entry_eq]
  generalize (lg_sl ([.ref (n_h g), .int (nI b)]) ++ List.replicate (4 - (lg_sl ([.ref (n_h g), .int (nI b)])).length) Slot.unset).toArray = ls at hl ⊢
  have hl : lv_has ls 4 [(0, .ref (n_h g)), (1, .int (nI b))] := hl
  have hm := hz.many
  refine lv_aload_n hx hb d_M_give_0 rfl (lv_at hl 0 rfl) ?_
  refine va_get (D := D) (ci := 2) (v := .ref (n_aT g)) (C := RM) (T := TM) (N := 12) hx hb hk inM hown hK hP 0 rfl rfl 4 (by decide) (hk _ zk457) (fun _ h9 => h9) rfl d_M_give_1 ?_
  refine lv_iload_n hx hb d_M_give_4 rfl (lv_at hl 1 rfl) ?_
  refine lv_iconst (v := nI 2) hx hb d_M_give_5 (by decide) ?_
  refine va_iast hx hb hK hP hD hS 4 3 rfl rfl (vp_in_nI (by omega) (by decide)) d_M_give_6 (fun H locs hP hD hS => ?_)
  rw [zh_upd (by omega)] at hP hD
  have hP : va_P D zcl (mW g (mmk (m_err z) (m_oct z) (m_pl z) (m_sz z) (va_up (m_sta z) b 2) (m_sin z) (m_rea z) (m_fnd z) (m_many z) (m_made z) (m_backs z) (m_lm z))) H := hP
  have hD : va_D A (mW g (mmk (m_err z) (m_oct z) (m_pl z) (m_sz z) (va_up (m_sta z) b 2) (m_sin z) (m_rea z) (m_fnd z) (m_many z) (m_made z) (m_backs z) (m_lm z))) := hD
  refine lv_aload_n hx hb d_M_give_7 rfl (lv_at hl 0 rfl) ?_
  refine va_get (D := D) (ci := 2) (v := .ref (n_aN g)) (C := RM) (T := TM) (N := 12) hx hb hk inM hown hK hP 0 rfl rfl 5 (by decide) (hk _ zk458) (fun _ h9 => h9) rfl d_M_give_8 ?_
  refine lv_iload_n hx hb d_M_give_11 rfl (lv_at hl 1 rfl) ?_
  refine lv_aload_n hx hb d_M_give_12 rfl (lv_at hl 0 rfl) ?_
  refine lv_dup hx hb d_M_give_13 rfl ?_
  refine va_get (D := D) (ci := 2) (v := .int (nI (m_backs z))) (C := RM) (T := TM) (N := 12) hx hb hk inM hown hK hP 0 rfl rfl 10 (by decide) (hk _ zk463) (fun _ h9 => h9) rfl d_M_give_14 ?_
  refine lv_iconst (v := nI 1) hx hb d_M_give_17 (by decide) ?_
  refine lv_iadd hx hb d_M_give_18 ?_
  refine zh_t (show (nI (m_backs z) + nI 1) = nI (m_backs z + 1) from nI_add _ _) ?_
  refine lv_dup_x1 hx hb d_M_give_19 rfl rfl ?_
  refine va_put (D := D) (ci := 2) (v := .int (nI (m_backs z + 1))) (ty := .int) (C := RM) (T := TM) (N := 12) hx hb hk inM tyM okM nmM hown hK hP hD hS 0 rfl rfl 10 (by decide) (hk _ zk463) (fun _ h9 => h9) rfl (by decide +kernel) rfl rfl (Nat.le_of_ble_eq_true rfl) d_M_give_20 (fun H locs hP hD hS => ?_)
  have hP : va_P D zcl (mW g (mmk (m_err z) (m_oct z) (m_pl z) (m_sz z) (va_up (m_sta z) b 2) (m_sin z) (m_rea z) (m_fnd z) (m_many z) (m_made z) (m_backs z + 1) (m_lm z))) H := hP
  have hD : va_D A (mW g (mmk (m_err z) (m_oct z) (m_pl z) (m_sz z) (va_up (m_sta z) b 2) (m_sin z) (m_rea z) (m_fnd z) (m_many z) (m_made z) (m_backs z + 1) (m_lm z))) := hD
  refine va_iast hx hb hK hP hD hS 5 4 rfl rfl (vp_in_nI (by omega) (by decide)) d_M_give_23 (fun H locs hP hD hS => ?_)
  rw [zh_upd (by omega)] at hP hD
  have hP : va_P D zcl (mW g (mmk (m_err z) (m_oct z) (m_pl z) (m_sz z) (va_up (m_sta z) b 2) (va_up (m_sin z) b (m_backs z + 1)) (m_rea z) (m_fnd z) (m_many z) (m_made z) (m_backs z + 1) (m_lm z))) H := hP
  have hD : va_D A (mW g (mmk (m_err z) (m_oct z) (m_pl z) (m_sz z) (va_up (m_sta z) b 2) (va_up (m_sin z) b (m_backs z + 1)) (m_rea z) (m_fnd z) (m_many z) (m_made z) (m_backs z + 1) (m_lm z))) := hD
  refine zh_loopH (A := MT) (fun q H locs ls => lv_has ls 4 [(0, .ref (n_h g))] ∧ va_P D zcl (mW g q) H ∧ va_K D zcl (mT g) s ∧ va_D A (mW g q) ∧ va_S A s.heap H locs ∧ (mOK q) ∧ (∀ u : MT, mgive q u → mgive (mq_mark z b) u)) (fun q => m_many q) ?_ (mq_mark z b) ⟨lv_sub hl [0] rfl, hP, hK, hD, hS, hz.mark hbk, fun u h => h⟩
  rintro y H locs ls ⟨hl, hP, hK, hD, hS, hy, hcont⟩ ih
  have hl : lv_has ls 4 [(0, .ref (n_h g))] := hl
  have hP : va_P D zcl (mW g y) H := hP
  have hK : va_K D zcl (mT g) s := hK
  have hD : va_D A (mW g y) := hD
  have hy : mOK y := hy
  have hcont : ∀ u : MT, mgive y u → mgive (mq_mark z b) u := hcont
  have hmy := hy.many
  have hkl := mkept_lt hy
  refine lv_aload_n hx hb d_M_give_24 rfl (lv_at hl 0 rfl) ?_
  refine vp_callSi (zrV (n := 0) (As := []) (rest := []) ⟨hx, hb, hml, hown, hk⟩ (c_M_kept_ok l D t0 g y H.size hy) zk526 zk528 ks_M_kept zk5 kc_M_kept ⟨rfl, by decide, by decide, by decide⟩ rfl rfl ⟨Nat.le_of_ble_eq_true rfl, Nat.le_of_ble_eq_true rfl⟩ ⟨hP, hK, hD, hS, hA, hE⟩ (va_recv hK hP (ci := 2) (q0 := 0) rfl rfl) rfl hl.1 rfl (Nat.le_of_ble_eq_true rfl) d_M_give_25 ⟨Nat.le_of_ble_eq_true rfl, Nat.le_of_ble_eq_true rfl⟩).run (fun r hr1 => ?_)
  subst hr1
  refine lv_sipush (v := nI 512) hx hb d_M_give_28 (by decide) ?_
  refine lv_icmp_le (tgt := 156) hx hb d_M_give_31 (by decide) (fun h => ?_) (fun h => ?_)
  · rw [nI_leI (by omega) (by omega)] at h
    exact W.vret hx hb hr (fun t ht hW => ⟨⟨y, rfl, hcont y ⟨0, h, rfl⟩, by rw [ht]; exact hP, va_K.moved hW.alike hK, hD⟩, hS.F ht⟩) hS.2.2 d_M_give_156
  rw [nI_leI (by omega) (by omega)] at h
  have hkept := h
  refine lv_iconst (v := ((-1))) hx hb d_M_give_34 (by decide) ?_
  refine lv_istore_n (lv' := [(2, .int ((-1))), (0, .ref (n_h g))]) hx hb d_M_give_35 rfl hl (by decide) rfl (fun ls hl => ?_)
  refine lv_iconst (v := nI 0) hx hb d_M_give_36 (by decide) ?_
  refine lv_istore_n (lv' := [(3, .int (nI 0)), (2, .int ((-1))), (0, .ref (n_h g))]) hx hb d_M_give_37 rfl hl (by decide) rfl (fun ls hl => ?_)
  have ih1 := ih
  refine zh_loop0 (A := Nat × Int32) (fun q ls => lv_has ls 4 [(0, .ref (n_h g)), (2, .int q.2), (3, .int (nI q.1))] ∧ (q.1 ≤ m_many y) ∧ (mold y q.1 q.2)) (fun q => m_many y - q.1) ?_ (0, -1) ⟨lv_sub hl [2, 1, 0] rfl, Nat.zero_le _, Or.inl ⟨rfl, fun j hj => absurd hj (Nat.not_lt_zero _)⟩⟩
  rintro ⟨k, o⟩ ls ⟨hl, hk5, ho⟩ ih
  have hl : lv_has ls 4 [(0, .ref (n_h g)), (2, .int o), (3, .int (nI k))] := hl
  have hk5 : k ≤ m_many y := hk5
  have ho : mold y k o := ho
  refine lv_iload_n hx hb d_M_give_38 rfl (lv_at hl 2 rfl) ?_
  refine lv_aload_n hx hb d_M_give_39 rfl (lv_at hl 0 rfl) ?_
  refine va_get (D := D) (ci := 2) (v := .int (nI (m_many y))) (C := RM) (T := TM) (N := 12) hx hb hk inM hown hK hP 0 rfl rfl 8 (by decide) (hk _ zk461) (fun _ h9 => h9) rfl d_M_give_40 ?_
  refine lv_icmp_ge (tgt := 83) hx hb d_M_give_43 (by decide) (fun h => ?_) (fun h => ?_)
  · rw [nI_leI (by omega) (by omega)] at h
    have hke : k = m_many y := by omega
    rw [hke] at ho
    rcases ho with ⟨-, q⟩ | ⟨i, hi, rfl, hst2, hmin⟩
    · exact absurd q (mkept_some (by omega))
    have hold : zr_old (m_many y) (m_sta y) (m_sin y) i := ⟨hi, hst2, hmin⟩
    refine lv_aload_n hx hb d_M_give_83 rfl (lv_at hl 0 rfl) ?_
    refine lv_dup hx hb d_M_give_84 rfl ?_
    refine va_get (D := D) (ci := 2) (v := .int (nI (m_many y))) (C := RM) (T := TM) (N := 12) hx hb hk inM hown hK hP 0 rfl rfl 8 (by decide) (hk _ zk461) (fun _ h9 => h9) rfl d_M_give_85 ?_
    refine lv_iconst (v := nI 1) hx hb d_M_give_88 (by decide) ?_
    refine lv_isub hx hb d_M_give_89 ?_
    refine zh_t (show (nI (m_many y) - nI 1) = nI (m_many y - 1) from pk_sub (by omega)) ?_
    refine va_put (D := D) (ci := 2) (v := .int (nI (m_many y - 1))) (ty := .int) (C := RM) (T := TM) (N := 12) hx hb hk inM tyM okM nmM hown hK hP hD hS 0 rfl rfl 8 (by decide) (hk _ zk461) (fun _ h9 => h9) rfl (by decide +kernel) rfl rfl (Nat.le_of_ble_eq_true rfl) d_M_give_90 (fun H locs hP hD hS => ?_)
    have hP : va_P D zcl (mW g (mmk (m_err y) (m_oct y) (m_pl y) (m_sz y) (m_sta y) (m_sin y) (m_rea y) (m_fnd y) (m_many y - 1) (m_made y) (m_backs y) (m_lm y))) H := hP
    have hD : va_D A (mW g (mmk (m_err y) (m_oct y) (m_pl y) (m_sz y) (m_sta y) (m_sin y) (m_rea y) (m_fnd y) (m_many y - 1) (m_made y) (m_backs y) (m_lm y))) := hD
    refine lv_aload_n hx hb d_M_give_93 rfl (lv_at hl 0 rfl) ?_
    refine va_get (D := D) (ci := 2) (v := .ref (n_aP g)) (C := RM) (T := TM) (N := 12) hx hb hk inM hown hK hP 0 rfl rfl 2 (by decide) (hk _ zk455) (fun _ h9 => h9) rfl d_M_give_94 ?_
    refine lv_iload_n hx hb d_M_give_97 rfl (lv_at hl 1 rfl) ?_
    refine lv_aload_n hx hb d_M_give_98 rfl (lv_at hl 0 rfl) ?_
    refine va_get (D := D) (ci := 2) (v := .ref (n_aP g)) (C := RM) (T := TM) (N := 12) hx hb hk inM hown hK hP 0 rfl rfl 2 (by decide) (hk _ zk455) (fun _ h9 => h9) rfl d_M_give_99 ?_
    refine lv_aload_n hx hb d_M_give_102 rfl (lv_at hl 0 rfl) ?_
    refine va_get (D := D) (ci := 2) (v := .int (nI (m_many y - 1))) (C := RM) (T := TM) (N := 12) hx hb hk inM hown hK hP 0 rfl rfl 8 (by decide) (hk _ zk461) (fun _ h9 => h9) rfl d_M_give_103 ?_
    refine va_iald hx hb hK hP 2 1 rfl rfl (vp_in_nI (by omega) (by decide)) d_M_give_106 ?_
    refine zh_t (show nI (m_pl y (nI (m_many y - 1)).toNatClampNeg) = nI (m_pl y (m_many y - 1)) from by rw [nI_clamp (by omega)]) ?_
    refine va_iast hx hb hK hP hD hS 2 1 rfl rfl (vp_in_nI (by omega) (by decide)) d_M_give_107 (fun H locs hP hD hS => ?_)
    rw [zh_upd (by omega)] at hP hD
    have hP : va_P D zcl (mW g (mmk (m_err y) (m_oct y) (va_up (m_pl y) i (m_pl y (m_many y - 1))) (m_sz y) (m_sta y) (m_sin y) (m_rea y) (m_fnd y) (m_many y - 1) (m_made y) (m_backs y) (m_lm y))) H := hP
    have hD : va_D A (mW g (mmk (m_err y) (m_oct y) (va_up (m_pl y) i (m_pl y (m_many y - 1))) (m_sz y) (m_sta y) (m_sin y) (m_rea y) (m_fnd y) (m_many y - 1) (m_made y) (m_backs y) (m_lm y))) := hD
    refine lv_aload_n hx hb d_M_give_108 rfl (lv_at hl 0 rfl) ?_
    refine va_get (D := D) (ci := 2) (v := .ref (n_aS g)) (C := RM) (T := TM) (N := 12) hx hb hk inM hown hK hP 0 rfl rfl 3 (by decide) (hk _ zk456) (fun _ h9 => h9) rfl d_M_give_109 ?_
    refine lv_iload_n hx hb d_M_give_112 rfl (lv_at hl 1 rfl) ?_
    refine lv_aload_n hx hb d_M_give_113 rfl (lv_at hl 0 rfl) ?_
    refine va_get (D := D) (ci := 2) (v := .ref (n_aS g)) (C := RM) (T := TM) (N := 12) hx hb hk inM hown hK hP 0 rfl rfl 3 (by decide) (hk _ zk456) (fun _ h9 => h9) rfl d_M_give_114 ?_
    refine lv_aload_n hx hb d_M_give_117 rfl (lv_at hl 0 rfl) ?_
    refine va_get (D := D) (ci := 2) (v := .int (nI (m_many y - 1))) (C := RM) (T := TM) (N := 12) hx hb hk inM hown hK hP 0 rfl rfl 8 (by decide) (hk _ zk461) (fun _ h9 => h9) rfl d_M_give_118 ?_
    refine va_iald hx hb hK hP 3 2 rfl rfl (vp_in_nI (by omega) (by decide)) d_M_give_121 ?_
    refine zh_t (show nI (m_sz y (nI (m_many y - 1)).toNatClampNeg) = nI (m_sz y (m_many y - 1)) from by rw [nI_clamp (by omega)]) ?_
    refine va_iast hx hb hK hP hD hS 3 2 rfl rfl (vp_in_nI (by omega) (by decide)) d_M_give_122 (fun H locs hP hD hS => ?_)
    rw [zh_upd (by omega)] at hP hD
    have hP : va_P D zcl (mW g (mmk (m_err y) (m_oct y) (va_up (m_pl y) i (m_pl y (m_many y - 1))) (va_up (m_sz y) i (m_sz y (m_many y - 1))) (m_sta y) (m_sin y) (m_rea y) (m_fnd y) (m_many y - 1) (m_made y) (m_backs y) (m_lm y))) H := hP
    have hD : va_D A (mW g (mmk (m_err y) (m_oct y) (va_up (m_pl y) i (m_pl y (m_many y - 1))) (va_up (m_sz y) i (m_sz y (m_many y - 1))) (m_sta y) (m_sin y) (m_rea y) (m_fnd y) (m_many y - 1) (m_made y) (m_backs y) (m_lm y))) := hD
    refine lv_aload_n hx hb d_M_give_123 rfl (lv_at hl 0 rfl) ?_
    refine va_get (D := D) (ci := 2) (v := .ref (n_aT g)) (C := RM) (T := TM) (N := 12) hx hb hk inM hown hK hP 0 rfl rfl 4 (by decide) (hk _ zk457) (fun _ h9 => h9) rfl d_M_give_124 ?_
    refine lv_iload_n hx hb d_M_give_127 rfl (lv_at hl 1 rfl) ?_
    refine lv_aload_n hx hb d_M_give_128 rfl (lv_at hl 0 rfl) ?_
    refine va_get (D := D) (ci := 2) (v := .ref (n_aT g)) (C := RM) (T := TM) (N := 12) hx hb hk inM hown hK hP 0 rfl rfl 4 (by decide) (hk _ zk457) (fun _ h9 => h9) rfl d_M_give_129 ?_
    refine lv_aload_n hx hb d_M_give_132 rfl (lv_at hl 0 rfl) ?_
    refine va_get (D := D) (ci := 2) (v := .int (nI (m_many y - 1))) (C := RM) (T := TM) (N := 12) hx hb hk inM hown hK hP 0 rfl rfl 8 (by decide) (hk _ zk461) (fun _ h9 => h9) rfl d_M_give_133 ?_
    refine va_iald hx hb hK hP 4 3 rfl rfl (vp_in_nI (by omega) (by decide)) d_M_give_136 ?_
    refine zh_t (show nI (m_sta y (nI (m_many y - 1)).toNatClampNeg) = nI (m_sta y (m_many y - 1)) from by rw [nI_clamp (by omega)]) ?_
    refine va_iast hx hb hK hP hD hS 4 3 rfl rfl (vp_in_nI (by omega) (by decide)) d_M_give_137 (fun H locs hP hD hS => ?_)
    rw [zh_upd (by omega)] at hP hD
    have hP : va_P D zcl (mW g (mmk (m_err y) (m_oct y) (va_up (m_pl y) i (m_pl y (m_many y - 1))) (va_up (m_sz y) i (m_sz y (m_many y - 1))) (va_up (m_sta y) i (m_sta y (m_many y - 1))) (m_sin y) (m_rea y) (m_fnd y) (m_many y - 1) (m_made y) (m_backs y) (m_lm y))) H := hP
    have hD : va_D A (mW g (mmk (m_err y) (m_oct y) (va_up (m_pl y) i (m_pl y (m_many y - 1))) (va_up (m_sz y) i (m_sz y (m_many y - 1))) (va_up (m_sta y) i (m_sta y (m_many y - 1))) (m_sin y) (m_rea y) (m_fnd y) (m_many y - 1) (m_made y) (m_backs y) (m_lm y))) := hD
    refine lv_aload_n hx hb d_M_give_138 rfl (lv_at hl 0 rfl) ?_
    refine va_get (D := D) (ci := 2) (v := .ref (n_aN g)) (C := RM) (T := TM) (N := 12) hx hb hk inM hown hK hP 0 rfl rfl 5 (by decide) (hk _ zk458) (fun _ h9 => h9) rfl d_M_give_139 ?_
    refine lv_iload_n hx hb d_M_give_142 rfl (lv_at hl 1 rfl) ?_
    refine lv_aload_n hx hb d_M_give_143 rfl (lv_at hl 0 rfl) ?_
    refine va_get (D := D) (ci := 2) (v := .ref (n_aN g)) (C := RM) (T := TM) (N := 12) hx hb hk inM hown hK hP 0 rfl rfl 5 (by decide) (hk _ zk458) (fun _ h9 => h9) rfl d_M_give_144 ?_
    refine lv_aload_n hx hb d_M_give_147 rfl (lv_at hl 0 rfl) ?_
    refine va_get (D := D) (ci := 2) (v := .int (nI (m_many y - 1))) (C := RM) (T := TM) (N := 12) hx hb hk inM hown hK hP 0 rfl rfl 8 (by decide) (hk _ zk461) (fun _ h9 => h9) rfl d_M_give_148 ?_
    refine va_iald hx hb hK hP 5 4 rfl rfl (vp_in_nI (by omega) (by decide)) d_M_give_151 ?_
    refine zh_t (show nI (m_sin y (nI (m_many y - 1)).toNatClampNeg) = nI (m_sin y (m_many y - 1)) from by rw [nI_clamp (by omega)]) ?_
    refine va_iast hx hb hK hP hD hS 5 4 rfl rfl (vp_in_nI (by omega) (by decide)) d_M_give_152 (fun H locs hP hD hS => ?_)
    rw [zh_upd (by omega)] at hP hD
    have hP : va_P D zcl (mW g (mmk (m_err y) (m_oct y) (va_up (m_pl y) i (m_pl y (m_many y - 1))) (va_up (m_sz y) i (m_sz y (m_many y - 1))) (va_up (m_sta y) i (m_sta y (m_many y - 1))) (va_up (m_sin y) i (m_sin y (m_many y - 1))) (m_rea y) (m_fnd y) (m_many y - 1) (m_made y) (m_backs y) (m_lm y))) H := hP
    have hD : va_D A (mW g (mmk (m_err y) (m_oct y) (va_up (m_pl y) i (m_pl y (m_many y - 1))) (va_up (m_sz y) i (m_sz y (m_many y - 1))) (va_up (m_sta y) i (m_sta y (m_many y - 1))) (va_up (m_sin y) i (m_sin y (m_many y - 1))) (m_rea y) (m_fnd y) (m_many y - 1) (m_made y) (m_backs y) (m_lm y))) := hD
    refine lv_goto (tgt := 24) hx hb d_M_give_153 (by decide) ?_
    exact ih1 (mq_drop y i) H locs ls ⟨lv_sub hl [0] rfl, hP, hK, hD, hS, hy.drop hi, fun u h => hcont u (by obtain ⟨n, hn⟩ := h; exact ⟨n + 1, by omega, i, hold, hn⟩)⟩ (by show m_many y - 1 < m_many y; omega)
  rw [nI_leI (by omega) (by omega)] at h
  have hat := hy.at (k := k) (by omega)
  refine lv_aload_n hx hb d_M_give_46 rfl (lv_at hl 0 rfl) ?_
  refine va_get (D := D) (ci := 2) (v := .ref (n_aT g)) (C := RM) (T := TM) (N := 12) hx hb hk inM hown hK hP 0 rfl rfl 4 (by decide) (hk _ zk457) (fun _ h9 => h9) rfl d_M_give_47 ?_
  refine lv_iload_n hx hb d_M_give_50 rfl (lv_at hl 2 rfl) ?_
  refine va_iald hx hb hK hP 4 3 rfl rfl (vp_in_nI (by omega) (by decide)) d_M_give_51 ?_
  refine zh_t (show nI (m_sta y (nI k).toNatClampNeg) = nI (m_sta y k) from by rw [nI_clamp (by omega)]) ?_
  refine lv_iconst (v := nI 2) hx hb d_M_give_52 (by decide) ?_
  refine lv_icmp_ne (tgt := 77) hx hb d_M_give_53 (by decide) (fun h2 => ?_) (fun h2 => ?_)
  · rw [nI_eq (by omega) (by omega)] at h2
    refine lv_iinc (lv' := [(3, .int (nI (k + 1))), (0, .ref (n_h g)), (2, .int o)]) (v := nI (k + 1)) hx hb d_M_give_77 hl (k := 2) rfl (nI_add _ _) (by decide) rfl (fun ls hl => ?_)
    refine lv_goto (tgt := 38) hx hb d_M_give_80 (by decide) ?_
    exact ih (k + 1, o) ls ⟨lv_sub hl [1, 2, 0] rfl, by dsimp only; omega, ho.elim (fun q => Or.inl ⟨q.1, lt_s q.2 h2⟩) (fun ⟨i, q1, q2, q3, q4⟩ => Or.inr ⟨i, by show i < k + 1; omega, q2, q3, lt_s q4 (fun q => absurd q h2)⟩)⟩ (by show _ < _; (try dsimp only); omega)
  rw [nI_eq (by omega) (by omega)] at h2
  rcases ho with ⟨rfl, hno⟩ | ⟨i, hi, rfl, hst2, hmin⟩
  · refine lv_iload_n hx hb d_M_give_56 rfl (lv_at hl 1 rfl) ?_
    refine lv_if_lt (tgt := 75) hx hb d_M_give_57 (by decide) (fun h3 => ?_) (fun h3 => ?_)
    rotate_left 1
    · exact absurd (by decide) h3
    refine lv_iload_n hx hb d_M_give_75 rfl (lv_at hl 2 rfl) ?_
    refine lv_istore_n (lv' := [(2, .int (nI k)), (0, .ref (n_h g)), (3, .int (nI k))]) hx hb d_M_give_76 rfl hl (by decide) rfl (fun ls hl => ?_)
    refine lv_iinc (lv' := [(3, .int (nI (k + 1))), (2, .int (nI k)), (0, .ref (n_h g))]) (v := nI (k + 1)) hx hb d_M_give_77 hl (k := 2) rfl (nI_add _ _) (by decide) rfl (fun ls hl => ?_)
    refine lv_goto (tgt := 38) hx hb d_M_give_80 (by decide) ?_
    exact ih (k + 1, nI k) ls ⟨lv_sub hl [2, 1, 0] rfl, by dsimp only; omega, Or.inr ⟨k, by show k < k + 1; omega, rfl, h2, lt_s (fun j hj q => absurd q (hno j hj)) (fun _ => Nat.le_refl _)⟩⟩ (by show _ < _; (try dsimp only); omega)
  have hati := hy.at (k := i) (by omega)
  refine lv_iload_n hx hb d_M_give_56 rfl (lv_at hl 1 rfl) ?_
  refine lv_if_lt (tgt := 75) hx hb d_M_give_57 (by decide) (fun h3 => ?_) (fun h3 => ?_)
  · rw [show (0 : Int32) = nI 0 from rfl, nI_ltI (by omega) (by omega)] at h3
    exact absurd h3 (by omega)
  rw [show (0 : Int32) = nI 0 from rfl, nI_ltI (by omega) (by omega)] at h3
  refine lv_aload_n hx hb d_M_give_60 rfl (lv_at hl 0 rfl) ?_
  refine va_get (D := D) (ci := 2) (v := .ref (n_aN g)) (C := RM) (T := TM) (N := 12) hx hb hk inM hown hK hP 0 rfl rfl 5 (by decide) (hk _ zk458) (fun _ h9 => h9) rfl d_M_give_61 ?_
  refine lv_iload_n hx hb d_M_give_64 rfl (lv_at hl 2 rfl) ?_
  refine va_iald hx hb hK hP 5 4 rfl rfl (vp_in_nI (by omega) (by decide)) d_M_give_65 ?_
  refine zh_t (show nI (m_sin y (nI k).toNatClampNeg) = nI (m_sin y k) from by rw [nI_clamp (by omega)]) ?_
  refine lv_aload_n hx hb d_M_give_66 rfl (lv_at hl 0 rfl) ?_
  refine va_get (D := D) (ci := 2) (v := .ref (n_aN g)) (C := RM) (T := TM) (N := 12) hx hb hk inM hown hK hP 0 rfl rfl 5 (by decide) (hk _ zk458) (fun _ h9 => h9) rfl d_M_give_67 ?_
  refine lv_iload_n hx hb d_M_give_70 rfl (lv_at hl 1 rfl) ?_
  refine va_iald hx hb hK hP 5 4 rfl rfl (vp_in_nI (by omega) (by decide)) d_M_give_71 ?_
  refine zh_t (show nI (m_sin y (nI i).toNatClampNeg) = nI (m_sin y i) from by rw [nI_clamp (by omega)]) ?_
  refine lv_icmp_ge (tgt := 77) hx hb d_M_give_72 (by decide) (fun h4 => ?_) (fun h4 => ?_)
  · rw [nI_leI (by omega) (by omega)] at h4
    refine lv_iinc (lv' := [(3, .int (nI (k + 1))), (0, .ref (n_h g)), (2, .int (nI i))]) (v := nI (k + 1)) hx hb d_M_give_77 hl (k := 2) rfl (nI_add _ _) (by decide) rfl (fun ls hl => ?_)
    refine lv_goto (tgt := 38) hx hb d_M_give_80 (by decide) ?_
    exact ih (k + 1, nI i) ls ⟨lv_sub hl [1, 2, 0] rfl, by dsimp only; omega, Or.inr ⟨i, by show i < k + 1; omega, rfl, hst2, lt_s hmin (fun _ => h4)⟩⟩ (by show _ < _; (try dsimp only); omega)
  rw [nI_leI (by omega) (by omega)] at h4
  refine lv_iload_n hx hb d_M_give_75 rfl (lv_at hl 2 rfl) ?_
  refine lv_istore_n (lv' := [(2, .int (nI k)), (0, .ref (n_h g)), (3, .int (nI k))]) hx hb d_M_give_76 rfl hl (by decide) rfl (fun ls hl => ?_)
  refine lv_iinc (lv' := [(3, .int (nI (k + 1))), (2, .int (nI k)), (0, .ref (n_h g))]) (v := nI (k + 1)) hx hb d_M_give_77 hl (k := 2) rfl (nI_add _ _) (by decide) rfl (fun ls hl => ?_)
  refine lv_goto (tgt := 38) hx hb d_M_give_80 (by decide) ?_
  exact ih (k + 1, nI k) ls ⟨lv_sub hl [2, 1, 0] rfl, by dsimp only; omega, Or.inr ⟨k, by show k < k + 1; omega, rfl, h2, lt_s (fun j hj q => Nat.le_trans (by omega) (hmin j hj q)) (fun _ => Nat.le_refl _)⟩⟩ (by show _ < _; (try dsimp only); omega)
