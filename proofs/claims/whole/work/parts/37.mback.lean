def mlive (z : MT) (v : Int32) (y k : Nat) : Prop := nI (m_pl z k) = v ∧ m_sta z k = y
/-- no live block stands there: what is thrown -/
def mnot (z : MT) (v : Int32) (y : Nat) : Prop := (∀ k : Nat, k < m_many z → ¬ mlive z v 1 k) ∧ ((y = 2 ∧ ∃ k : Nat, k < m_many z ∧ mlive z v 2 k) ∨ (y = 1 ∧ ∀ k : Nat, k < m_many z → ¬ mlive z v 2 k))
def mq_cpy (z : MT) (x q n : Nat) : MT := mu_oct z (va_cpy (m_oct z) (m_oct z) x q n)
theorem zcpy_0 {f g : Nat → Nat} {x q : Nat} : va_cpy f g x q 0 = g := by
  funext k
  unfold va_cpy
  rw [if_neg (by omega)]
theorem zcpy_s {f : Nat → Nat} {x q j : Nat} (h : x + j < q ∨ q + j ≤ x + j) : va_up (va_cpy f f x q j) (q + j) (va_cpy f f x q j (x + j)) = va_cpy f f x q (j + 1) := by
  funext k
  unfold va_up va_cpy
  by_cases e : k = q + j
  · subst e
    rw [if_pos rfl, if_neg (by omega), if_pos (by omega)]
    congr 1
    omega
  · rw [if_neg e]
    by_cases h2 : q ≤ k ∧ k < q + j
    · rw [if_pos h2, if_pos (by omega)]
    · rw [if_neg h2, if_neg (by omega)]
theorem mOK.make {z : MT} {k n : Nat} (h : mOK z) (hn : n ≤ 2048) (hr : mroom z n k) (hk : k ≠ 0) : mOK (mq_make z k n) := by
  obtain ⟨⟨h1, h1'⟩, h2, h3, h4, h5⟩ := h
  rcases hr with ⟨e, -⟩ | ⟨r1, r2, r3, -⟩
  · exact absurd e hk
  · have up : ∀ (f : Nat → Nat) (v : Nat) {j : Nat}, j < m_many z → va_up f (m_many z) v j = f j := fun f v {j} hj => va_up_ne f v (by omega)
    refine ⟨⟨fun j hj => ?_, fun i j hi hj hij => ?_⟩, fun j => ?_, h3, h4, h5⟩
    · have hj : j < m_many z + 1 := hj
      show 1 ≤ va_up (m_pl z) (m_many z) (16 * k) j / 16 ∧ va_up (m_pl z) (m_many z) (16 * k) j / 16 + zc (va_up (m_sz z) (m_many z) n j) + 1 ≤ 512 ∧ va_up (m_sz z) (m_many z) n j ≤ 2048 ∧ (va_up (m_sta z) (m_many z) 1 j = 1 ∨ va_up (m_sta z) (m_many z) 1 j = 2)
      by_cases e : j = m_many z
      · subst e
        rw [va_up_self, va_up_self, va_up_self]
        exact ⟨by omega, by omega, hn, Or.inl rfl⟩
      · rw [up _ _ (by omega), up _ _ (by omega), up _ _ (by omega)]
        exact h1 j (by omega)
    · have hi : i < m_many z + 1 := hi
      have hj : j < m_many z + 1 := hj
      show va_up (m_pl z) (m_many z) (16 * k) i / 16 + zc (va_up (m_sz z) (m_many z) n i) + 1 ≤ va_up (m_pl z) (m_many z) (16 * k) j / 16 ∨ va_up (m_pl z) (m_many z) (16 * k) j / 16 + zc (va_up (m_sz z) (m_many z) n j) + 1 ≤ va_up (m_pl z) (m_many z) (16 * k) i / 16
      by_cases e : i = m_many z
      · subst e
        rw [va_up_self, va_up_self, up _ _ (by omega), up _ _ (by omega)]
        have := r3 j (by omega)
        have this : ¬ (k < m_pl z j / 16 + zc (m_sz z j) + 1 ∧ m_pl z j / 16 < k + zc n + 1) := this
        omega
      · by_cases e' : j = m_many z
        · subst e'
          rw [va_up_self, va_up_self, up _ _ (by omega), up _ _ (by omega)]
          have := r3 i (by omega)
          have this : ¬ (k < m_pl z i / 16 + zc (m_sz z i) + 1 ∧ m_pl z i / 16 < k + zc n + 1) := this
          omega
        · rw [up _ _ (by omega), up _ _ (by omega), up _ _ (by omega), up _ _ (by omega)]
          exact h1' i j (by omega) (by omega) hij
    · refine ⟨fun hj => ?_, (h2 j).2⟩
      have hj : j < m_many z + 1 := hj
      show va_up (m_pl z) (m_many z) (16 * k) j = 16 * (va_up (m_pl z) (m_many z) (16 * k) j / 16)
      by_cases e : j = m_many z
      · subst e
        rw [va_up_self]
        omega
      · rw [up _ _ (by omega)]
        exact (h2 j).1 (by omega)
set_option maxHeartbeats 1000000 in
set_option maxRecDepth 100000 in
theorem c_M_back_ok (l : Launch) (D : va_G) (t0 : Nat) (g : MG) (z : MT) (sz : Nat) (v : Int32) (hz : mOK z) (hbk : m_backs z + 1 < 100000) : Met l y_M_back w_M_back ({ frames := 2, cells := 0, slots := 0, locals := 70 }) (zPre D t0 (mT g) (mW g z) sz [.ref (n_h g), .int v]) (va_Qi (fun r u => (∃ y : Nat, mnot z v y ∧ u = mu_err z y) ∨ (∃ b : Nat, b < m_many z ∧ mlive z v 1 b ∧ r = nI (m_sz z b) ∧ mgive (mq_mark (mu_err z 0) b) u)) (fun (u : MT) t => zPost D (mT g) (va_A (mW g z) sz) (mW g u) t) (va_A (mW g z) sz)) 0 0 (va_A (mW g z) sz) := by
  refine Met.ofW (cc := c_M_back) (maxL := 4) (ret := (some .int)) (by decide) rfl ?_
  intro p e s m args below meth c s₁ B hml hv
  obtain ⟨rfl, hsz, hP, hK, hD0, hE⟩ := hv
  have hx := B.exec
  have hb := B.bytes
  have hr := B.returns
  have hts := atoms_spec (ws := w_M_back) B.pre
  have hk : ∀ w ∈ zB, w.before _ s = true := fun w h => hts w (List.mem_cons_of_mem _ h)
  have hown : s.vm.findClass "ZoneHeapModel" = some m.cls := findClass_of_methodNamed B.named
  have hlocks := B.notSynchronized
  subst hsz
  have hD := hD0.self (sz := s.heap.size)
  generalize hAe : va_A (mW g z) s.heap.size = A at hD hE ⊢
  have hA : ∀ q : Nat, s.heap.size ≤ q → A q := fun q h => by rw [← hAe]; exact Or.inr h
  have hS : va_S A s.heap s.heap [] := va_S.rf
  have hl := lv_entry ([.ref (n_h g), .int v]) (n := 4) (Nat.le_of_ble_eq_true rfl)
  rw [lg_entry_eq]
  generalize (lg_sl ([.ref (n_h g), .int v]) ++ List.replicate (4 - (lg_sl ([.ref (n_h g), .int v])).length) Slot.unset).toArray = ls at hl ⊢
  have hl : lv_has ls 4 [(0, .ref (n_h g)), (1, .int v)] := hl
  have hm := hz.many
  refine lv_aload_n hx hb d_M_back_0 rfl (lv_at hl 0 rfl) ?_
  refine lv_iload_n hx hb d_M_back_1 rfl (lv_at hl 1 rfl) ?_
  refine lv_iconst (v := nI 1) hx hb d_M_back_2 (by decide) ?_
  refine vp_callSi (zrV (n := 2) (As := [.int v, .int (nI 1)]) (rest := []) ⟨hx, hb, hml, hown, hk⟩ (c_M_at_ok l D t0 g z s.heap.size v 1 (by decide) hz) zk518 zk520 ks_M_at zk5 kc_M_at ⟨rfl, by decide, by decide, by decide⟩ rfl rfl ⟨Nat.le_of_ble_eq_true rfl, Nat.le_of_ble_eq_true rfl⟩ ⟨hP, hK, hD, hS, hA, hE⟩ (va_recv hK hP (ci := 2) (q0 := 0) rfl rfl) rfl hl.1 rfl (Nat.le_of_ble_eq_true rfl) d_M_back_3 ⟨Nat.le_of_ble_eq_true rfl, Nat.le_of_ble_eq_true rfl⟩).run (fun r hr1 => ?_)
  have hr1 : zfst (mlive z v 1) (m_many z) r := hr1
  rcases hr1 with ⟨rfl, hno1⟩ | ⟨b, hb5, rfl, hlv, hfirst⟩
  · refine lv_istore_n (lv' := [(2, .int ((-1))), (0, .ref (n_h g)), (1, .int v)]) hx hb d_M_back_6 rfl hl (by decide) rfl (fun ls hl => ?_)
    refine lv_aload_n hx hb d_M_back_7 rfl (lv_at hl 1 rfl) ?_
    refine lv_iload_n hx hb d_M_back_8 rfl (lv_at hl 0 rfl) ?_
    refine lv_if_ge (tgt := 16) hx hb d_M_back_9 (by decide) (fun h9 => ?_) (fun h9 => ?_)
    · exact absurd h9 (by decide)
    refine lv_iconst (v := nI 1) hx hb d_M_back_12 (by decide) ?_
    refine zh_t (show nI 1 = zb true from rfl) ?_
    refine lv_goto (tgt := 17) hx hb d_M_back_13 (by decide) ?_
    refine lv_aload_n hx hb d_M_back_17 rfl (lv_at hl 1 rfl) ?_
    refine lv_iload_n hx hb d_M_back_18 rfl (lv_at hl 2 rfl) ?_
    refine lv_iconst (v := nI 2) hx hb d_M_back_19 (by decide) ?_
    refine vp_callSi (zrV (n := 2) (As := [.int v, .int (nI 2)]) (rest := [.int (zb true), .ref (n_h g)]) ⟨hx, hb, hml, hown, hk⟩ (c_M_at_ok l D t0 g z s.heap.size v 2 (by decide) hz) zk518 zk520 ks_M_at zk5 kc_M_at ⟨rfl, by decide, by decide, by decide⟩ rfl rfl ⟨Nat.le_of_ble_eq_true rfl, Nat.le_of_ble_eq_true rfl⟩ ⟨hP, hK, hD, hS, hA, hE⟩ (va_recv hK hP (ci := 2) (q0 := 0) rfl rfl) rfl hl.1 rfl (Nat.le_of_ble_eq_true rfl) d_M_back_20 ⟨Nat.le_of_ble_eq_true rfl, Nat.le_of_ble_eq_true rfl⟩).run (fun r2 hr2 => ?_)
    have hr2 : zfst (mlive z v 2) (m_many z) r2 := hr2
    rcases hr2 with ⟨rfl, hno2⟩ | ⟨j2, hj2, rfl, hlv2, -⟩
    · refine lv_if_lt (tgt := 30) hx hb d_M_back_23 (by decide) (fun h9 => ?_) (fun h9 => ?_)
      rotate_left 1
      · exact absurd (by decide) h9
      refine lv_iconst (v := nI 1) hx hb d_M_back_30 (by decide) ?_
      refine zci (zrV (n := 2) (As := [.int (zb true), .int (nI 1)]) (rest := []) ⟨hx, hb, hml, hown, hk⟩ (c_M_fails_ok l D t0 g z s.heap.size true 1) zk499 zk501 ks_M_fails zk5 kc_M_fails ⟨rfl, by decide, by decide, by decide⟩ rfl rfl ⟨Nat.le_of_ble_eq_true rfl, Nat.le_of_ble_eq_true rfl⟩ ⟨hP, hK, hD, hS, hA, hE⟩ (va_recv hK hP (ci := 2) (q0 := 0) rfl rfl) rfl hl.1 rfl (Nat.le_of_ble_eq_true rfl) d_M_back_31 ⟨Nat.le_of_ble_eq_true rfl, Nat.le_of_ble_eq_true rfl⟩) ⟨hP, hK, hD, hS, hA, hE⟩ (fun r u H locs hu hP hK hD hS => ?_)
      obtain ⟨rfl, rfl⟩ := hu
      have hP : va_P D zcl (mW g (mmk 1 (m_oct z) (m_pl z) (m_sz z) (m_sta z) (m_sin z) (m_rea z) (m_fnd z) (m_many z) (m_made z) (m_backs z) (m_lm z))) H := hP
      have hD : va_D A (mW g (mmk 1 (m_oct z) (m_pl z) (m_sz z) (m_sta z) (m_sin z) (m_rea z) (m_fnd z) (m_many z) (m_made z) (m_backs z) (m_lm z))) := hD
      have hK : va_K D zcl (mT g) s := hK
      refine lv_if_eq (tgt := 39) hx hb d_M_back_34 (by decide) (fun h9 => ?_) (fun h9 => ?_)
      · rw [zh_zb] at h9
        exact absurd h9 (by decide)
      refine lv_iconst (v := nI 0) hx hb d_M_back_37 (by decide) ?_
      exact W.iret hx hb hr (fun t ht hW => ⟨⟨_, (mu_err z 1), rfl, Or.inl ⟨1, ⟨hno1, Or.inr ⟨rfl, hno2⟩⟩, rfl⟩, by rw [ht]; exact hP, va_K.moved hW.alike hK, hD⟩, hS.F ht⟩) hS.2.2 d_M_back_38
    refine lv_if_lt (tgt := 30) hx hb d_M_back_23 (by decide) (fun h9 => ?_) (fun h9 => ?_)
    · rw [show (0 : Int32) = nI 0 from rfl, nI_ltI (by omega) (by omega)] at h9
      exact absurd h9 (by omega)
    rw [show (0 : Int32) = nI 0 from rfl, nI_ltI (by omega) (by omega)] at h9
    refine lv_iconst (v := nI 2) hx hb d_M_back_26 (by decide) ?_
    refine lv_goto (tgt := 31) hx hb d_M_back_27 (by decide) ?_
    refine zci (zrV (n := 2) (As := [.int (zb true), .int (nI 2)]) (rest := []) ⟨hx, hb, hml, hown, hk⟩ (c_M_fails_ok l D t0 g z s.heap.size true 2) zk499 zk501 ks_M_fails zk5 kc_M_fails ⟨rfl, by decide, by decide, by decide⟩ rfl rfl ⟨Nat.le_of_ble_eq_true rfl, Nat.le_of_ble_eq_true rfl⟩ ⟨hP, hK, hD, hS, hA, hE⟩ (va_recv hK hP (ci := 2) (q0 := 0) rfl rfl) rfl hl.1 rfl (Nat.le_of_ble_eq_true rfl) d_M_back_31 ⟨Nat.le_of_ble_eq_true rfl, Nat.le_of_ble_eq_true rfl⟩) ⟨hP, hK, hD, hS, hA, hE⟩ (fun r u H locs hu hP hK hD hS => ?_)
    obtain ⟨rfl, rfl⟩ := hu
    have hP : va_P D zcl (mW g (mmk 2 (m_oct z) (m_pl z) (m_sz z) (m_sta z) (m_sin z) (m_rea z) (m_fnd z) (m_many z) (m_made z) (m_backs z) (m_lm z))) H := hP
    have hD : va_D A (mW g (mmk 2 (m_oct z) (m_pl z) (m_sz z) (m_sta z) (m_sin z) (m_rea z) (m_fnd z) (m_many z) (m_made z) (m_backs z) (m_lm z))) := hD
    have hK : va_K D zcl (mT g) s := hK
    refine lv_if_eq (tgt := 39) hx hb d_M_back_34 (by decide) (fun h9 => ?_) (fun h9 => ?_)
    · rw [zh_zb] at h9
      exact absurd h9 (by decide)
    refine lv_iconst (v := nI 0) hx hb d_M_back_37 (by decide) ?_
    exact W.iret hx hb hr (fun t ht hW => ⟨⟨_, (mu_err z 2), rfl, Or.inl ⟨2, ⟨hno1, Or.inl ⟨rfl, j2, hj2, hlv2⟩⟩, rfl⟩, by rw [ht]; exact hP, va_K.moved hW.alike hK, hD⟩, hS.F ht⟩) hS.2.2 d_M_back_38
  refine lv_istore_n (lv' := [(2, .int (nI b)), (0, .ref (n_h g)), (1, .int v)]) hx hb d_M_back_6 rfl hl (by decide) rfl (fun ls hl => ?_)
  refine lv_aload_n hx hb d_M_back_7 rfl (lv_at hl 1 rfl) ?_
  refine lv_iload_n hx hb d_M_back_8 rfl (lv_at hl 0 rfl) ?_
  refine lv_if_ge (tgt := 16) hx hb d_M_back_9 (by decide) (fun h9 => ?_) (fun h9 => ?_)
  rotate_left 1
  · rw [show (0 : Int32) = nI 0 from rfl, nI_leI (by omega) (by omega)] at h9
    exact absurd h9 (by omega)
  rw [show (0 : Int32) = nI 0 from rfl, nI_leI (by omega) (by omega)] at h9
  refine lv_iconst (v := nI 0) hx hb d_M_back_16 (by decide) ?_
  refine zh_t (show nI 0 = zb false from rfl) ?_
  refine lv_aload_n hx hb d_M_back_17 rfl (lv_at hl 1 rfl) ?_
  refine lv_iload_n hx hb d_M_back_18 rfl (lv_at hl 2 rfl) ?_
  refine lv_iconst (v := nI 2) hx hb d_M_back_19 (by decide) ?_
  refine vp_callSi (zrV (n := 2) (As := [.int v, .int (nI 2)]) (rest := [.int (zb false), .ref (n_h g)]) ⟨hx, hb, hml, hown, hk⟩ (c_M_at_ok l D t0 g z s.heap.size v 2 (by decide) hz) zk518 zk520 ks_M_at zk5 kc_M_at ⟨rfl, by decide, by decide, by decide⟩ rfl rfl ⟨Nat.le_of_ble_eq_true rfl, Nat.le_of_ble_eq_true rfl⟩ ⟨hP, hK, hD, hS, hA, hE⟩ (va_recv hK hP (ci := 2) (q0 := 0) rfl rfl) rfl hl.1 rfl (Nat.le_of_ble_eq_true rfl) d_M_back_20 ⟨Nat.le_of_ble_eq_true rfl, Nat.le_of_ble_eq_true rfl⟩).run (fun r2 hr2 => ?_)
  have hr2 : zfst (mlive z v 2) (m_many z) r2 := hr2
  rcases hr2 with ⟨rfl, hno2⟩ | ⟨j2, hj2, rfl, hlv2, -⟩
  · refine lv_if_lt (tgt := 30) hx hb d_M_back_23 (by decide) (fun h9 => ?_) (fun h9 => ?_)
    rotate_left 1
    · exact absurd (by decide) h9
    refine lv_iconst (v := nI 1) hx hb d_M_back_30 (by decide) ?_
    refine zci (zrV (n := 2) (As := [.int (zb false), .int (nI 1)]) (rest := []) ⟨hx, hb, hml, hown, hk⟩ (c_M_fails_ok l D t0 g z s.heap.size false 1) zk499 zk501 ks_M_fails zk5 kc_M_fails ⟨rfl, by decide, by decide, by decide⟩ rfl rfl ⟨Nat.le_of_ble_eq_true rfl, Nat.le_of_ble_eq_true rfl⟩ ⟨hP, hK, hD, hS, hA, hE⟩ (va_recv hK hP (ci := 2) (q0 := 0) rfl rfl) rfl hl.1 rfl (Nat.le_of_ble_eq_true rfl) d_M_back_31 ⟨Nat.le_of_ble_eq_true rfl, Nat.le_of_ble_eq_true rfl⟩) ⟨hP, hK, hD, hS, hA, hE⟩ (fun r u H locs hu hP hK hD hS => ?_)
    obtain ⟨rfl, rfl⟩ := hu
    have hP : va_P D zcl (mW g (mmk 0 (m_oct z) (m_pl z) (m_sz z) (m_sta z) (m_sin z) (m_rea z) (m_fnd z) (m_many z) (m_made z) (m_backs z) (m_lm z))) H := hP
    have hD : va_D A (mW g (mmk 0 (m_oct z) (m_pl z) (m_sz z) (m_sta z) (m_sin z) (m_rea z) (m_fnd z) (m_many z) (m_made z) (m_backs z) (m_lm z))) := hD
    have hK : va_K D zcl (mT g) s := hK
    refine lv_if_eq (tgt := 39) hx hb d_M_back_34 (by decide) (fun h9 => ?_) (fun h9 => ?_)
    rotate_left 1
    · rw [zh_zb] at h9
      exact absurd rfl h9
    have hat := hz.at hb5
    refine lv_aload_n hx hb d_M_back_39 rfl (lv_at hl 1 rfl) ?_
    refine va_get (D := D) (ci := 2) (v := .ref (n_aS g)) (C := RM) (T := TM) (N := 12) hx hb hk inM hown hK hP 0 rfl rfl 3 (by decide) (hk _ zk456) (fun _ h9 => h9) rfl d_M_back_40 ?_
    refine lv_iload_n hx hb d_M_back_43 rfl (lv_at hl 0 rfl) ?_
    refine va_iald hx hb hK hP 3 2 rfl rfl (vp_in_nI (by omega) (by decide)) d_M_back_44 ?_
    refine zh_t (show nI (m_sz z (nI b).toNatClampNeg) = nI (m_sz z b) from by rw [nI_clamp (by omega)]) ?_
    refine lv_istore_n (lv' := [(3, .int (nI (m_sz z b))), (2, .int (nI b)), (0, .ref (n_h g)), (1, .int v)]) hx hb d_M_back_45 rfl hl (by decide) rfl (fun ls hl => ?_)
    refine lv_aload_n hx hb d_M_back_46 rfl (lv_at hl 2 rfl) ?_
    refine lv_iload_n hx hb d_M_back_47 rfl (lv_at hl 1 rfl) ?_
    refine zcv (zrV (n := 1) (As := [.int (nI b)]) (rest := []) ⟨hx, hb, hml, hown, hk⟩ (c_M_give_ok l D t0 g (mmk 0 (m_oct z) (m_pl z) (m_sz z) (m_sta z) (m_sin z) (m_rea z) (m_fnd z) (m_many z) (m_made z) (m_backs z) (m_lm z)) H.size b hb5 hz hbk) zk522 zk524 ks_M_give zk5 kc_M_give ⟨rfl, by decide, by decide, by decide⟩ rfl rfl ⟨Nat.le_of_ble_eq_true rfl, Nat.le_of_ble_eq_true rfl⟩ ⟨hP, hK, hD, hS, hA, hE⟩ (va_recv hK hP (ci := 2) (q0 := 0) rfl rfl) rfl hl.1 rfl (Nat.le_of_ble_eq_true rfl) d_M_back_48 ⟨Nat.le_of_ble_eq_true rfl, Nat.le_of_ble_eq_true rfl⟩) ⟨hP, hK, hD, hS, hA, hE⟩ (fun u H locs hu hP hK hD hS => ?_)
    refine lv_iload_n hx hb d_M_back_51 rfl (lv_at hl 0 rfl) ?_
    exact W.iret hx hb hr (fun t ht hW => ⟨⟨_, u, rfl, Or.inr ⟨b, hb5, hlv, rfl, hu⟩, by rw [ht]; exact hP, va_K.moved hW.alike hK, hD⟩, hS.F ht⟩) hS.2.2 d_M_back_52
  refine lv_if_lt (tgt := 30) hx hb d_M_back_23 (by decide) (fun h9 => ?_) (fun h9 => ?_)
  · rw [show (0 : Int32) = nI 0 from rfl, nI_ltI (by omega) (by omega)] at h9
    exact absurd h9 (by omega)
  rw [show (0 : Int32) = nI 0 from rfl, nI_ltI (by omega) (by omega)] at h9
  refine lv_iconst (v := nI 2) hx hb d_M_back_26 (by decide) ?_
  refine lv_goto (tgt := 31) hx hb d_M_back_27 (by decide) ?_
  refine zci (zrV (n := 2) (As := [.int (zb false), .int (nI 2)]) (rest := []) ⟨hx, hb, hml, hown, hk⟩ (c_M_fails_ok l D t0 g z s.heap.size false 2) zk499 zk501 ks_M_fails zk5 kc_M_fails ⟨rfl, by decide, by decide, by decide⟩ rfl rfl ⟨Nat.le_of_ble_eq_true rfl, Nat.le_of_ble_eq_true rfl⟩ ⟨hP, hK, hD, hS, hA, hE⟩ (va_recv hK hP (ci := 2) (q0 := 0) rfl rfl) rfl hl.1 rfl (Nat.le_of_ble_eq_true rfl) d_M_back_31 ⟨Nat.le_of_ble_eq_true rfl, Nat.le_of_ble_eq_true rfl⟩) ⟨hP, hK, hD, hS, hA, hE⟩ (fun r u H locs hu hP hK hD hS => ?_)
  obtain ⟨rfl, rfl⟩ := hu
  have hP : va_P D zcl (mW g (mmk 0 (m_oct z) (m_pl z) (m_sz z) (m_sta z) (m_sin z) (m_rea z) (m_fnd z) (m_many z) (m_made z) (m_backs z) (m_lm z))) H := hP
  have hD : va_D A (mW g (mmk 0 (m_oct z) (m_pl z) (m_sz z) (m_sta z) (m_sin z) (m_rea z) (m_fnd z) (m_many z) (m_made z) (m_backs z) (m_lm z))) := hD
  have hK : va_K D zcl (mT g) s := hK
  refine lv_if_eq (tgt := 39) hx hb d_M_back_34 (by decide) (fun h9 => ?_) (fun h9 => ?_)
  rotate_left 1
  · rw [zh_zb] at h9
    exact absurd rfl h9
  have hat := hz.at hb5
  refine lv_aload_n hx hb d_M_back_39 rfl (lv_at hl 1 rfl) ?_
  refine va_get (D := D) (ci := 2) (v := .ref (n_aS g)) (C := RM) (T := TM) (N := 12) hx hb hk inM hown hK hP 0 rfl rfl 3 (by decide) (hk _ zk456) (fun _ h9 => h9) rfl d_M_back_40 ?_
  refine lv_iload_n hx hb d_M_back_43 rfl (lv_at hl 0 rfl) ?_
  refine va_iald hx hb hK hP 3 2 rfl rfl (vp_in_nI (by omega) (by decide)) d_M_back_44 ?_
  refine zh_t (show nI (m_sz z (nI b).toNatClampNeg) = nI (m_sz z b) from by rw [nI_clamp (by omega)]) ?_
  refine lv_istore_n (lv' := [(3, .int (nI (m_sz z b))), (2, .int (nI b)), (0, .ref (n_h g)), (1, .int v)]) hx hb d_M_back_45 rfl hl (by decide) rfl (fun ls hl => ?_)
  refine lv_aload_n hx hb d_M_back_46 rfl (lv_at hl 2 rfl) ?_
  refine lv_iload_n hx hb d_M_back_47 rfl (lv_at hl 1 rfl) ?_
  refine zcv (zrV (n := 1) (As := [.int (nI b)]) (rest := []) ⟨hx, hb, hml, hown, hk⟩ (c_M_give_ok l D t0 g (mmk 0 (m_oct z) (m_pl z) (m_sz z) (m_sta z) (m_sin z) (m_rea z) (m_fnd z) (m_many z) (m_made z) (m_backs z) (m_lm z)) H.size b hb5 hz hbk) zk522 zk524 ks_M_give zk5 kc_M_give ⟨rfl, by decide, by decide, by decide⟩ rfl rfl ⟨Nat.le_of_ble_eq_true rfl, Nat.le_of_ble_eq_true rfl⟩ ⟨hP, hK, hD, hS, hA, hE⟩ (va_recv hK hP (ci := 2) (q0 := 0) rfl rfl) rfl hl.1 rfl (Nat.le_of_ble_eq_true rfl) d_M_back_48 ⟨Nat.le_of_ble_eq_true rfl, Nat.le_of_ble_eq_true rfl⟩) ⟨hP, hK, hD, hS, hA, hE⟩ (fun u H locs hu hP hK hD hS => ?_)
  refine lv_iload_n hx hb d_M_back_51 rfl (lv_at hl 0 rfl) ?_
  exact W.iret hx hb hr (fun t ht hW => ⟨⟨_, u, rfl, Or.inr ⟨b, hb5, hlv, rfl, hu⟩, by rw [ht]; exact hP, va_K.moved hW.alike hK, hD⟩, hS.F ht⟩) hS.2.2 d_M_back_52
