-- what the reference's lost() reaches
def medge (z : MT) (j k : Nat) : Prop := ∃ i : Nat, 4 * i + 4 ≤ m_sz z j ∧ mlead z (nI (zwd (m_oct z) (m_pl z j + 4 * i))) k
def mleast (z : MT) (v1 v2 : Int32) (k : Nat) : Prop := ∀ S : Nat → Prop, (∀ j : Nat, j < m_many z → mlead z v1 j → S j) → (∀ j : Nat, j < m_many z → mlead z v2 j → S j) → (∀ i j : Nat, i < m_many z → j < m_many z → S i → medge z i j → S j) → S k
def mreach (z : MT) (v1 v2 : Int32) (rs : Nat → Bool) : Prop := ∀ k : Nat, k < m_many z → (rs k = true ↔ mleast z v1 v2 k)
def mrs (z : MT) (rs : Nat → Bool) : MT := (mmk 0 (m_oct z) (m_pl z) (m_sz z) (m_sta z) (m_sin z) rs (m_fnd z) (m_many z) (m_made z) (m_backs z) (m_lm z))
def mun (z : MT) (rs : Nat → Bool) : Nat := zsum (fun k => if rs k = true then 0 else 1) (m_many z)
def mtou (z : MT) (v : Int32) (rs rs' : Nat → Bool) (b : Bool) : Prop :=
  (∀ k : Nat, rs k = true → rs' k = true) ∧ (∀ k : Nat, k < m_many z → mlead z v k → rs' k = true) ∧ (∀ k : Nat, rs' k = true → rs k = true ∨ (k < m_many z ∧ mlead z v k)) ∧ (b = false → rs' = rs) ∧ (b = true → mun z rs' < mun z rs)
theorem mtou_of {z : MT} {v : Int32} {rs : Nat → Bool} {r : Int32} {u : MT}
    (h : (r = zb false ∧ u = mrs z rs ∧ ∀ k : Nat, k < m_many (mrs z rs) → mlead (mrs z rs) v k → m_rea (mrs z rs) k = true) ∨ (∃ k : Nat, k < m_many (mrs z rs) ∧ mlead (mrs z rs) v k ∧ m_rea (mrs z rs) k = false ∧ r = zb true ∧ u = mu_rea (mrs z rs) (va_up (m_rea (mrs z rs)) k true))) (hz : mOK z) :
    ∃ (b : Bool) (rs' : Nat → Bool), r = zb b ∧ u = mrs z rs' ∧ mtou z v rs rs' b := by
  rcases h with ⟨h1, h2, h3⟩ | ⟨k, hk, hl, hr, h1, h2⟩
  · exact ⟨false, rs, h1, h2, fun _ h => h, h3, fun _ h => Or.inl h, fun _ => rfl, fun h => by cases h⟩
  · have hk : k < m_many z := hk
    have hl : mlead z v k := hl
    have hr : rs k = false := hr
    refine ⟨true, va_up rs k true, h1, h2, fun j hj => ?_, fun j hj q => ?_, fun j hj => ?_, fun h => (by cases h), fun _ => ?_⟩
    · by_cases e : j = k
      · subst e; rw [va_up_self]
      · rw [va_up_ne _ _ e]; exact hj
    · rw [mlead_one hz hj hk q hl, va_up_self]
    · by_cases e : j = k
      · subst e; exact Or.inr ⟨hk, hl⟩
      · rw [va_up_ne _ _ e] at hj; exact Or.inl hj
    · have h5 := zsum_up (f := fun j => if rs j = true then 0 else 1) (k := k) (v := 0) hk
      have e1 : (fun j => if va_up rs k true j = true then 0 else 1) = va_up (fun j => if rs j = true then 0 else 1) k 0 := by
        funext j
        by_cases e : j = k
        · subst e; rw [va_up_self, va_up_self]; rfl
        · rw [va_up_ne _ _ e, va_up_ne _ _ e]
      show zsum (fun j => if va_up rs k true j = true then 0 else 1) (m_many z) < zsum (fun j => if rs j = true then 0 else 1) (m_many z)
      rw [e1]
      have e2 : (if rs k = true then 0 else 1) = 1 := by rw [hr]; rfl
      have h5 : zsum (va_up (fun j => if rs j = true then 0 else 1) k 0) (m_many z) + (if rs k = true then 0 else 1) = zsum (fun j => if rs j = true then 0 else 1) (m_many z) + 0 := h5
      omega
theorem mleast.edge {z : MT} {v1 v2 : Int32} {j k : Nat} (hj : j < m_many z) (hk : k < m_many z) (h : mleast z v1 v2 j) (he : medge z j k) : mleast z v1 v2 k := fun S h1 h2 h3 => h3 j k hj hk (h S h1 h2 h3) he
def mI (z : MT) (v1 v2 : Int32) (rs : Nat → Bool) : Prop := (∀ k : Nat, k < m_many z → rs k = true → mleast z v1 v2 k) ∧ (∀ k : Nat, k < m_many z → mlead z v1 k → rs k = true) ∧ (∀ k : Nat, k < m_many z → mlead z v2 k → rs k = true)
def mcl (z : MT) (rs : Nat → Bool) (n : Nat) : Prop := ∀ j : Nat, j < n → rs j = true → ∀ k : Nat, k < m_many z → medge z j k → rs k = true
theorem mI.done {z : MT} {v1 v2 : Int32} {rs : Nat → Bool} (h : mI z v1 v2 rs) (hc : mcl z rs (m_many z)) : mreach z v1 v2 rs := fun k hk =>
  ⟨h.1 k hk, fun q => q (fun k => rs k = true) h.2.1 h.2.2 (fun i j hi hj hs he => hc i hi hs j hj he)⟩
theorem mI.step {z : MT} {v1 v2 v : Int32} {rs rs' : Nat → Bool} {b : Bool} (h : mI z v1 v2 rs) (ht : mtou z v rs rs' b) (hv : ∀ k : Nat, k < m_many z → mlead z v k → mleast z v1 v2 k) : mI z v1 v2 rs' :=
  ⟨fun k hk q => (ht.2.2.1 k q).elim (h.1 k hk) (fun q => hv k hk q.2), fun k hk q => ht.1 k (h.2.1 k hk q), fun k hk q => ht.1 k (h.2.2 k hk q)⟩
theorem zh_ior (a b : Bool) : zb a ||| zb b = zb (a || b) := by cases a <;> cases b <;> rfl
/-- the list of the first n cells with P -/
def mlist (P : Nat → Prop) (i n : Nat) (f : Nat → Nat) : Prop := (∀ j : Nat, j < n → ∃ y : Nat, y < i ∧ P y ∧ f j = 16 * y) ∧ (∀ y : Nat, y < i → P y → ∃ j : Nat, j < n ∧ f j = 16 * y) ∧ (∀ j k : Nat, j < k → k < n → f j < f k)
theorem mlist0 {P : Nat → Prop} {f : Nat → Nat} : mlist P 0 0 f := ⟨fun j hj => by omega, fun y hy => by omega, fun j k _ h => by omega⟩
theorem mlist.no {P : Nat → Prop} {i n : Nat} {f : Nat → Nat} (h : mlist P i n f) (hp : ¬ P i) : mlist P (i + 1) n f :=
  ⟨fun j hj => by obtain ⟨y, a, b⟩ := h.1 j hj; exact ⟨y, by omega, b⟩, fun y hy q => by
    by_cases e : y = i
    · subst e; exact absurd q hp
    · exact h.2.1 y (by omega) q, h.2.2⟩
theorem mlist.yes {P : Nat → Prop} {i n : Nat} {f : Nat → Nat} (h : mlist P i n f) (hp : P i) : mlist P (i + 1) (n + 1) (va_up f n (16 * i)) := by
  obtain ⟨h1, h2, h3⟩ := h
  refine ⟨fun j hj => ?_, fun y hy q => ?_, fun j k hjk hk => ?_⟩
  · by_cases e : j = n
    · subst e; exact ⟨i, by omega, hp, va_up_self _ _ _⟩
    · obtain ⟨y, a, b, c⟩ := h1 j (by omega)
      exact ⟨y, by omega, b, by rw [va_up_ne _ _ e]; exact c⟩
  · by_cases e : y = i
    · subst e; exact ⟨n, by omega, va_up_self _ _ _⟩
    · obtain ⟨j, a, b⟩ := h2 y (by omega) q
      exact ⟨j, by omega, by rw [va_up_ne _ _ (by omega)]; exact b⟩
  · by_cases e : k = n
    · subst e
      rw [va_up_self, va_up_ne _ _ (by omega)]
      obtain ⟨y, a, b, c⟩ := h1 j (by omega)
      omega
    · rw [va_up_ne _ _ e, va_up_ne _ _ (by omega)]
      exact h3 j k hjk (by omega)
/-- no more entries than blocks -/
theorem mlist.le {P : Nat → Prop} {i n m : Nat} {f g : Nat → Nat} (h : mlist P i n f) (hP : ∀ y : Nat, y < i → P y → ∃ k : Nat, k < m ∧ g k = 16 * y) : n ≤ m := by
  have hc : ∀ j : Nat, ∃ k : Nat, j < n → k < m ∧ g k = f j := fun j => by
    by_cases hj : j < n
    · obtain ⟨y, a, b, c⟩ := h.1 j hj
      obtain ⟨k, d, e⟩ := hP y a b
      exact ⟨k, fun _ => ⟨d, by rw [e, c]⟩⟩
    · exact ⟨0, fun q => absurd q hj⟩
  refine zpig (f := fun j => Classical.choose (hc j)) (fun j hj => (Classical.choose_spec (hc j) hj).1) (fun j k hj hk e => ?_)
  have a := (Classical.choose_spec (hc j) hj).2
  have b := (Classical.choose_spec (hc k) hk).2
  have e : Classical.choose (hc j) = Classical.choose (hc k) := e
  rw [e, b] at a
  by_cases q : j < k
  · have := h.2.2 j k q hk; omega
  · by_cases q2 : k < j
    · have := h.2.2 k j q2 hj; omega
    · omega
def mlp (z : MT) (rs : Nat → Bool) (y : Nat) : Prop := ∃ k : Nat, k < m_many z ∧ m_pl z k = 16 * y ∧ m_sta z k = 1 ∧ rs k = false
def mfin (z : MT) (rs : Nat → Bool) (n : Nat) (f : Nat → Nat) : MT := (mmk 0 (m_oct z) (m_pl z) (m_sz z) (m_sta z) (m_sin z) rs f (m_many z) (m_made z) (m_backs z) n)
set_option maxHeartbeats 1000000 in
set_option maxRecDepth 100000 in
theorem c_M_lost_ok (l : Launch) (D : va_G) (t0 : Nat) (g : MG) (z : MT) (sz : Nat) (v1 v2 : Int32) (hz : mOK z) : Met l y_M_lost w_M_lost ({ frames := 2, cells := 0, slots := 0, locals := 60 }) (zPre D t0 (mT g) (mW g z) sz [.ref (n_h g), .int v1, .int v2]) (va_Qi (fun r u => ∃ (rs : Nat → Bool) (n : Nat) (f : Nat → Nat), mreach z v1 v2 rs ∧ mlist (mlp z rs) 512 n f ∧ u = mfin z rs n f ∧ r = nI n) (fun (u : MT) t => zPost D (mT g) (va_A (mW g z) sz) (mW g u) t) (va_A (mW g z) sz)) 0 0 (va_A (mW g z) sz) := by
  refine Met.ofW (cc := c_M_lost) (maxL := 6) (ret := (some .int)) (by decide) rfl ?_
  intro p e s m args below meth c s₁ B hml hv
  obtain ⟨rfl, hsz, hP, hK, hD0, hE⟩ := hv
  have hx := B.exec
  have hb := B.bytes
  have hr := B.returns
  have hts := atoms_spec (ws := w_M_lost) B.pre
  have hk : ∀ w ∈ zB, w.before _ s = true := fun w h => hts w (List.mem_cons_of_mem _ h)
  have hown : s.vm.findClass "ZoneHeapModel" = some m.cls := findClass_of_methodNamed B.named
  have hlocks := B.notSynchronized
  subst hsz
  have hD := hD0.self (sz := s.heap.size)
  generalize hAe : va_A (mW g z) s.heap.size = A at hD hE ⊢
  have hA : ∀ q : Nat, s.heap.size ≤ q → A q := fun q h => by rw [← hAe]; exact Or.inr h
  have hS : va_S A s.heap s.heap [] := va_S.rf
  have hl := lv_entry ([.ref (n_h g), .int v1, .int v2]) (n := 6) (Nat.le_of_ble_eq_true rfl)
  rw [lg_entry_eq]
  generalize (lg_sl ([.ref (n_h g), .int v1, .int v2]) ++ List.replicate (6 - (lg_sl ([.ref (n_h g), .int v1, .int v2])).length) Slot.unset).toArray = ls at hl ⊢
  have hl : lv_has ls 6 [(0, .ref (n_h g)), (1, .int v1), (2, .int v2)] := hl
  have hm := hz.many
  refine lv_aload_n hx hb d_M_lost_0 rfl (lv_at hl 0 rfl) ?_
  refine lv_iconst (v := nI 0) hx hb d_M_lost_1 (by decide) ?_
  refine va_put (D := D) (ci := 2) (v := .int (nI 0)) (ty := .int) (C := RM) (T := TM) (N := 12) hx hb hk inM tyM okM nmM hown hK hP hD hS 0 rfl rfl 0 (by decide) (hk _ zk453) (fun _ h9 => h9) rfl (by decide +kernel) rfl rfl (Nat.le_of_ble_eq_true rfl) d_M_lost_2 (fun H locs hP hD hS => ?_)
  have hP : va_P D zcl (mW g (mmk 0 (m_oct z) (m_pl z) (m_sz z) (m_sta z) (m_sin z) (m_rea z) (m_fnd z) (m_many z) (m_made z) (m_backs z) (m_lm z))) H := hP
  have hD : va_D A (mW g (mmk 0 (m_oct z) (m_pl z) (m_sz z) (m_sta z) (m_sin z) (m_rea z) (m_fnd z) (m_many z) (m_made z) (m_backs z) (m_lm z))) := hD
  refine lv_iconst (v := nI 0) hx hb d_M_lost_5 (by decide) ?_
  refine lv_istore_n (lv' := [(3, .int (nI 0)), (0, .ref (n_h g)), (1, .int v1), (2, .int v2)]) hx hb d_M_lost_6 rfl hl (by decide) rfl (fun ls hl => ?_)
  refine zh_loopH (A := Nat × (Nat → Bool)) (fun q H locs ls => lv_has ls 6 [(0, .ref (n_h g)), (1, .int v1), (2, .int v2), (3, .int (nI q.1))] ∧ va_P D zcl (mW g (mrs z q.2)) H ∧ va_K D zcl (mT g) s ∧ va_D A (mW g (mrs z q.2)) ∧ va_S A s.heap H locs ∧ (q.1 ≤ m_many z) ∧ (∀ k : Nat, k < q.1 → q.2 k = false)) (fun q => m_many z - q.1) ?_ (0, m_rea z) ⟨lv_sub hl [1, 2, 3, 0] rfl, hP, hK, hD, hS, Nat.zero_le _, fun k hk => absurd hk (Nat.not_lt_zero _)⟩
  rintro ⟨i, rs⟩ H locs ls ⟨hl, hP, hK, hD, hS, hi, hcl⟩ ih
  have hl : lv_has ls 6 [(0, .ref (n_h g)), (1, .int v1), (2, .int v2), (3, .int (nI i))] := hl
  have hP : va_P D zcl (mW g (mrs z rs)) H := hP
  have hK : va_K D zcl (mT g) s := hK
  have hD : va_D A (mW g (mrs z rs)) := hD
  have hi : i ≤ m_many z := hi
  have hcl : ∀ k : Nat, k < i → rs k = false := hcl
  have hP : va_P D zcl (mW g (mmk 0 (m_oct z) (m_pl z) (m_sz z) (m_sta z) (m_sin z) rs (m_fnd z) (m_many z) (m_made z) (m_backs z) (m_lm z))) H := hP
  have hD : va_D A (mW g (mmk 0 (m_oct z) (m_pl z) (m_sz z) (m_sta z) (m_sin z) rs (m_fnd z) (m_many z) (m_made z) (m_backs z) (m_lm z))) := hD
  have hK : va_K D zcl (mT g) s := hK
  refine lv_iload_n hx hb d_M_lost_7 rfl (lv_at hl 3 rfl) ?_
  refine lv_aload_n hx hb d_M_lost_8 rfl (lv_at hl 0 rfl) ?_
  refine va_get (D := D) (ci := 2) (v := .int (nI (m_many z))) (C := RM) (T := TM) (N := 12) hx hb hk inM hown hK hP 0 rfl rfl 8 (by decide) (hk _ zk461) (fun _ h9 => h9) rfl d_M_lost_9 ?_
  refine lv_icmp_ge (tgt := 28) hx hb d_M_lost_12 (by decide) (fun h => ?_) (fun h => ?_)
  rotate_left 1
  · rw [nI_leI (by omega) (by omega)] at h
    refine lv_aload_n hx hb d_M_lost_15 rfl (lv_at hl 0 rfl) ?_
    refine va_get (D := D) (ci := 2) (v := .ref (n_aR g)) (C := RM) (T := TM) (N := 12) hx hb hk inM hown hK hP 0 rfl rfl 6 (by decide) (hk _ zk459) (fun _ h9 => h9) rfl d_M_lost_16 ?_
    refine lv_iload_n hx hb d_M_lost_19 rfl (lv_at hl 3 rfl) ?_
    refine lv_iconst (v := nI 0) hx hb d_M_lost_20 (by decide) ?_
    refine zh_t (show nI 0 = zb false from rfl) ?_
    refine va_zast hx hb hK hP hD hS 6 5 rfl rfl (vp_in_nI (by omega) (by decide)) d_M_lost_21 (fun H locs hP hD hS => ?_)
    rw [zh_vnar, zh_updB (by omega)] at hP hD
    have hP : va_P D zcl (mW g (mmk 0 (m_oct z) (m_pl z) (m_sz z) (m_sta z) (m_sin z) (va_up rs i false) (m_fnd z) (m_many z) (m_made z) (m_backs z) (m_lm z))) H := hP
    have hD : va_D A (mW g (mmk 0 (m_oct z) (m_pl z) (m_sz z) (m_sta z) (m_sin z) (va_up rs i false) (m_fnd z) (m_many z) (m_made z) (m_backs z) (m_lm z))) := hD
    have hP : va_P D zcl (mW g (mrs z (va_up rs i false))) H := hP
    have hD : va_D A (mW g (mrs z (va_up rs i false))) := hD
    have hK : va_K D zcl (mT g) s := hK
    refine lv_iinc (lv' := [(3, .int (nI (i + 1))), (0, .ref (n_h g)), (1, .int v1), (2, .int v2)]) (v := nI (i + 1)) hx hb d_M_lost_22 hl (k := 3) rfl (nI_add _ _) (by decide) rfl (fun ls hl => ?_)
    refine lv_goto (tgt := 7) hx hb d_M_lost_25 (by decide) ?_
    exact ih (i + 1, va_up rs i false) H locs ls ⟨lv_sub hl [1, 2, 3, 0] rfl, hP, hK, hD, hS, by dsimp only; omega, lt_s (fun k hk => by show va_up rs i false k = false; rw [va_up_ne _ _ (by omega)]; exact hcl k hk) (va_up_self _ _ _)⟩ (by show _ < _; (try dsimp only); omega)
  rw [nI_leI (by omega) (by omega)] at h
  have hP : va_P D zcl (mW g (mrs z rs)) H := hP
  have hD : va_D A (mW g (mrs z rs)) := hD
  have hK : va_K D zcl (mT g) s := hK
  have hcl : ∀ k : Nat, k < m_many z → rs k = false := fun k hk => hcl k (by omega)
  refine lv_aload_n hx hb d_M_lost_28 rfl (lv_at hl 0 rfl) ?_
  refine lv_iload_n hx hb d_M_lost_29 rfl (lv_at hl 1 rfl) ?_
  refine zci (zrV (n := 1) (As := [.int v1]) (rest := []) ⟨hx, hb, hml, hown, hk⟩ (c_M_touch_ok l D t0 g (mrs z rs) H.size v1 hz) zk566 zk568 ks_M_touch zk5 kc_M_touch ⟨rfl, by decide, by decide, by decide⟩ rfl rfl ⟨Nat.le_of_ble_eq_true rfl, Nat.le_of_ble_eq_true rfl⟩ ⟨hP, hK, hD, hS, hA, hE⟩ (va_recv hK hP (ci := 2) (q0 := 0) rfl rfl) rfl hl.1 rfl (Nat.le_of_ble_eq_true rfl) d_M_lost_30 ⟨Nat.le_of_ble_eq_true rfl, Nat.le_of_ble_eq_true rfl⟩) ⟨hP, hK, hD, hS, hA, hE⟩ (fun r9 u H locs hu hP hK hD hS => ?_)
  obtain ⟨b1, rs1, rfl, rfl, ht1⟩ := mtou_of hu hz
  have hP : va_P D zcl (mW g (mrs z rs1)) H := hP
  have hD : va_D A (mW g (mrs z rs1)) := hD
  have hK : va_K D zcl (mT g) s := hK
  refine lv_aload_n hx hb d_M_lost_33 rfl (lv_at hl 0 rfl) ?_
  refine lv_iload_n hx hb d_M_lost_34 rfl (lv_at hl 2 rfl) ?_
  refine zci (zrV (n := 1) (As := [.int v2]) (rest := [.int (zb b1)]) ⟨hx, hb, hml, hown, hk⟩ (c_M_touch_ok l D t0 g (mrs z rs1) H.size v2 hz) zk566 zk568 ks_M_touch zk5 kc_M_touch ⟨rfl, by decide, by decide, by decide⟩ rfl rfl ⟨Nat.le_of_ble_eq_true rfl, Nat.le_of_ble_eq_true rfl⟩ ⟨hP, hK, hD, hS, hA, hE⟩ (va_recv hK hP (ci := 2) (q0 := 0) rfl rfl) rfl hl.1 rfl (Nat.le_of_ble_eq_true rfl) d_M_lost_35 ⟨Nat.le_of_ble_eq_true rfl, Nat.le_of_ble_eq_true rfl⟩) ⟨hP, hK, hD, hS, hA, hE⟩ (fun r9 u H locs hu hP hK hD hS => ?_)
  obtain ⟨b2, rs2, rfl, rfl, ht2⟩ := mtou_of hu hz
  have hP : va_P D zcl (mW g (mrs z rs2)) H := hP
  have hD : va_D A (mW g (mrs z rs2)) := hD
  have hK : va_K D zcl (mT g) s := hK
  have hI2 : mI z v1 v2 rs2 := ⟨fun k hk q => (ht2.2.2.1 k q).elim (fun q => (ht1.2.2.1 k q).elim (fun q => by rw [hcl k hk] at q; cases q) (fun q S h1 h2 h3 => h1 k hk q.2)) (fun q S h1 h2 h3 => h2 k hk q.2), fun k hk q => ht2.1 k (ht1.2.1 k hk q), fun k hk q => ht2.2.1 k hk q⟩
  refine lv_ior hx hb d_M_lost_38 ?_
  refine zh_t (show ((zb b1) ||| (zb b2)) = zb (b1 || b2) from zh_ior _ _) ?_
  refine lv_istore_n (lv' := [(3, .int (zb (b1 || b2))), (0, .ref (n_h g)), (1, .int v1), (2, .int v2)]) hx hb d_M_lost_39 rfl hl (by decide) rfl (fun ls hl => ?_)
  refine zh_loopH (A := Bool × (Nat → Bool)) (fun q H locs ls => lv_has ls 6 [(0, .ref (n_h g)), (3, .int (zb q.1))] ∧ va_P D zcl (mW g (mrs z q.2)) H ∧ va_K D zcl (mT g) s ∧ va_D A (mW g (mrs z q.2)) ∧ va_S A s.heap H locs ∧ (mI z v1 v2 q.2) ∧ (q.1 = false → mcl z q.2 (m_many z))) (fun q => 2 * mun z q.2 + (if q.1 = true then 1 else 0)) ?_ (b1 || b2, rs2) ⟨lv_sub hl [1, 0] rfl, hP, hK, hD, hS, hI2, fun q => by obtain ⟨q1, q2⟩ := Bool.or_eq_false_iff.mp q; rw [ht2.2.2.2.1 q2, ht1.2.2.2.1 q1]; exact fun j hj q => by have q : rs j = true := q; rw [hcl j hj] at q; cases q⟩
  rintro ⟨mo, rs⟩ H locs ls ⟨hl, hP, hK, hD, hS, hI, hmo⟩ ih
  have hl : lv_has ls 6 [(0, .ref (n_h g)), (3, .int (zb mo))] := hl
  have hP : va_P D zcl (mW g (mrs z rs)) H := hP
  have hK : va_K D zcl (mT g) s := hK
  have hD : va_D A (mW g (mrs z rs)) := hD
  have hI : mI z v1 v2 rs := hI
  have hmo : mo = false → mcl z rs (m_many z) := hmo
  refine lv_iload_n hx hb d_M_lost_40 rfl (lv_at hl 1 rfl) ?_
  refine lv_if_eq (tgt := 121) hx hb d_M_lost_41 (by decide) (fun h => ?_) (fun h => ?_)
  rotate_left 1
  · rw [zh_zb] at h
    have hmt : mo = true := ts_nf h
    have ihw := ih
    refine lv_iconst (v := nI 0) hx hb d_M_lost_44 (by decide) ?_
    refine zh_t (show nI 0 = zb false from rfl) ?_
    refine lv_istore_n (lv' := [(3, .int (zb false)), (0, .ref (n_h g))]) hx hb d_M_lost_45 rfl hl (by decide) rfl (fun ls hl => ?_)
    refine lv_iconst (v := nI 0) hx hb d_M_lost_46 (by decide) ?_
    refine lv_istore (lv' := [(4, .int (nI 0)), (3, .int (zb false)), (0, .ref (n_h g))]) hx hb d_M_lost_47 hl (by decide) rfl (fun ls hl => ?_)
    refine zh_loopH (A := Nat × Bool × (Nat → Bool)) (fun q H locs ls => lv_has ls 6 [(0, .ref (n_h g)), (3, .int (zb q.2.1)), (4, .int (nI q.1))] ∧ va_P D zcl (mW g (mrs z q.2.2)) H ∧ va_K D zcl (mT g) s ∧ va_D A (mW g (mrs z q.2.2)) ∧ va_S A s.heap H locs ∧ (q.1 ≤ m_many z) ∧ (mI z v1 v2 q.2.2) ∧ (q.2.1 = false → q.2.2 = rs ∧ mcl z rs q.1) ∧ (q.2.1 = true → mun z q.2.2 < mun z rs)) (fun q => m_many z - q.1) ?_ (0, false, rs) ⟨lv_sub hl [2, 1, 0] rfl, hP, hK, hD, hS, Nat.zero_le _, hI, fun _ => ⟨rfl, fun j hj => absurd hj (Nat.not_lt_zero _)⟩, fun q => by cases q⟩
    rintro ⟨k, m2, rt⟩ H locs ls ⟨hl, hP, hK, hD, hS, hk5, hI3, h30, h31⟩ ih
    have hl : lv_has ls 6 [(0, .ref (n_h g)), (3, .int (zb m2)), (4, .int (nI k))] := hl
    have hP : va_P D zcl (mW g (mrs z rt)) H := hP
    have hK : va_K D zcl (mT g) s := hK
    have hD : va_D A (mW g (mrs z rt)) := hD
    have hk5 : k ≤ m_many z := hk5
    have hI3 : mI z v1 v2 rt := hI3
    have h30 : m2 = false → rt = rs ∧ mcl z rs k := h30
    have h31 : m2 = true → mun z rt < mun z rs := h31
    have hP : va_P D zcl (mW g (mmk 0 (m_oct z) (m_pl z) (m_sz z) (m_sta z) (m_sin z) rt (m_fnd z) (m_many z) (m_made z) (m_backs z) (m_lm z))) H := hP
    have hD : va_D A (mW g (mmk 0 (m_oct z) (m_pl z) (m_sz z) (m_sta z) (m_sin z) rt (m_fnd z) (m_many z) (m_made z) (m_backs z) (m_lm z))) := hD
    have hK : va_K D zcl (mT g) s := hK
    refine lv_iload hx hb d_M_lost_49 (lv_at hl 2 rfl) ?_
    refine lv_aload_n hx hb d_M_lost_51 rfl (lv_at hl 0 rfl) ?_
    refine va_get (D := D) (ci := 2) (v := .int (nI (m_many z))) (C := RM) (T := TM) (N := 12) hx hb hk inM hown hK hP 0 rfl rfl 8 (by decide) (hk _ zk461) (fun _ h9 => h9) rfl d_M_lost_52 ?_
    refine lv_icmp_ge (tgt := 118) hx hb d_M_lost_55 (by decide) (fun h2 => ?_) (fun h2 => ?_)
    · rw [nI_leI (by omega) (by omega)] at h2
      have hP : va_P D zcl (mW g (mrs z rt)) H := hP
      have hD : va_D A (mW g (mrs z rt)) := hD
      have hK : va_K D zcl (mT g) s := hK
      refine lv_goto (tgt := 40) hx hb d_M_lost_118 (by decide) ?_
      have hke : k = m_many z := by omega
      exact ihw (m2, rt) H locs ls ⟨lv_sub hl [0, 1] rfl, hP, hK, hD, hS, hI3, fun q => by rw [(h30 q).1, ← hke]; exact (h30 q).2⟩ (by show 2 * mun z rt + (if m2 = true then 1 else 0) < 2 * mun z rs + (if mo = true then 1 else 0); rw [if_pos hmt]; cases hm2 : m2 with | false => rw [(h30 hm2).1]; simp | true => have := h31 hm2; simp; omega)
    rw [nI_leI (by omega) (by omega)] at h2
    have ihk := ih
    refine lv_aload_n hx hb d_M_lost_58 rfl (lv_at hl 0 rfl) ?_
    refine va_get (D := D) (ci := 2) (v := .ref (n_aR g)) (C := RM) (T := TM) (N := 12) hx hb hk inM hown hK hP 0 rfl rfl 6 (by decide) (hk _ zk459) (fun _ h9 => h9) rfl d_M_lost_59 ?_
    refine lv_iload hx hb d_M_lost_62 (lv_at hl 2 rfl) ?_
    refine va_zald hx hb hK hP 6 5 rfl rfl (vp_in_nI (by omega) (by decide)) d_M_lost_64 ?_
    refine zh_t (show zb (rt (nI k).toNatClampNeg) = zb (rt k) from by rw [nI_clamp (by omega)]) ?_
    refine lv_if_eq (tgt := 112) hx hb d_M_lost_65 (by decide) (fun h3 => ?_) (fun h3 => ?_)
    · rw [zh_zb] at h3
      refine lv_iinc (lv' := [(4, .int (nI (k + 1))), (0, .ref (n_h g)), (3, .int (zb m2))]) (v := nI (k + 1)) hx hb d_M_lost_112 hl (k := 2) rfl (nI_add _ _) (by decide) rfl (fun ls hl => ?_)
      refine lv_goto (tgt := 49) hx hb d_M_lost_115 (by decide) ?_
      have hP : va_P D zcl (mW g (mrs z rt)) H := hP
      have hD : va_D A (mW g (mrs z rt)) := hD
      have hK : va_K D zcl (mT g) s := hK
      exact ihk (k + 1, m2, rt) H locs ls ⟨lv_sub hl [1, 2, 0] rfl, hP, hK, hD, hS, by dsimp only; omega, hI3, fun q => ⟨(h30 q).1, fun j hj hr2 => by by_cases e : j = k; (rw [e, ← (h30 q).1] at hr2; rw [h3] at hr2; cases hr2); (exact (h30 q).2 j (by have hj : j < k + 1 := hj; omega) hr2)⟩, h31⟩ (by show _ < _; (try dsimp only); omega)
    rw [zh_zb] at h3
    have hrk := ts_nf h3
    have hat := hz.at (k := k) (by omega)
    refine lv_iconst (v := nI 0) hx hb d_M_lost_68 (by decide) ?_
    refine lv_istore (lv' := [(5, .int (nI 0)), (0, .ref (n_h g)), (3, .int (zb m2)), (4, .int (nI k))]) hx hb d_M_lost_69 hl (by decide) rfl (fun ls hl => ?_)
    have hP : va_P D zcl (mW g (mrs z rt)) H := hP
    have hD : va_D A (mW g (mrs z rt)) := hD
    have hK : va_K D zcl (mT g) s := hK
    refine zh_loopH (A := Nat × Bool × (Nat → Bool)) (fun q H locs ls => lv_has ls 6 [(0, .ref (n_h g)), (3, .int (zb q.2.1)), (4, .int (nI k)), (5, .int (nI (4 * q.1)))] ∧ va_P D zcl (mW g (mrs z q.2.2)) H ∧ va_K D zcl (mT g) s ∧ va_D A (mW g (mrs z q.2.2)) ∧ va_S A s.heap H locs ∧ (4 * q.1 ≤ m_sz z k) ∧ (mI z v1 v2 q.2.2) ∧ (q.2.2 k = true) ∧ (q.2.1 = false → (m2 = false ∧ q.2.2 = rt) ∧ ∀ j : Nat, j < q.1 → ∀ y : Nat, y < m_many z → mlead z (nI (zwd (m_oct z) (m_pl z k + 4 * j))) y → q.2.2 y = true) ∧ (q.2.1 = true → mun z q.2.2 < mun z rs)) (fun q => m_sz z k - q.1) ?_ (0, m2, rt) ⟨lv_sub hl [1, 2, 3, 0] rfl, hP, hK, hD, hS, Nat.zero_le _, hI3, hrk, fun q => ⟨⟨q, rfl⟩, fun j hj => absurd hj (Nat.not_lt_zero _)⟩, h31⟩
    rintro ⟨i, m3, ru⟩ H locs ls ⟨hl, hP, hK, hD, hS, hi, hI4, hruk, h40, h41⟩ ih
    have hl : lv_has ls 6 [(0, .ref (n_h g)), (3, .int (zb m3)), (4, .int (nI k)), (5, .int (nI (4 * i)))] := hl
    have hP : va_P D zcl (mW g (mrs z ru)) H := hP
    have hK : va_K D zcl (mT g) s := hK
    have hD : va_D A (mW g (mrs z ru)) := hD
    have hi : 4 * i ≤ m_sz z k := hi
    have hI4 : mI z v1 v2 ru := hI4
    have hruk : ru k = true := hruk
    have h40 : m3 = false → (m2 = false ∧ ru = rt) ∧ ∀ j : Nat, j < i → ∀ y : Nat, y < m_many z → mlead z (nI (zwd (m_oct z) (m_pl z k + 4 * j))) y → ru y = true := h40
    have h41 : m3 = true → mun z ru < mun z rs := h41
    have hP : va_P D zcl (mW g (mmk 0 (m_oct z) (m_pl z) (m_sz z) (m_sta z) (m_sin z) ru (m_fnd z) (m_many z) (m_made z) (m_backs z) (m_lm z))) H := hP
    have hD : va_D A (mW g (mmk 0 (m_oct z) (m_pl z) (m_sz z) (m_sta z) (m_sin z) ru (m_fnd z) (m_many z) (m_made z) (m_backs z) (m_lm z))) := hD
    have hK : va_K D zcl (mT g) s := hK
    refine lv_iload hx hb d_M_lost_71 (lv_at hl 3 rfl) ?_
    refine lv_iconst (v := nI 4) hx hb d_M_lost_73 (by decide) ?_
    refine lv_iadd hx hb d_M_lost_74 ?_
    refine zh_t (show (nI (4 * i) + nI 4) = nI ((4 * i) + 4) from nI_add _ _) ?_
    refine lv_aload_n hx hb d_M_lost_75 rfl (lv_at hl 0 rfl) ?_
    refine va_get (D := D) (ci := 2) (v := .ref (n_aS g)) (C := RM) (T := TM) (N := 12) hx hb hk inM hown hK hP 0 rfl rfl 3 (by decide) (hk _ zk456) (fun _ h9 => h9) rfl d_M_lost_76 ?_
    refine lv_iload hx hb d_M_lost_79 (lv_at hl 2 rfl) ?_
    refine va_iald hx hb hK hP 3 2 rfl rfl (vp_in_nI (by omega) (by decide)) d_M_lost_81 ?_
    refine zh_t (show nI (m_sz z (nI k).toNatClampNeg) = nI (m_sz z k) from by rw [nI_clamp (by omega)]) ?_
    refine lv_icmp_gt (tgt := 112) hx hb d_M_lost_82 (by decide) (fun h4 => ?_) (fun h4 => ?_)
    · rw [nI_ltI (by omega) (by omega)] at h4
      refine lv_iinc (lv' := [(4, .int (nI (k + 1))), (0, .ref (n_h g)), (3, .int (zb m3)), (5, .int (nI (4 * i)))]) (v := nI (k + 1)) hx hb d_M_lost_112 hl (k := 2) rfl (nI_add _ _) (by decide) rfl (fun ls hl => ?_)
      refine lv_goto (tgt := 49) hx hb d_M_lost_115 (by decide) ?_
      have hP : va_P D zcl (mW g (mrs z ru)) H := hP
      have hD : va_D A (mW g (mrs z ru)) := hD
      have hK : va_K D zcl (mT g) s := hK
      exact ihk (k + 1, m3, ru) H locs ls ⟨lv_sub hl [1, 2, 0] rfl, hP, hK, hD, hS, by dsimp only; omega, hI4, fun q => by obtain ⟨⟨q1, q2⟩, q3⟩ := h40 q; obtain ⟨q4, q5⟩ := h30 q1; refine ⟨by rw [q2, q4], fun j hj hr2 y hy he => ?_⟩; by_cases e : j = k; (subst e; obtain ⟨i2, e1, e2⟩ := he; rw [← q4, ← q2]; exact q3 i2 (by omega) y hy e2); (exact q5 j (by have hj : j < k + 1 := hj; omega) hr2 y hy he), h41⟩ (by show _ < _; (try dsimp only); omega)
    rw [nI_ltI (by omega) (by omega)] at h4
    have ihi := ih
    refine lv_iload_n hx hb d_M_lost_85 rfl (lv_at hl 1 rfl) ?_
    refine lv_aload_n hx hb d_M_lost_86 rfl (lv_at hl 0 rfl) ?_
    refine lv_aload_n hx hb d_M_lost_87 rfl (lv_at hl 0 rfl) ?_
    refine lv_aload_n hx hb d_M_lost_88 rfl (lv_at hl 0 rfl) ?_
    refine va_get (D := D) (ci := 2) (v := .ref (n_aP g)) (C := RM) (T := TM) (N := 12) hx hb hk inM hown hK hP 0 rfl rfl 2 (by decide) (hk _ zk455) (fun _ h9 => h9) rfl d_M_lost_89 ?_
    refine lv_iload hx hb d_M_lost_92 (lv_at hl 2 rfl) ?_
    refine va_iald hx hb hK hP 2 1 rfl rfl (vp_in_nI (by omega) (by decide)) d_M_lost_94 ?_
    refine zh_t (show nI (m_pl z (nI k).toNatClampNeg) = nI (m_pl z k) from by rw [nI_clamp (by omega)]) ?_
    refine lv_iload hx hb d_M_lost_95 (lv_at hl 3 rfl) ?_
    refine lv_iadd hx hb d_M_lost_97 ?_
    refine zh_t (show (nI (m_pl z k) + nI (4 * i)) = nI (m_pl z k + (4 * i)) from nI_add _ _) ?_
    have hP : va_P D zcl (mW g (mrs z ru)) H := hP
    have hD : va_D A (mW g (mrs z ru)) := hD
    have hK : va_K D zcl (mT g) s := hK
    refine vp_callSi (zrV (n := 1) (As := [.int (nI (m_pl z k + (4 * i)))]) (rest := [.ref (n_h g), .int (zb m3)]) ⟨hx, hb, hml, hown, hk⟩ (c_M_word_ok l D t0 g (mrs z ru) H.size (m_pl z k + 4 * i) hz (by omega)) zk558 zk560 ks_M_word zk5 kc_M_word ⟨rfl, by decide, by decide, by decide⟩ rfl rfl ⟨Nat.le_of_ble_eq_true rfl, Nat.le_of_ble_eq_true rfl⟩ ⟨hP, hK, hD, hS, hA, hE⟩ (va_recv hK hP (ci := 2) (q0 := 0) rfl rfl) rfl hl.1 rfl (Nat.le_of_ble_eq_true rfl) d_M_lost_98 ⟨Nat.le_of_ble_eq_true rfl, Nat.le_of_ble_eq_true rfl⟩).run (fun r hr1 => ?_)
    subst hr1
    refine zh_t (y := nI (zwd (m_oct z) (m_pl z k + 4 * i))) rfl ?_
    refine zci (zrV (n := 1) (As := [.int (nI (zwd (m_oct z) (m_pl z k + 4 * i)))]) (rest := [.int (zb m3)]) ⟨hx, hb, hml, hown, hk⟩ (c_M_touch_ok l D t0 g (mrs z ru) H.size (nI (zwd (m_oct z) (m_pl z k + 4 * i))) hz) zk566 zk568 ks_M_touch zk5 kc_M_touch ⟨rfl, by decide, by decide, by decide⟩ rfl rfl ⟨Nat.le_of_ble_eq_true rfl, Nat.le_of_ble_eq_true rfl⟩ ⟨hP, hK, hD, hS, hA, hE⟩ (va_recv hK hP (ci := 2) (q0 := 0) rfl rfl) rfl hl.1 rfl (Nat.le_of_ble_eq_true rfl) d_M_lost_101 ⟨Nat.le_of_ble_eq_true rfl, Nat.le_of_ble_eq_true rfl⟩) ⟨hP, hK, hD, hS, hA, hE⟩ (fun r9 u H locs hu hP hK hD hS => ?_)
    obtain ⟨b9, rx, rfl, rfl, ht9⟩ := mtou_of hu hz
    have hP : va_P D zcl (mW g (mrs z rx)) H := hP
    have hD : va_D A (mW g (mrs z rx)) := hD
    have hK : va_K D zcl (mT g) s := hK
    have hI5 : mI z v1 v2 rx := hI4.step ht9 (fun y hy q => (hI4.1 k (by omega) hruk).edge (by omega) hy ⟨i, by omega, q⟩)
    refine lv_ior hx hb d_M_lost_104 ?_
    refine zh_t (show ((zb m3) ||| (zb b9)) = zb (m3 || b9) from zh_ior _ _) ?_
    refine lv_istore_n (lv' := [(3, .int (zb (m3 || b9))), (0, .ref (n_h g)), (4, .int (nI k)), (5, .int (nI (4 * i)))]) hx hb d_M_lost_105 rfl hl (by decide) rfl (fun ls hl => ?_)
    refine lv_iinc (lv' := [(5, .int (nI ((4 * i) + 4))), (3, .int (zb (m3 || b9))), (0, .ref (n_h g)), (4, .int (nI k))]) (v := nI ((4 * i) + 4)) hx hb d_M_lost_106 hl (k := 3) rfl (nI_add _ _) (by decide) rfl (fun ls hl => ?_)
    have hl : lv_has ls 6 [(5, .int (nI (4 * (i + 1)))), (3, .int (zb (m3 || b9))), (0, .ref (n_h g)), (4, .int (nI k))] := by rw [show 4 * (i + 1) = 4 * i + 4 by omega]; exact hl
    refine lv_goto (tgt := 71) hx hb d_M_lost_109 (by decide) ?_
    have hle : mun z ru ≤ mun z rs := by cases hm3 : m3 with | false => rw [(h40 hm3).1.2, (h30 (h40 hm3).1.1).1]; exact Nat.le_refl _ | true => exact Nat.le_of_lt (h41 hm3)
    exact ihi (i + 1, m3 || b9, rx) H locs ls ⟨lv_sub hl [2, 1, 3, 0] rfl, hP, hK, hD, hS, by dsimp only; omega, hI5, ht9.1 k hruk, fun q => by obtain ⟨q1, q2⟩ := Bool.or_eq_false_iff.mp q; obtain ⟨q3, q4⟩ := h40 q1; have e9 := ht9.2.2.2.1 q2; refine ⟨⟨q3.1, by rw [e9]; exact q3.2⟩, fun j hj y hy ql => ?_⟩; by_cases e : j = i; (subst e; exact ht9.2.1 y hy ql); (rw [e9]; exact q4 j (by have hj : j < i + 1 := hj; omega) y hy ql), fun q => by cases hb9 : b9 with | true => exact Nat.lt_of_lt_of_le (ht9.2.2.2.2 hb9) hle | false => rw [ht9.2.2.2.1 hb9]; exact h41 (by rw [hb9, Bool.or_false] at q; exact q)⟩ (by show _ < _; (try dsimp only); omega)
  rw [zh_zb] at h
  have hreach : mreach z v1 v2 rs := hI.done (hmo h)
  have hP : va_P D zcl (mW g (mmk 0 (m_oct z) (m_pl z) (m_sz z) (m_sta z) (m_sin z) rs (m_fnd z) (m_many z) (m_made z) (m_backs z) (m_lm z))) H := hP
  have hD : va_D A (mW g (mmk 0 (m_oct z) (m_pl z) (m_sz z) (m_sta z) (m_sin z) rs (m_fnd z) (m_many z) (m_made z) (m_backs z) (m_lm z))) := hD
  have hK : va_K D zcl (mT g) s := hK
  refine lv_aload_n hx hb d_M_lost_121 rfl (lv_at hl 0 rfl) ?_
  refine lv_iconst (v := nI 0) hx hb d_M_lost_122 (by decide) ?_
  refine va_put (D := D) (ci := 2) (v := .int (nI 0)) (ty := .int) (C := RM) (T := TM) (N := 12) hx hb hk inM tyM okM nmM hown hK hP hD hS 0 rfl rfl 11 (by decide) (hk _ zk464) (fun _ h9 => h9) rfl (by decide +kernel) rfl rfl (Nat.le_of_ble_eq_true rfl) d_M_lost_123 (fun H locs hP hD hS => ?_)
  have hP : va_P D zcl (mW g (mmk 0 (m_oct z) (m_pl z) (m_sz z) (m_sta z) (m_sin z) rs (m_fnd z) (m_many z) (m_made z) (m_backs z) 0)) H := hP
  have hD : va_D A (mW g (mmk 0 (m_oct z) (m_pl z) (m_sz z) (m_sta z) (m_sin z) rs (m_fnd z) (m_many z) (m_made z) (m_backs z) 0)) := hD
  refine lv_iconst (v := nI 0) hx hb d_M_lost_126 (by decide) ?_
  refine lv_istore (lv' := [(4, .int (nI 0)), (0, .ref (n_h g)), (3, .int (zb mo))]) hx hb d_M_lost_127 hl (by decide) rfl (fun ls hl => ?_)
  refine zh_loopH (A := Nat × Nat × (Nat → Nat)) (fun q H locs ls => lv_has ls 6 [(0, .ref (n_h g)), (4, .int (nI (16 * q.1)))] ∧ va_P D zcl (mW g (mfin z rs q.2.1 q.2.2)) H ∧ va_K D zcl (mT g) s ∧ va_D A (mW g (mfin z rs q.2.1 q.2.2)) ∧ va_S A s.heap H locs ∧ (q.1 ≤ 512) ∧ (mlist (mlp z rs) q.1 q.2.1 q.2.2)) (fun q => 512 - q.1) ?_ (0, 0, m_fnd z) ⟨lv_sub hl [1, 0] rfl, hP, hK, hD, hS, Nat.zero_le _, mlist0⟩
  rintro ⟨i, n, f⟩ H locs ls ⟨hl, hP, hK, hD, hS, hi, hls⟩ ih
  have hl : lv_has ls 6 [(0, .ref (n_h g)), (4, .int (nI (16 * i)))] := hl
  have hP : va_P D zcl (mW g (mfin z rs n f)) H := hP
  have hK : va_K D zcl (mT g) s := hK
  have hD : va_D A (mW g (mfin z rs n f)) := hD
  have hi : i ≤ 512 := hi
  have hls : mlist (mlp z rs) i n f := hls
  have hnm : n ≤ m_many z := hls.le (g := m_pl z) (fun y _ q => by obtain ⟨k, a, b, -⟩ := q; exact ⟨k, a, b⟩)
  have hP : va_P D zcl (mW g (mmk 0 (m_oct z) (m_pl z) (m_sz z) (m_sta z) (m_sin z) rs f (m_many z) (m_made z) (m_backs z) n)) H := hP
  have hD : va_D A (mW g (mmk 0 (m_oct z) (m_pl z) (m_sz z) (m_sta z) (m_sin z) rs f (m_many z) (m_made z) (m_backs z) n)) := hD
  have hK : va_K D zcl (mT g) s := hK
  refine lv_iload hx hb d_M_lost_129 (lv_at hl 1 rfl) ?_
  refine lv_sipush (v := nI 8192) hx hb d_M_lost_131 (by decide) ?_
  refine lv_icmp_ge (tgt := 185) hx hb d_M_lost_134 (by decide) (fun h2 => ?_) (fun h2 => ?_)
  · rw [nI_leI (by omega) (by omega)] at h2
    have hie : i = 512 := by omega
    refine lv_aload_n hx hb d_M_lost_185 rfl (lv_at hl 0 rfl) ?_
    refine va_get (D := D) (ci := 2) (v := .int (nI n)) (C := RM) (T := TM) (N := 12) hx hb hk inM hown hK hP 0 rfl rfl 11 (by decide) (hk _ zk464) (fun _ h9 => h9) rfl d_M_lost_186 ?_
    exact W.iret hx hb hr (fun t ht hW => ⟨⟨_, (mfin z rs n f), rfl, ⟨rs, n, f, hreach, by rw [← hie]; exact hls, rfl, rfl⟩, by rw [ht]; exact hP, va_K.moved hW.alike hK, hD⟩, hS.F ht⟩) hS.2.2 d_M_lost_189
  rw [nI_leI (by omega) (by omega)] at h2
  refine lv_aload_n hx hb d_M_lost_137 rfl (lv_at hl 0 rfl) ?_
  refine lv_iload hx hb d_M_lost_138 (lv_at hl 1 rfl) ?_
  refine lv_iconst (v := nI 1) hx hb d_M_lost_140 (by decide) ?_
  have hz9 : mOK (mmk 0 (m_oct z) (m_pl z) (m_sz z) (m_sta z) (m_sin z) rs f (m_many z) (m_made z) (m_backs z) n) := ⟨hz.1, hz.2.1, hz.2.2.1, by show n ≤ 255; omega, hz.2.2.2.2⟩
  refine vp_callSi (zrV (n := 2) (As := [.int (nI (16 * i)), .int (nI 1)]) (rest := []) ⟨hx, hb, hml, hown, hk⟩ (c_M_at_ok l D t0 g (mmk 0 (m_oct z) (m_pl z) (m_sz z) (m_sta z) (m_sin z) rs f (m_many z) (m_made z) (m_backs z) n) H.size (nI (16 * i)) 1 (by decide) hz9) zk518 zk520 ks_M_at zk5 kc_M_at ⟨rfl, by decide, by decide, by decide⟩ rfl rfl ⟨Nat.le_of_ble_eq_true rfl, Nat.le_of_ble_eq_true rfl⟩ ⟨hP, hK, hD, hS, hA, hE⟩ (va_recv hK hP (ci := 2) (q0 := 0) rfl rfl) rfl hl.1 rfl (Nat.le_of_ble_eq_true rfl) d_M_lost_141 ⟨Nat.le_of_ble_eq_true rfl, Nat.le_of_ble_eq_true rfl⟩).run (fun r hr1 => ?_)
  have hr1 : zfst (mlive z (nI (16 * i)) 1) (m_many z) r := hr1
  rcases hr1 with ⟨rfl, hno1⟩ | ⟨b, hb5, rfl, hlv, hfirst⟩
  · refine lv_istore (lv' := [(5, .int ((-1))), (0, .ref (n_h g)), (4, .int (nI (16 * i)))]) hx hb d_M_lost_144 hl (by decide) rfl (fun ls hl => ?_)
    refine lv_iload hx hb d_M_lost_146 (lv_at hl 0 rfl) ?_
    refine lv_if_lt (tgt := 179) hx hb d_M_lost_148 (by decide) (fun h9 => ?_) (fun h9 => ?_)
    rotate_left 1
    · exact absurd (by decide) h9
    refine lv_iinc (lv' := [(4, .int (nI ((16 * i) + 16))), (5, .int ((-1))), (0, .ref (n_h g))]) (v := nI ((16 * i) + 16)) hx hb d_M_lost_179 hl (k := 2) rfl (nI_add _ _) (by decide) rfl (fun ls hl => ?_)
    have hl : lv_has ls 6 [(4, .int (nI (16 * (i + 1)))), (5, .int ((-1))), (0, .ref (n_h g))] := by rw [show 16 * (i + 1) = 16 * i + 16 by omega]; exact hl
    refine lv_goto (tgt := 129) hx hb d_M_lost_182 (by decide) ?_
    have hP : va_P D zcl (mW g (mfin z rs n f)) H := hP
    have hD : va_D A (mW g (mfin z rs n f)) := hD
    have hK : va_K D zcl (mT g) s := hK
    exact ih (i + 1, n, f) H locs ls ⟨lv_sub hl [2, 0] rfl, hP, hK, hD, hS, by dsimp only; omega, hls.no (fun q => by obtain ⟨k, a, b, d, -⟩ := q; exact hno1 k a ⟨by rw [b], d⟩)⟩ (by show _ < _; (try dsimp only); omega)
  have hat := hz.at hb5
  have hpb : m_pl z b = 16 * i := (nI_eq (by omega) (by omega)).mp hlv.1
  refine lv_istore (lv' := [(5, .int (nI b)), (0, .ref (n_h g)), (4, .int (nI (16 * i)))]) hx hb d_M_lost_144 hl (by decide) rfl (fun ls hl => ?_)
  refine lv_iload hx hb d_M_lost_146 (lv_at hl 0 rfl) ?_
  refine lv_if_lt (tgt := 179) hx hb d_M_lost_148 (by decide) (fun h9 => ?_) (fun h9 => ?_)
  · rw [show (0 : Int32) = nI 0 from rfl, nI_ltI (by omega) (by omega)] at h9
    exact absurd h9 (by omega)
  rw [show (0 : Int32) = nI 0 from rfl, nI_ltI (by omega) (by omega)] at h9
  refine lv_aload_n hx hb d_M_lost_151 rfl (lv_at hl 1 rfl) ?_
  refine va_get (D := D) (ci := 2) (v := .ref (n_aR g)) (C := RM) (T := TM) (N := 12) hx hb hk inM hown hK hP 0 rfl rfl 6 (by decide) (hk _ zk459) (fun _ h9 => h9) rfl d_M_lost_152 ?_
  refine lv_iload hx hb d_M_lost_155 (lv_at hl 0 rfl) ?_
  refine va_zald hx hb hK hP 6 5 rfl rfl (vp_in_nI (by omega) (by decide)) d_M_lost_157 ?_
  refine zh_t (show zb (rs (nI b).toNatClampNeg) = zb (rs b) from by rw [nI_clamp (by omega)]) ?_
  refine lv_if_ne (tgt := 179) hx hb d_M_lost_158 (by decide) (fun h3 => ?_) (fun h3 => ?_)
  · rw [zh_zb] at h3
    refine lv_iinc (lv' := [(4, .int (nI ((16 * i) + 16))), (5, .int (nI b)), (0, .ref (n_h g))]) (v := nI ((16 * i) + 16)) hx hb d_M_lost_179 hl (k := 2) rfl (nI_add _ _) (by decide) rfl (fun ls hl => ?_)
    have hl : lv_has ls 6 [(4, .int (nI (16 * (i + 1)))), (5, .int (nI b)), (0, .ref (n_h g))] := by rw [show 16 * (i + 1) = 16 * i + 16 by omega]; exact hl
    refine lv_goto (tgt := 129) hx hb d_M_lost_182 (by decide) ?_
    have hP : va_P D zcl (mW g (mfin z rs n f)) H := hP
    have hD : va_D A (mW g (mfin z rs n f)) := hD
    have hK : va_K D zcl (mT g) s := hK
    exact ih (i + 1, n, f) H locs ls ⟨lv_sub hl [2, 0] rfl, hP, hK, hD, hS, by dsimp only; omega, hls.no (fun q => by obtain ⟨k, a, b2, d, e2⟩ := q; have ebk : k = b := mlead_one hz a hb5 (v := nI (16 * i)) ⟨d, Or.inl (by rw [b2])⟩ ⟨hlv.2, Or.inl hlv.1.symm⟩; rw [ebk] at e2; exact h3 e2)⟩ (by show _ < _; (try dsimp only); omega)
  rw [zh_zb] at h3
  refine lv_aload_n hx hb d_M_lost_161 rfl (lv_at hl 1 rfl) ?_
  refine va_get (D := D) (ci := 2) (v := .ref (n_aF g)) (C := RM) (T := TM) (N := 12) hx hb hk inM hown hK hP 0 rfl rfl 7 (by decide) (hk _ zk460) (fun _ h9 => h9) rfl d_M_lost_162 ?_
  refine lv_aload_n hx hb d_M_lost_165 rfl (lv_at hl 1 rfl) ?_
  refine lv_dup hx hb d_M_lost_166 rfl ?_
  refine va_get (D := D) (ci := 2) (v := .int (nI n)) (C := RM) (T := TM) (N := 12) hx hb hk inM hown hK hP 0 rfl rfl 11 (by decide) (hk _ zk464) (fun _ h9 => h9) rfl d_M_lost_167 ?_
  refine lv_dup_x1 hx hb d_M_lost_170 rfl rfl ?_
  refine lv_iconst (v := nI 1) hx hb d_M_lost_171 (by decide) ?_
  refine lv_iadd hx hb d_M_lost_172 ?_
  refine zh_t (show (nI n + nI 1) = nI (n + 1) from nI_add _ _) ?_
  refine va_put (D := D) (ci := 2) (v := .int (nI (n + 1))) (ty := .int) (C := RM) (T := TM) (N := 12) hx hb hk inM tyM okM nmM hown hK hP hD hS 0 rfl rfl 11 (by decide) (hk _ zk464) (fun _ h9 => h9) rfl (by decide +kernel) rfl rfl (Nat.le_of_ble_eq_true rfl) d_M_lost_173 (fun H locs hP hD hS => ?_)
  have hP : va_P D zcl (mW g (mmk 0 (m_oct z) (m_pl z) (m_sz z) (m_sta z) (m_sin z) rs f (m_many z) (m_made z) (m_backs z) (n + 1))) H := hP
  have hD : va_D A (mW g (mmk 0 (m_oct z) (m_pl z) (m_sz z) (m_sta z) (m_sin z) rs f (m_many z) (m_made z) (m_backs z) (n + 1))) := hD
  refine lv_iload hx hb d_M_lost_176 (lv_at hl 2 rfl) ?_
  refine va_iast hx hb hK hP hD hS 7 6 rfl rfl (vp_in_nI (by omega) (by decide)) d_M_lost_178 (fun H locs hP hD hS => ?_)
  rw [zh_upd (by omega)] at hP hD
  have hP : va_P D zcl (mW g (mmk 0 (m_oct z) (m_pl z) (m_sz z) (m_sta z) (m_sin z) rs (va_up f n (16 * i)) (m_many z) (m_made z) (m_backs z) (n + 1))) H := hP
  have hD : va_D A (mW g (mmk 0 (m_oct z) (m_pl z) (m_sz z) (m_sta z) (m_sin z) rs (va_up f n (16 * i)) (m_many z) (m_made z) (m_backs z) (n + 1))) := hD
  refine lv_iinc (lv' := [(4, .int (nI ((16 * i) + 16))), (5, .int (nI b)), (0, .ref (n_h g))]) (v := nI ((16 * i) + 16)) hx hb d_M_lost_179 hl (k := 2) rfl (nI_add _ _) (by decide) rfl (fun ls hl => ?_)
  have hl : lv_has ls 6 [(4, .int (nI (16 * (i + 1)))), (5, .int (nI b)), (0, .ref (n_h g))] := by rw [show 16 * (i + 1) = 16 * i + 16 by omega]; exact hl
  refine lv_goto (tgt := 129) hx hb d_M_lost_182 (by decide) ?_
  have hP : va_P D zcl (mW g (mfin z rs (n + 1) (va_up f n (16 * i)))) H := hP
  have hD : va_D A (mW g (mfin z rs (n + 1) (va_up f n (16 * i)))) := hD
  have hK : va_K D zcl (mT g) s := hK
  exact ih (i + 1, n + 1, va_up f n (16 * i)) H locs ls ⟨lv_sub hl [2, 0] rfl, hP, hK, hD, hS, by dsimp only; omega, hls.yes ⟨b, hb5, hpb, hlv.2, h3⟩⟩ (by show _ < _; (try dsimp only); omega)
