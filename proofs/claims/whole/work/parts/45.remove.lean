/-- the first element goes -/
def zrm (f : Nat → Option Nat) (n : Nat) : Nat → Option Nat := fun j => if j < n - 1 then f (j + 1) else if j = n - 1 then none else f j
theorem zrm_1 {f : Nat → Option Nat} : va_up f 0 none = zrm f 1 := by
  funext j
  unfold va_up zrm
  by_cases e : j = 0
  · rw [if_pos e, if_neg (by omega)]
  · rw [if_neg e, if_neg (by omega)]
theorem zrm_2 {f : Nat → Option Nat} {n : Nat} (h : n = 1) : va_up f (n - 1) none = zrm f n := by
  subst h
  exact zrm_1
theorem zrm_n {f : Nat → Option Nat} {n : Nat} (hn : 2 ≤ n) : va_up (va_cpy f f 1 0 (n - 1)) (n - 1) none = zrm f n := by
  funext j
  unfold va_up zrm va_cpy
  by_cases e : j = n - 1
  · rw [if_pos e, if_neg (by omega), if_pos e]
  · rw [if_neg e]
    by_cases h : j < n - 1
    · rw [if_pos (by omega), if_pos h]
      congr 1
      omega
    · rw [if_neg (by omega), if_neg h, if_neg e]
theorem zkl_rm {b : Nat} {kr : List Nat} : zrm (fun j => (b :: kr)[j]?) (kr.length + 1) = fun j => kr[j]? := by
  funext j
  unfold zrm
  by_cases h : j < kr.length + 1 - 1
  · rw [if_pos h]
    rfl
  · rw [if_neg h]
    by_cases e : j = kr.length + 1 - 1
    · rw [if_pos e, List.getElem?_eq_none (by omega)]
    · rw [if_neg e]
      show (b :: kr)[j]? = kr[j]?
      rw [List.getElem?_eq_none (l := b :: kr) (i := j) (by rw [List.length_cons]; omega), List.getElem?_eq_none (l := kr) (i := j) (by omega)]
theorem zkl_add {kl : List Nat} {b : Nat} : va_up (fun j => kl[j]?) kl.length (some b) = fun j => (kl ++ [b])[j]? := by
  funext j
  unfold va_up
  by_cases e : j = kl.length
  · rw [if_pos e, e]
    simp
  · rw [if_neg e]
    by_cases h : j < kl.length
    · rw [List.getElem?_append_left h]
    · show kl[j]? = (kl ++ [b])[j]?
      rw [List.getElem?_eq_none (l := kl) (i := j) (by omega), List.getElem?_eq_none (l := kl ++ [b]) (i := j) (by rw [List.length_append]; simp only [List.length_singleton]; omega)]
theorem zwe_pos {z : ZT} (hc : z_cap z ≠ 0) : zwe z = [(z_aE z, .inl (z_cE z, zRo (z_cap z) (fun j => (z_kl z)[j]?)))] ∧ zwt z = [(z_cE z, .object "java/lang/Object")] ∧ ∀ t0 : Nat, zeR t0 z = z_aE z := by
  obtain ⟨n, hn⟩ : ∃ n, z_cap z = n + 1 := ⟨z_cap z - 1, by omega⟩
  unfold zwe zwt zeR
  rw [hn]
  exact ⟨rfl, rfl, fun _ => rfl⟩
theorem zW_pos {t0 : Nat} {g : ZG} {z : ZT} (hc : z_cap z ≠ 0) : zW t0 g z = zWL g z (z_md z) (z_aE z) (z_kl z).length [(z_aE z, .inl (z_cE z, zRo (z_cap z) (fun j => (z_kl z)[j]?)))] := by
  rw [zW_L, (zwe_pos hc).1, (zwe_pos hc).2.2]
theorem zT_pos {g : ZG} {z : ZT} (hc : z_cap z ≠ 0) : zT g z = zTL g [(z_cE z, .object "java/lang/Object")] := by
  rw [zT_L, (zwe_pos hc).2.1]
theorem zW_zero {t0 : Nat} {g : ZG} {z : ZT} (hc : z_cap z = 0) (hk : z_kl z = []) : zW t0 g z = zWL g z (z_md z) t0 0 [] := by
  have h1 : zwe z = [] := by unfold zwe; rw [hc]
  have h2 : zeR t0 z = t0 := by unfold zeR; rw [hc]
  rw [zW_L, h1, h2, hk]
  rfl
theorem zT_zero {g : ZG} {z : ZT} (hc : z_cap z = 0) : zT g z = zTL g [] := by
  have h1 : zwt z = [] := by unfold zwt; rw [hc]
  rw [zT_L, h1]
theorem zMet_imp {l : Launch} {y : MethodName} {ws : List Cond} {rm : Room} {Pc : Array Value → State → Prop} {Qc Qc' : Array Value → State → Outcome → State → Prop} {mc ms : Nat} {free : Addr → Prop} (h : Met l y ws rm Pc Qc mc ms free) (hq : ∀ a st o t, Qc a st o t → Qc' a st o t) : Met l y ws rm Pc Qc' mc ms free := fun p e ha hc hk s m args below hf happ hp hK => by
  obtain ⟨n, o, h1, h2, h3, h4, h5⟩ := h p e ha hc hk s m args below hf happ hp hK
  exact ⟨n, o, h1, h2, h3, hq _ _ _ _ h4, h5⟩
def zq_add (z : ZT) (b : Nat) (cE : ClassId) (aE cap : Nat) : ZT := (zmk (z_oct z) (z_tk z) (z_ko z) (z_lb z) (z_lo z) (z_mb z) (z_rb z) (z_rn z) (z_lf z) (z_ln z) (z_md z + 1) cE aE cap (z_kl z ++ [b]) (z_LB z) (z_bs z) (z_bz z) (z_kp z) (z_rc z))
theorem zW_add {t0 : Nat} {g : ZG} {z : ZT} {b aE cap : Nat} {cE : ClassId} (hc : cap ≠ 0) : zWL g z (z_md z + 1) aE ((z_kl z).length + 1) [(aE, .inl (cE, zRo cap (va_up (fun j => (z_kl z)[j]?) (z_kl z).length (some b))))] = zW t0 g (zq_add z b cE aE cap) := by
  rw [zW_pos (z := zq_add z b cE aE cap) hc, zkl_add]
  show zWL g z (z_md z + 1) aE ((z_kl z).length + 1) _ = zWL g z (z_md z + 1) aE (z_kl z ++ [b]).length _
  rw [List.length_append]
  rfl
set_option maxHeartbeats 1000000 in
theorem c_A_add_ok (l : Launch) (D : va_G) (t0 : Nat) (g : ZG) (z : ZT) (sz : Nat) (b : Nat) (hb : b ∈ z_LB z) (hz : zOK z) : Met l y_A_add w_A_add ({ frames := 6, cells := 1, slots := 1000, locals := 210 }) (zPre D t0 (zT g z) (zW t0 g z) sz [.ref (g_aK g), .ref b]) (va_Qi (fun _ u => ∃ (cE : ClassId) (aE cap : Nat), u = zq_add z b cE aE cap ∧ (z_kl z).length + 1 ≤ cap ∧ 2 ≤ cap ∧ cap < 1000) (fun (u : ZT) t => zPost D (zT g u) (va_A (zW t0 g z) sz) (zW t0 g u) t) (va_A (zW t0 g z) sz)) 1 1000 (va_A (zW t0 g z) sz) := by
  obtain ⟨-, -, -, -, -, -, h7, h8, h9, h10, h11⟩ := hz
  by_cases hc : z_cap z = 0
  · have hk : z_kl z = [] := List.length_eq_zero_iff.mp (by omega)
    rw [zW_zero hc hk, zT_zero hc]
    refine zMet_imp (c_A_add_first l D t0 g z sz (z_md z) b hb) (fun a st o t h => ?_)
    obtain ⟨⟨r, u, e1, -, hP, hK, hD⟩, hF⟩ := h
    have e : zWL g z (z_md z + 1) u.1 (0 + 1) [(u.1, .inl (u.2, zRo 10 (va_up (fun _ => none) 0 (some b))))] = zW t0 g (zq_add z b u.2 u.1 10) := by
      have h1 := zW_add (t0 := t0) (g := g) (z := z) (b := b) (aE := u.1) (cap := 10) (cE := u.2) (by decide)
      rw [hk] at h1
      exact h1
    rw [e] at hP hD
    exact ⟨⟨r, zq_add z b u.2 u.1 10, e1, ⟨u.2, u.1, 10, rfl, by rw [hk]; decide, by decide, by decide⟩, hP, by rw [zT_pos (z := zq_add z b u.2 u.1 10) (show (10 : Nat) ≠ 0 by decide)]; exact hK, hD⟩, hF⟩
  · by_cases hfull : (z_kl z).length = z_cap z
    · rw [zW_pos hc, zT_pos hc]
      have hW9 := fun (aE cap : Nat) (cE : ClassId) (h : cap ≠ 0) => zW_add (t0 := t0) (g := g) (z := z) (b := b) (aE := aE) (cap := cap) (cE := cE) h
      rw [hfull] at hW9 ⊢
      refine zMet_imp (c_A_add_full l D t0 g z sz (z_md z) (z_aE z) (z_cap z) (z_cE z) (fun j => (z_kl z)[j]?) (by omega) (by omega) (fun i hi => List.getElem?_eq_none (by omega)) (fun i y hy => h7 y (List.mem_of_getElem? hy)) b hb) (fun a st o t h => ?_)
      obtain ⟨⟨r, u, e1, -, hP, hK, hD⟩, hF⟩ := h
      rw [hW9 _ _ _ (by omega)] at hP hD
      exact ⟨⟨r, zq_add z b u.2 u.1 (z_cap z + z_cap z / 2), e1, ⟨u.2, u.1, z_cap z + z_cap z / 2, rfl, by omega, by omega, by omega⟩, hP, by rw [zT_pos (z := zq_add z b u.2 u.1 (z_cap z + z_cap z / 2)) (show z_cap z + z_cap z / 2 ≠ 0 by omega)]; exact hK, hD⟩, hF⟩
    · rw [zW_pos hc, zT_pos hc]
      refine zMet_imp (c_A_add_room l D t0 g z sz (z_md z) (z_aE z) (z_kl z).length (z_cap z) (z_cE z) (fun j => (z_kl z)[j]?) (by omega) (by omega) b hb) (fun a st o t h => ?_)
      obtain ⟨⟨r, u, e1, -, hP, hK, hD⟩, hF⟩ := h
      rw [zW_add (t0 := t0) hc] at hP hD
      exact ⟨⟨r, zq_add z b u.2 u.1 (z_cap z), e1, ⟨u.2, u.1, z_cap z, rfl, by omega, by omega, by omega⟩, hP, by rw [zT_pos (z := zq_add z b u.2 u.1 (z_cap z)) (show z_cap z ≠ 0 from hc)]; exact hK, hD⟩, hF⟩
set_option maxHeartbeats 1000000 in
set_option maxRecDepth 100000 in
theorem c_A_fastRemove_ok (l : Launch) (D : va_G) (t0 : Nat) (g : ZG) (z : ZT) (sz : Nat) (md : Int32) (a n n1 : Nat) (cE : ClassId) (f : Nat → Option Nat) (hn : 1 ≤ n) (hn1 : n ≤ n1) (hn2 : n1 < 1000) (hfl : ∀ i y : Nat, f i = some y → y ∈ z_LB z) : Met l y_A_fastRemove w_A_fastRemove ({ frames := 1, cells := 0, slots := 0, locals := 60 }) (zPre D t0 (zTL g [(cE, .object "java/lang/Object")]) (zWL g z md a n [(a, .inl (cE, zRo n1 f))]) sz [.ref (g_aK g), .ref a, .int (nI 0)]) (va_Qv (fun _ => True) (fun (u : Unit) t => zPost D (zTL g [(cE, .object "java/lang/Object")]) (va_A (zWL g z md a n [(a, .inl (cE, zRo n1 f))]) sz) (zWL g z (md + 1) a (n - 1) [(a, .inl (cE, zRo n1 (zrm f n)))]) t) (va_A (zWL g z md a n [(a, .inl (cE, zRo n1 f))]) sz)) 0 0 (va_A (zWL g z md a n [(a, .inl (cE, zRo n1 f))]) sz) := by
  refine Met.ofW (cc := c_A_fastRemove) (maxL := 4) (ret := none) (by decide) rfl ?_
  intro p e s m args below meth c s₁ B hml hv
  obtain ⟨rfl, hsz, hP, hK, hD0, hE⟩ := hv
  have hx := B.exec
  have hb := B.bytes
  have hr := B.returns
  have hts := atoms_spec (ws := w_A_fastRemove) B.pre
  have hk : ∀ w ∈ zB, w.before _ s = true := fun w h => hts w (List.mem_cons_of_mem _ h)
  have hown : s.vm.findClass "java/util/ArrayList" = some m.cls := findClass_of_methodNamed B.named
  have hlocks := B.notSynchronized
  subst hsz
  have hD := hD0.self (sz := s.heap.size)
  generalize hAe : va_A (zWL g z md a n [(a, .inl (cE, zRo n1 f))]) s.heap.size = A at hD hE ⊢
  have hA : ∀ q : Nat, s.heap.size ≤ q → A q := fun q h => by rw [← hAe]; exact Or.inr h
  have hS : va_S A s.heap s.heap [] := va_S.rf
  have hl := lv_entry ([.ref (g_aK g), .ref a, .int (nI 0)]) (n := 4) (Nat.le_of_ble_eq_true rfl)
  rw [lg_entry_eq]
  generalize (lg_sl ([.ref (g_aK g), .ref a, .int (nI 0)]) ++ List.replicate (4 - (lg_sl ([.ref (g_aK g), .ref a, .int (nI 0)])).length) Slot.unset).toArray = ls at hl ⊢
  have hl : lv_has ls 4 [(0, .ref (g_aK g)), (1, .ref a), (2, .int (nI 0))] := hl
  refine lv_aload_n hx hb d_A_fastRemove_0 rfl (lv_at hl 0 rfl) ?_
  refine lv_dup hx hb d_A_fastRemove_1 rfl ?_
  refine va_get (D := D) (ci := 3) (v := .int md) (C := RA) (T := TA) (N := 3) hx hb hk inA hown hK hP 3 rfl rfl 0 (by decide) (hk _ zk46) (fun x9 h9 => u_same (hk _ zk47) x9 h9) rfl d_A_fastRemove_2 ?_
  refine lv_iconst (v := nI 1) hx hb d_A_fastRemove_5 (by decide) ?_
  refine lv_iadd hx hb d_A_fastRemove_6 ?_
  refine zh_t (show md + nI 1 = md + 1 from rfl) ?_
  refine va_put (D := D) (ci := 3) (v := .int (md + 1)) (ty := .int) (C := RA) (T := TA) (N := 3) hx hb hk inA tyA okA nmA hown hK hP hD hS 3 rfl rfl 0 (by decide) (hk _ zk46) (fun x9 h9 => u_same (hk _ zk47) x9 h9) rfl (by decide +kernel) rfl rfl (Nat.le_of_ble_eq_true rfl) d_A_fastRemove_7 (fun H locs hP hD hS => ?_)
  have hP : va_P D zcl (zWL g z (md + 1) a n [(a, .inl (cE, zRo n1 f))]) H := hP
  have hD : va_D A (zWL g z (md + 1) a n [(a, .inl (cE, zRo n1 f))]) := hD
  have hK : va_K D zcl (zTL g [(cE, .object "java/lang/Object")]) s := hK
  refine lv_aload_n hx hb d_A_fastRemove_10 rfl (lv_at hl 0 rfl) ?_
  refine va_get (D := D) (ci := 3) (v := .int (nI n)) (C := RA) (T := TA) (N := 3) hx hb hk inA hown hK hP 3 rfl rfl 2 (by decide) (hk _ zk44) (fun _ h9 => h9) rfl d_A_fastRemove_11 ?_
  refine lv_iconst (v := nI 1) hx hb d_A_fastRemove_14 (by decide) ?_
  refine lv_isub hx hb d_A_fastRemove_15 ?_
  refine zh_t (show (nI n - nI 1) = nI (n - 1) from pk_sub (by omega)) ?_
  refine lv_dup hx hb d_A_fastRemove_16 rfl ?_
  refine lv_istore_n (lv' := [(3, .int (nI (n - 1))), (0, .ref (g_aK g)), (1, .ref a), (2, .int (nI 0))]) hx hb d_A_fastRemove_17 rfl hl (by decide) rfl (fun ls hl => ?_)
  refine lv_iload_n hx hb d_A_fastRemove_18 rfl (lv_at hl 3 rfl) ?_
  refine lv_icmp_le (tgt := 34) hx hb d_A_fastRemove_19 (by decide) (fun h => ?_) (fun h => ?_)
  · rw [nI_leI (by omega) (by omega)] at h
    refine lv_aload_n hx hb d_A_fastRemove_34 rfl (lv_at hl 2 rfl) ?_
    refine lv_aload_n hx hb d_A_fastRemove_35 rfl (lv_at hl 1 rfl) ?_
    refine lv_iload_n hx hb d_A_fastRemove_36 rfl (lv_at hl 0 rfl) ?_
    refine lv_dup_x1 hx hb d_A_fastRemove_37 rfl rfl ?_
    refine va_put (D := D) (ci := 3) (v := .int (nI (n - 1))) (ty := .int) (C := RA) (T := TA) (N := 3) hx hb hk inA tyA okA nmA hown hK hP hD hS 3 rfl rfl 2 (by decide) (hk _ zk44) (fun _ h9 => h9) rfl (by decide +kernel) rfl rfl (Nat.le_of_ble_eq_true rfl) d_A_fastRemove_38 (fun H locs hP hD hS => ?_)
    have hP : va_P D zcl (zWL g z (md + 1) a (n - 1) [(a, .inl (cE, zRo n1 f))]) H := hP
    have hD : va_D A (zWL g z (md + 1) a (n - 1) [(a, .inl (cE, zRo n1 f))]) := hD
    refine lv_null hx hb d_A_fastRemove_41 ?_
    refine va_astqN hx hb hK hP hD hS 6 4 rfl rfl (vp_in_nI (by omega) (by omega)) d_A_fastRemove_42 (fun H locs hP hD hS => ?_)
    rw [nI_clamp (n := n - 1) (by omega)] at hP hD
    rw [zrm_2 (f := f) (n := n) (by omega)] at hP hD
    have hP : va_P D zcl (zWL g z (md + 1) a (n - 1) [(a, .inl (cE, zRo n1 (zrm f n)))]) H := hP
    have hD : va_D A (zWL g z (md + 1) a (n - 1) [(a, .inl (cE, zRo n1 (zrm f n)))]) := hD
    have hK : va_K D zcl (zTL g [(cE, .object "java/lang/Object")]) s := hK
    exact W.vret hx hb hr (fun t ht hW => ⟨⟨(), rfl, trivial, by rw [ht]; exact hP, va_K.moved hW.alike hK, hD⟩, hS.F ht⟩) hS.2.2 d_A_fastRemove_43
  rw [nI_leI (by omega) (by omega)] at h
  refine lv_aload_n hx hb d_A_fastRemove_22 rfl (lv_at hl 2 rfl) ?_
  refine lv_iload_n hx hb d_A_fastRemove_23 rfl (lv_at hl 3 rfl) ?_
  refine lv_iconst (v := nI 1) hx hb d_A_fastRemove_24 (by decide) ?_
  refine lv_iadd hx hb d_A_fastRemove_25 ?_
  refine zh_t (show (nI 0 + nI 1) = nI (0 + 1) from nI_add _ _) ?_
  refine lv_aload_n hx hb d_A_fastRemove_26 rfl (lv_at hl 2 rfl) ?_
  refine lv_iload_n hx hb d_A_fastRemove_27 rfl (lv_at hl 3 rfl) ?_
  refine lv_iload_n hx hb d_A_fastRemove_28 rfl (lv_at hl 0 rfl) ?_
  refine lv_iload_n hx hb d_A_fastRemove_29 rfl (lv_at hl 3 rfl) ?_
  refine lv_isub hx hb d_A_fastRemove_30 ?_
  refine zh_t (show (nI (n - 1) - nI 0) = nI ((n - 1) - 0) from pk_sub (by omega)) ?_
  refine zh_t (show nI (n - 1 - 0) = nI (n - 1) from congrArg nI (by omega)) ?_
  refine va_copyq (C := RB) (E0 := "java/lang/Object") (E1 := "java/lang/Object") hx hb (hml.trans hl.1.symm) hown (hk _ zk363) (hk _ zk334) (hk _ zk333) (hk _ zk15) hK hP hD hS 6 6 4 4 rfl rfl rfl rfl (by decide) (by decide) (nI_pos (by omega)) (by rw [nI_clamp (n := n - 1) (by omega)]; show 1 + (n - 1) ≤ n1; omega) (by rw [nI_clamp (n := n - 1) (by omega)]; show 0 + (n - 1) ≤ n1; omega) (fun i h9 y9 hy => by obtain ⟨k9, hk9⟩ := zpoolL (g := g) (z := z) (md := md + 1) (r := a) (len := n) (we := [(a, .inl (cE, zRo n1 f))]) (hfl _ y9 hy); exact va_recv hK hP (ci := 1) (q := (RB, TB, 4)) rfl hk9) (fun comp c9 h1 h2 => vb_asgC (hE.1.1 _ zn590) comp c9 h1 h2) (Nat.le_of_ble_eq_true rfl) (by decide +kernel) d_A_fastRemove_31 (fun H locs hP hD hS => ?_)
  rw [nI_clamp (n := n - 1) (by omega)] at hP hD
  have hP : va_P D zcl (zWL g z (md + 1) a n [(a, .inl (cE, zRo n1 (va_cpy f f 1 0 (n - 1))))]) H := hP
  have hD : va_D A (zWL g z (md + 1) a n [(a, .inl (cE, zRo n1 (va_cpy f f 1 0 (n - 1))))]) := hD
  have hK : va_K D zcl (zTL g [(cE, .object "java/lang/Object")]) s := hK
  refine lv_aload_n hx hb d_A_fastRemove_34 rfl (lv_at hl 2 rfl) ?_
  refine lv_aload_n hx hb d_A_fastRemove_35 rfl (lv_at hl 1 rfl) ?_
  refine lv_iload_n hx hb d_A_fastRemove_36 rfl (lv_at hl 0 rfl) ?_
  refine lv_dup_x1 hx hb d_A_fastRemove_37 rfl rfl ?_
  refine va_put (D := D) (ci := 3) (v := .int (nI (n - 1))) (ty := .int) (C := RA) (T := TA) (N := 3) hx hb hk inA tyA okA nmA hown hK hP hD hS 3 rfl rfl 2 (by decide) (hk _ zk44) (fun _ h9 => h9) rfl (by decide +kernel) rfl rfl (Nat.le_of_ble_eq_true rfl) d_A_fastRemove_38 (fun H locs hP hD hS => ?_)
  have hP : va_P D zcl (zWL g z (md + 1) a (n - 1) [(a, .inl (cE, zRo n1 (va_cpy f f 1 0 (n - 1))))]) H := hP
  have hD : va_D A (zWL g z (md + 1) a (n - 1) [(a, .inl (cE, zRo n1 (va_cpy f f 1 0 (n - 1))))]) := hD
  refine lv_null hx hb d_A_fastRemove_41 ?_
  refine va_astqN hx hb hK hP hD hS 6 4 rfl rfl (vp_in_nI (by omega) (by omega)) d_A_fastRemove_42 (fun H locs hP hD hS => ?_)
  rw [nI_clamp (n := n - 1) (by omega)] at hP hD
  rw [zrm_n (f := f) (n := n) (by omega)] at hP hD
  have hP : va_P D zcl (zWL g z (md + 1) a (n - 1) [(a, .inl (cE, zRo n1 (zrm f n)))]) H := hP
  have hD : va_D A (zWL g z (md + 1) a (n - 1) [(a, .inl (cE, zRo n1 (zrm f n)))]) := hD
  have hK : va_K D zcl (zTL g [(cE, .object "java/lang/Object")]) s := hK
  exact W.vret hx hb hr (fun t ht hW => ⟨⟨(), rfl, trivial, by rw [ht]; exact hP, va_K.moved hW.alike hK, hD⟩, hS.F ht⟩) hS.2.2 d_A_fastRemove_43
set_option maxHeartbeats 1000000 in
set_option maxRecDepth 100000 in
theorem c_A_remove_ok (l : Launch) (D : va_G) (t0 : Nat) (g : ZG) (z : ZT) (sz : Nat) (md : Int32) (a n n1 : Nat) (cE : ClassId) (f : Nat → Option Nat) (hn : 1 ≤ n) (hn1 : n ≤ n1) (hn2 : n1 < 1000) (hfl : ∀ i y : Nat, f i = some y → y ∈ z_LB z) (b : Nat) (hf0 : f 0 = some b) : Met l y_A_remove w_A_remove ({ frames := 2, cells := 0, slots := 0, locals := 90 }) (zPre D t0 (zTL g [(cE, .object "java/lang/Object")]) (zWL g z md a n [(a, .inl (cE, zRo n1 f))]) sz [.ref (g_aK g), .int (nI 0)]) (va_Qq (fun r _ => r = some b) (fun (u : Unit) t => zPost D (zTL g [(cE, .object "java/lang/Object")]) (va_A (zWL g z md a n [(a, .inl (cE, zRo n1 f))]) sz) (zWL g z (md + 1) a (n - 1) [(a, .inl (cE, zRo n1 (zrm f n)))]) t) (va_A (zWL g z md a n [(a, .inl (cE, zRo n1 f))]) sz)) 0 0 (va_A (zWL g z md a n [(a, .inl (cE, zRo n1 f))]) sz) := by
  refine Met.ofW (cc := c_A_remove) (maxL := 4) (ret := (some (.object "java/lang/Object"))) (by decide) rfl ?_
  intro p e s m args below meth c s₁ B hml hv
  obtain ⟨rfl, hsz, hP, hK, hD0, hE⟩ := hv
  have hx := B.exec
  have hb := B.bytes
  have hr := B.returns
  have hts := atoms_spec (ws := w_A_remove) B.pre
  have hk : ∀ w ∈ zB, w.before _ s = true := fun w h => hts w (List.mem_cons_of_mem _ h)
  have hown : s.vm.findClass "java/util/ArrayList" = some m.cls := findClass_of_methodNamed B.named
  have hlocks := B.notSynchronized
  subst hsz
  have hD := hD0.self (sz := s.heap.size)
  generalize hAe : va_A (zWL g z md a n [(a, .inl (cE, zRo n1 f))]) s.heap.size = A at hD hE ⊢
  have hA : ∀ q : Nat, s.heap.size ≤ q → A q := fun q h => by rw [← hAe]; exact Or.inr h
  have hS : va_S A s.heap s.heap [] := va_S.rf
  have hl := lv_entry ([.ref (g_aK g), .int (nI 0)]) (n := 4) (Nat.le_of_ble_eq_true rfl)
  rw [lg_entry_eq]
  generalize (lg_sl ([.ref (g_aK g), .int (nI 0)]) ++ List.replicate (4 - (lg_sl ([.ref (g_aK g), .int (nI 0)])).length) Slot.unset).toArray = ls at hl ⊢
  have hl : lv_has ls 4 [(0, .ref (g_aK g)), (1, .int (nI 0))] := hl
  refine lv_iload_n hx hb d_A_remove_0 rfl (lv_at hl 1 rfl) ?_
  refine lv_aload_n hx hb d_A_remove_1 rfl (lv_at hl 0 rfl) ?_
  refine va_get (D := D) (ci := 3) (v := .int (nI n)) (C := RA) (T := TA) (N := 3) hx hb hk inA hown hK hP 3 rfl rfl 2 (by decide) (hk _ zk44) (fun _ h9 => h9) rfl d_A_remove_2 ?_
  refine vp_callSi (zrS (n := 2) (As := [.int (nI 0), .int (nI n)]) (rest := []) ⟨hx, hb, hml, hown, hk⟩ (c_Ob_checkIndex_ok l D t0 (zTL g [(cE, .object "java/lang/Object")]) (zWL g z md a n [(a, .inl (cE, zRo n1 f))]) s.heap.size 0 n (by omega) (by omega)) zk353 zk354 zk16 kc_Ob_checkIndex ⟨by decide, by decide, by decide⟩ rfl rfl ⟨Nat.le_of_ble_eq_true rfl, Nat.le_of_ble_eq_true rfl⟩ ⟨hP, hK, hD, hS, hA, hE⟩ rfl hl.1 rfl (Nat.le_of_ble_eq_true rfl) d_A_remove_5 ⟨Nat.le_of_ble_eq_true rfl, Nat.le_of_ble_eq_true rfl⟩).run (fun r hr1 => ?_)
  refine lv_pop hx hb d_A_remove_8 rfl ?_
  refine lv_aload_n hx hb d_A_remove_9 rfl (lv_at hl 0 rfl) ?_
  refine va_get (D := D) (ci := 3) (v := .ref a) (C := RA) (T := TA) (N := 3) hx hb hk inA hown hK hP 3 rfl rfl 1 (by decide) (hk _ zk43) (fun _ h9 => h9) rfl d_A_remove_10 ?_
  refine lv_astore_n (lv' := [(2, .ref a), (0, .ref (g_aK g)), (1, .int (nI 0))]) hx hb d_A_remove_13 rfl hl (by decide) rfl (fun ls hl => ?_)
  refine lv_aload_n hx hb d_A_remove_14 rfl (lv_at hl 0 rfl) ?_
  refine lv_iload_n hx hb d_A_remove_15 rfl (lv_at hl 2 rfl) ?_
  refine va_aldq hx hb hK hP 6 4 rfl rfl (vp_in_nI (by omega) (by omega)) d_A_remove_16 ?_
  refine zh_v (show va_rf (f (nI 0).toNatClampNeg) = .ref b from by rw [nI_clamp (by decide), hf0]; rfl) ?_
  refine lv_astore_n (lv' := [(3, .ref b), (2, .ref a), (0, .ref (g_aK g)), (1, .int (nI 0))]) hx hb d_A_remove_17 rfl hl (by decide) rfl (fun ls hl => ?_)
  refine lv_aload_n hx hb d_A_remove_18 rfl (lv_at hl 2 rfl) ?_
  refine lv_aload_n hx hb d_A_remove_19 rfl (lv_at hl 1 rfl) ?_
  refine lv_iload_n hx hb d_A_remove_20 rfl (lv_at hl 3 rfl) ?_
  refine zcv (zrV (n := 2) (As := [.ref a, .int (nI 0)]) (rest := []) ⟨hx, hb, hml, hown, hk⟩ (c_A_fastRemove_ok l D t0 g z s.heap.size md a n n1 cE f hn hn1 hn2 hfl) zk359 zk361 ks_A_fastRemove zk4 kc_A_fastRemove ⟨rfl, by decide, by decide, by decide⟩ rfl rfl ⟨Nat.le_of_ble_eq_true rfl, Nat.le_of_ble_eq_true rfl⟩ ⟨hP, hK, hD, hS, hA, hE⟩ (va_recv hK hP (ci := 3) (q0 := 3) rfl rfl) rfl hl.1 rfl (Nat.le_of_ble_eq_true rfl) d_A_remove_21 ⟨Nat.le_of_ble_eq_true rfl, Nat.le_of_ble_eq_true rfl⟩) ⟨hP, hK, hD, hS, hA, hE⟩ (fun u H locs hu hP hK hD hS => ?_)
  refine lv_aload_n hx hb d_A_remove_24 rfl (lv_at hl 0 rfl) ?_
  exact W.aret (v := va_rf (some b)) hx hb hr (Or.inl ⟨_, rfl⟩) (va_rf_or _) (fun t ht hW => ⟨⟨some b, (), rfl, rfl, by rw [ht]; exact hP, va_K.moved hW.alike hK, hD⟩, hS.F ht⟩) hS.2.2 d_A_remove_25
