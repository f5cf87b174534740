-- what the class does on a give-back
def zcount (z : ZT) (k : Nat) : Nat := if k = 0 then z_lb z else if k = 1 then z_lo z else if k = 2 then (z_kl z).length else if k = 3 then z_ko z else z_mb z
theorem zm1 {n : Nat} (h : 1 ≤ n) : nI n + (-1) = nI (n - 1) := by
  obtain ⟨c, rfl⟩ : ∃ c, n = c + 1 := ⟨n - 1, by omega⟩
  exact pk_m1 c
def zkso (bz : Nat → Nat) : List Nat → Nat
  | [] => 0
  | a :: l => bz a + zkso bz l
theorem zkso_app {bz : Nat → Nat} {b : Nat} : ∀ {l : List Nat}, zkso bz (l ++ [b]) = zkso bz l + bz b
  | [] => by simp [zkso]
  | a :: l => by
    show bz a + zkso bz (l ++ [b]) = bz a + zkso bz l + bz b
    rw [zkso_app (l := l)]
    omega
theorem zkso_le {bz : Nat → Nat} : ∀ {l : List Nat}, (∀ a ∈ l, bz a ≤ 2048) → zkso bz l ≤ 2048 * l.length
  | [], _ => Nat.le_refl _
  | a :: l, h => by
    have h1 := zkso_le (bz := bz) (l := l) (fun x hx => h x (List.mem_cons_of_mem _ hx))
    have h2 := h a List.mem_cons_self
    show bz a + zkso bz l ≤ 2048 * (l.length + 1)
    omega
theorem zkso_congr {bz bz' : Nat → Nat} : ∀ {l : List Nat}, (∀ a ∈ l, bz a = bz' a) → zkso bz l = zkso bz' l
  | [], _ => rfl
  | a :: l, h => by
    show bz a + zkso bz l = bz' a + zkso bz' l
    rw [zkso_congr (bz := bz) (bz' := bz') (l := l) (fun x hx => h x (List.mem_cons_of_mem _ hx)), h a List.mem_cons_self]
def zq_rm (z : ZT) (kr : List Nat) : ZT := (zmk (z_oct z) (z_tk z) (z_ko z) (z_lb z) (z_lo z) (z_mb z) (z_rb z) (z_rn z) (z_lf z) (z_ln z) (z_md z + 1) (z_cE z) (z_aE z) (z_cap z) kr (z_LB z) (z_bs z) (z_bz z) (z_kp z) (z_rc z))
def zq_drop (z : ZT) (b : Nat) (kr : List Nat) : ZT := (zmk (z_oct z) (zt_set (z_tk z) (z_bs z b / 16) (zc (z_bz z b)) none) (z_ko z - z_bz z b) (z_lb z) (z_lo z) (z_mb z) (z_rb z) (z_rn z) (z_lf z) (z_ln z) (z_md z + 1) (z_cE z) (z_aE z) (z_cap z) kr (z_LB z) (z_bs z) (z_bz z) (z_kp z) (z_rc z))
def zq_run : Nat → ZT → ZT
  | 0, z => z
  | n + 1, z => if 512 < z_ko z then (match z_kl z with | [] => z | b :: kr => zq_run n (zq_drop z b kr)) else z
theorem zq_run_stop {z : ZT} (h : ¬ 512 < z_ko z) : ∀ n : Nat, zq_run n z = z
  | 0 => rfl
  | n + 1 => by
    show (if 512 < z_ko z then _ else z) = z
    rw [if_neg h]
theorem zq_run_step {z : ZT} {n b : Nat} {kr : List Nat} (h : 512 < z_ko z) (hk : z_kl z = b :: kr) : zq_run (n + 1) z = zq_run n (zq_drop z b kr) := by
  show (if 512 < z_ko z then (match z_kl z with | [] => z | b :: kr => zq_run n (zq_drop z b kr)) else z) = _
  rw [if_pos h, hk]
theorem zq_run_keep {α : Type} (f : ZT → α) (hf : ∀ z b kr, f (zq_drop z b kr) = f z) : ∀ (n : Nat) (z : ZT), f (zq_run n z) = f z
  | 0, _ => rfl
  | n + 1, z => by
    show f (if 512 < z_ko z then (match z_kl z with | [] => z | b :: kr => zq_run n (zq_drop z b kr)) else z) = f z
    split
    · split
      · rfl
      · rw [zq_run_keep f hf n, hf]
    · rfl
theorem zOK.drop {z : ZT} {b : Nat} {kr : List Nat} (hz : zOK z) (hk : z_kl z = b :: kr) : zOK (zq_drop z b kr) := by
  obtain ⟨h1, h2, h3, h4, h5, h6, h7, h8, h9, h10, h11⟩ := hz
  rw [hk] at h7 h8 h11
  refine ⟨fun c a hc e => ?_, h2, h3, h4, h5, h6, fun a ha => h7 a (List.mem_cons_of_mem _ ha), ?_, h9, h10, ?_⟩
  · have e : zt_set (z_tk z) (z_bs z b / 16) (zc (z_bz z b)) none c = some a := e
    unfold zt_set at e
    split at e
    · cases e
    · exact h1 c a hc e
  · show kr.length ≤ z_cap z
    rw [List.length_cons] at h8
    omega
  · show kr.length ≤ 255
    rw [List.length_cons] at h11
    omega
def zq_g0 (z : ZT) (b : Nat) : ZT := (zmk (z_oct z) (z_tk z) (z_ko z) (z_lb z - 1) (z_lo z - z_bz z b) (z_mb z) (z_rb z) (z_rn z) (z_lf z) (z_ln z) (z_md z) (z_cE z) (z_aE z) (z_cap z) (z_kl z) (z_LB z) (z_bs z) (z_bz z) (va_up (z_kp z) b true) (z_rc z))
def zq_gb (z : ZT) (b : Nat) (cE : ClassId) (aE cap : Nat) : ZT := (zmk (z_oct z) (z_tk z) (z_ko z + z_bz z b) (z_lb z - 1) (z_lo z - z_bz z b) (z_mb z) (z_rb z) (z_rn z) (z_lf z) (z_ln z) (z_md z + 1) cE aE cap (z_kl z ++ [b]) (z_LB z) (z_bs z) (z_bz z) (va_up (z_kp z) b true) (z_rc z))
theorem zOK.gb {z : ZT} {b aE cap : Nat} {cE : ClassId} (hz : zOK z) (hb : b ∈ z_LB z) (h1 : (z_kl z).length + 1 ≤ cap) (h2 : 2 ≤ cap) (h3 : cap < 1000) (h4 : (z_kl z).length < 255) : zOK (zq_gb z b cE aE cap) := by
  refine ⟨hz.1, hz.2.1, hz.2.2.1, hz.2.2.2.1, hz.2.2.2.2.1, hz.2.2.2.2.2.1, fun a ha => ?_, ?_, Or.inr h2, h3, ?_⟩
  · rcases List.mem_append.mp ha with h | h
    · exact hz.2.2.2.2.2.2.1 a h
    · rw [List.mem_singleton.mp h]
      exact hb
  · show (z_kl z ++ [b]).length ≤ cap
    rw [List.length_append]
    exact h1
  · show (z_kl z ++ [b]).length ≤ 255
    rw [List.length_append]
    exact h4
theorem zOK.run : ∀ (n : Nat) {z : ZT}, zOK z → zOK (zq_run n z)
  | 0, _, h => h
  | n + 1, z, h => by
    show zOK (if 512 < z_ko z then (match z_kl z with | [] => z | b :: kr => zq_run n (zq_drop z b kr)) else z)
    split
    · split
      · exact h
      · rename_i e
        exact zOK.run n (h.drop e)
    · exact h
theorem zOK.make {z : ZT} {q k n : Nat} (hz : zOK z) (hn : n ≤ 2048) (h1 : 1 ≤ k) (h2 : k + zc n + 1 ≤ 512) (hq : q ∉ z_LB z) : zOK (zq_make z q k n) := by
  obtain ⟨a1, a2, a3, a4, a5, a6, a7, a8, a9, a10, a11⟩ := hz
  have hm : ∀ a, a ∈ z_LB z → a ∈ z_LB (zq_make z q k n) := fun a h => List.mem_append_left _ h
  refine ⟨fun c a hc e => ?_, fun a ha => ?_, a3, a4, fun j hj => ?_, a6, fun a ha => hm a (a7 a ha), a8, a9, a10, a11⟩
  · have e : zt_set (z_tk z) k (zc n) (some q) c = some a := e
    unfold zt_set at e
    split at e
    · cases e
      exact List.mem_append_right _ List.mem_cons_self
    · exact hm a (a1 c a hc e)
  · show va_up (z_bz z) q n a ≤ 2048 ∧ ∃ c : Nat, va_up (z_bs z) q (16 * k) a = 16 * c ∧ 1 ≤ c ∧ c + zc (va_up (z_bz z) q n a) + 1 ≤ 512
    by_cases e : a = q
    · subst e
      rw [va_up_self, va_up_self]
      exact ⟨hn, k, rfl, h1, h2⟩
    · rw [va_up_ne _ _ e, va_up_ne _ _ e]
      rcases List.mem_append.mp ha with h | h
      · exact a2 a h
      · exact absurd (List.mem_singleton.mp h) e
  · obtain ⟨a, e1, e2⟩ := a5 j hj
    exact ⟨a, e1, hm a e2⟩
theorem zOK.oct {z : ZT} {o : Nat → Nat} (hz : zOK z) (h : ∀ x, o x < 256) : zOK (zu_oct z o) := ⟨hz.1, hz.2.1, h, hz.2.2.2⟩
theorem zkso_make {z : ZT} {q k n : Nat} (hz : zOK z) (hq : q ∉ z_LB z) : zkso (z_bz (zq_make z q k n)) (z_kl z) = zkso (z_bz z) (z_kl z) := by
  refine zkso_congr (fun a ha => va_up_ne _ _ (fun e => hq ?_))
  rw [← e]
  exact hz.2.2.2.2.2.2.1 a ha
theorem zW_rm {t0 : Nat} {g : ZG} {z : ZT} {b : Nat} {kr : List Nat} (hc : z_cap z ≠ 0) (hk : z_kl z = b :: kr) : zWL g z (z_md z + 1) (z_aE z) ((z_kl z).length - 1) [(z_aE z, .inl (z_cE z, zRo (z_cap z) (zrm (fun j => (z_kl z)[j]?) (z_kl z).length)))] = zW t0 g (zq_rm z kr) := by
  rw [zW_pos (z := zq_rm z kr) hc, hk, List.length_cons, zkl_rm]
  rfl
theorem zcpy_b {f h : Nat → Nat} {sp dp n : Nat} : va_cpy (fun j => sb_b (f j)) (fun j => sb_b (h j)) sp dp n = fun j => sb_b (va_cpy f h sp dp n j) := by
  funext j
  unfold va_cpy
  split <;> rfl
theorem zfitb (b : Nat) : fits .byte (.int (sb_b b)) = true := pk_fb (nI b)
theorem zmin {a b : Nat} (ha : a < 2 ^ 31) (hb : b < 2 ^ 31) : (if nI b < nI a then nI b else nI a) = nI (min a b) := by
  by_cases h : b < a
  · rw [if_pos ((nI_ltI hb ha).mpr h), Nat.min_eq_right (by omega)]
  · rw [if_neg (fun q => h ((nI_ltI hb ha).mp q)), Nat.min_eq_left (by omega)]
theorem zq_ls_0 {z : ZT} {v : Int32} (h : zq_ls z v = 0) : ∃ a : Nat, zq_st z v = some a ∧ z_kp z a = false := by
  unfold zq_ls at h
  cases e : zq_st z v with
  | none =>
    rw [e] at h
    cases h
  | some a =>
    rw [e] at h
    have h : (if z_kp z a = true then 2 else 0) = 0 := h
    cases e2 : z_kp z a with
    | false => exact ⟨a, rfl, e2⟩
    | true =>
      rw [e2] at h
      cases h
set_option maxHeartbeats 1000000 in
set_option maxRecDepth 100000 in
theorem c_Z_count_ok (l : Launch) (D : va_G) (t0 : Nat) (g : ZG) (z : ZT) (sz : Nat) (v : Int32) (hst : l.stackTraces = false) : vx_Met l y_Z_count w_Z_count ({ frames := 6, cells := 1, slots := 6, locals := 90 }) (zPre D t0 (zT g z) (zW t0 g z) sz [.ref (g_h g), .int v]) (va_Qi (fun r _ => (0 ≤ v.toInt ∧ v.toInt ≤ 4) ∧ r = nI (zcount z v.toInt.toNat)) (fun (u : Unit) t => zPost D (zT g z) (va_A (zW t0 g z) sz) (zW t0 g z) t) (va_A (zW t0 g z) sz)) (zXc D (zT g z) (zW t0 g z) (va_A (zW t0 g z) sz) (fun E => E = "java/lang/IllegalArgumentException" ∧ ¬ (0 ≤ v.toInt ∧ v.toInt ≤ 4))) 1 6 (va_A (zW t0 g z) sz) := by
  refine vx_ofW (cc := c_Z_count) (maxL := 2) (ret := (some .int)) (by decide) rfl ?_
  intro p e s m args below meth c s₁ B hml hex hv
  obtain ⟨rfl, hsz, hP, hK, hD0, hE⟩ := hv
  have hx := B.exec
  have hb := B.bytes
  have hr := B.returns
  have hts := atoms_spec (ws := w_Z_count) B.pre
  have hk : ∀ w ∈ zB, w.before _ s = true := fun w h => hts w (List.mem_cons_of_mem _ h)
  have hown : s.vm.findClass "ZoneHeap" = some m.cls := findClass_of_methodNamed B.named
  have hlocks := B.notSynchronized
  subst hsz
  have hD := hD0.self (sz := s.heap.size)
  generalize hAe : va_A (zW t0 g z) s.heap.size = A at hD hE ⊢
  have hA : ∀ q : Nat, s.heap.size ≤ q → A q := fun q h => by rw [← hAe]; exact Or.inr h
  have hS : va_S A s.heap s.heap [] := va_S.rf
  have hl := lv_entry ([.ref (g_h g), .int v]) (n := 2) (Nat.le_of_ble_eq_true rfl)
  rw [lg_entry_eq]
  generalize (lg_sl ([.ref (g_h g), .int v]) ++ List.replicate (2 - (lg_sl ([.ref (g_h g), .int v])).length) Slot.unset).toArray = ls at hl ⊢
  have hl : lv_has ls 2 [(0, .ref (g_h g)), (1, .int v)] := hl
  refine lv_iload_n hx hb d_Z_count_0 rfl (lv_at hl 1 rfl) ?_
  by_cases hok : 0 ≤ v.toInt ∧ v.toInt ≤ 4
  · obtain ⟨x, hx4, rfl⟩ : ∃ x : Nat, x ≤ 4 ∧ v = nI x := ⟨v.toInt.toNat, by omega, Int32.toInt_inj.mp (by rw [nI_toInt (by omega)]; omega)⟩
    have hvn : (nI x).toInt.toNat = x := by rw [nI_toInt (by omega)]; rfl
    rcases (show x = 0 ∨ x = 1 ∨ x = 2 ∨ x = 3 ∨ x = 4 by omega) with rfl | rfl | rfl | rfl | rfl
    · refine lv_tableIn (off := 35) (tgt := 36) hx hb d_Z_count_1 (by decide) (by decide) (by decide) (by decide) ?_
      refine lv_aload_n hx hb d_Z_count_36 rfl (lv_at hl 0 rfl) ?_
      refine va_get (D := D) (ci := 0) (v := .int (nI (z_lb z))) (C := RZ) (T := TZ) (N := 11) hx hb hk inZ hown hK hP 0 rfl rfl 4 (by decide) (hk _ zk60) (fun _ h9 => h9) rfl d_Z_count_37 ?_
      refine vx_ret ?_
      refine W.widen (k := 1) (n := 6) (by omega) (by omega) ?_
      exact W.iret hx hb hr (fun t ht hW => ⟨⟨_, (), rfl, ⟨hok, by rw [hvn]; rfl⟩, by rw [ht]; exact hP, va_K.moved hW.alike hK, hD⟩, hS.F ht⟩) hS.2.2 d_Z_count_40
    · refine lv_tableIn (off := 40) (tgt := 41) hx hb d_Z_count_1 (by decide) (by decide) (by decide) (by decide) ?_
      refine lv_aload_n hx hb d_Z_count_41 rfl (lv_at hl 0 rfl) ?_
      refine va_get (D := D) (ci := 0) (v := .int (nI (z_lo z))) (C := RZ) (T := TZ) (N := 11) hx hb hk inZ hown hK hP 0 rfl rfl 5 (by decide) (hk _ zk61) (fun _ h9 => h9) rfl d_Z_count_42 ?_
      refine vx_ret ?_
      refine W.widen (k := 1) (n := 6) (by omega) (by omega) ?_
      exact W.iret hx hb hr (fun t ht hW => ⟨⟨_, (), rfl, ⟨hok, by rw [hvn]; rfl⟩, by rw [ht]; exact hP, va_K.moved hW.alike hK, hD⟩, hS.F ht⟩) hS.2.2 d_Z_count_45
    · refine lv_tableIn (off := 45) (tgt := 46) hx hb d_Z_count_1 (by decide) (by decide) (by decide) (by decide) ?_
      refine lv_aload_n hx hb d_Z_count_46 rfl (lv_at hl 0 rfl) ?_
      refine va_get (D := D) (ci := 0) (v := .ref (g_aK g)) (C := RZ) (T := TZ) (N := 11) hx hb hk inZ hown hK hP 0 rfl rfl 2 (by decide) (hk _ zk58) (fun _ h9 => h9) rfl d_Z_count_47 ?_
      refine vp_callSi (zrV (n := 0) (As := []) (rest := []) ⟨hx, hb, hml, hown, hk⟩ (c_A_size_ok l D t0 g z s.heap.size) zk337 zk338 zk339 zk4 kc_A_size ⟨rfl, by decide, by decide, by decide⟩ rfl rfl ⟨Nat.le_of_ble_eq_true rfl, Nat.le_of_ble_eq_true rfl⟩ ⟨hP, hK, hD, hS, hA, hE⟩ (va_recv hK hP (ci := 3) (q0 := 3) rfl rfl) rfl hl.1 rfl (Nat.le_of_ble_eq_true rfl) d_Z_count_50 ⟨Nat.le_of_ble_eq_true rfl, Nat.le_of_ble_eq_true rfl⟩).run (fun r hr1 => ?_)
      subst hr1
      refine vx_ret ?_
      refine W.widen (k := 1) (n := 6) (by omega) (by omega) ?_
      exact W.iret hx hb hr (fun t ht hW => ⟨⟨_, (), rfl, ⟨hok, by rw [hvn]; rfl⟩, by rw [ht]; exact hP, va_K.moved hW.alike hK, hD⟩, hS.F ht⟩) hS.2.2 d_Z_count_53
    · refine lv_tableIn (off := 53) (tgt := 54) hx hb d_Z_count_1 (by decide) (by decide) (by decide) (by decide) ?_
      refine lv_aload_n hx hb d_Z_count_54 rfl (lv_at hl 0 rfl) ?_
      refine va_get (D := D) (ci := 0) (v := .int (nI (z_ko z))) (C := RZ) (T := TZ) (N := 11) hx hb hk inZ hown hK hP 0 rfl rfl 3 (by decide) (hk _ zk59) (fun _ h9 => h9) rfl d_Z_count_55 ?_
      refine vx_ret ?_
      refine W.widen (k := 1) (n := 6) (by omega) (by omega) ?_
      exact W.iret hx hb hr (fun t ht hW => ⟨⟨_, (), rfl, ⟨hok, by rw [hvn]; rfl⟩, by rw [ht]; exact hP, va_K.moved hW.alike hK, hD⟩, hS.F ht⟩) hS.2.2 d_Z_count_58
    · refine lv_tableIn (off := 58) (tgt := 59) hx hb d_Z_count_1 (by decide) (by decide) (by decide) (by decide) ?_
      refine lv_aload_n hx hb d_Z_count_59 rfl (lv_at hl 0 rfl) ?_
      refine va_get (D := D) (ci := 0) (v := .int (nI (z_mb z))) (C := RZ) (T := TZ) (N := 11) hx hb hk inZ hown hK hP 0 rfl rfl 6 (by decide) (hk _ zk62) (fun _ h9 => h9) rfl d_Z_count_60 ?_
      refine vx_ret ?_
      refine W.widen (k := 1) (n := 6) (by omega) (by omega) ?_
      exact W.iret hx hb hr (fun t ht hW => ⟨⟨_, (), rfl, ⟨hok, by rw [hvn]; rfl⟩, by rw [ht]; exact hP, va_K.moved hW.alike hK, hD⟩, hS.F ht⟩) hS.2.2 d_Z_count_63
  refine lv_tableOut (tgt := 64) hx hb d_Z_count_1 (by omega) (by decide) ?_
  exact zthrow (is := 133) (text := "no such count") hst hx hb hk hown hex hlocks ⟨hP, hK, hD, hS, hA, hE⟩ zk146 zk9 (by decide +kernel) zat_A (hl.1.trans hml.symm) d_Z_count_64 d_Z_count_67 d_Z_count_68 d_Z_count_70 d_Z_count_73 (⟨rfl, hok⟩) (Nat.le_of_ble_eq_true rfl) (Nat.le_of_ble_eq_true rfl) (Nat.le_of_ble_eq_true rfl) (Nat.le_of_ble_eq_true rfl) (Nat.le_of_ble_eq_true rfl) (Nat.le_of_ble_eq_true rfl)
set_option maxHeartbeats 1000000 in
theorem c_A_remove_z (l : Launch) (D : va_G) (t0 : Nat) (g : ZG) (z : ZT) (sz : Nat) (b : Nat) (kr : List Nat) (hk : z_kl z = b :: kr) (hz : zOK z) : Met l y_A_remove w_A_remove ({ frames := 2, cells := 0, slots := 0, locals := 90 }) (zPre D t0 (zT g z) (zW t0 g z) sz [.ref (g_aK g), .int (nI 0)]) (va_Qq (fun r u => r = some b ∧ u = zq_rm z kr) (fun (u : ZT) t => zPost D (zT g u) (va_A (zW t0 g z) sz) (zW t0 g u) t) (va_A (zW t0 g z) sz)) 0 0 (va_A (zW t0 g z) sz) := by
  obtain ⟨-, -, -, -, -, -, h7, h8, h9, h10, h11⟩ := hz
  have hlen : (z_kl z).length = kr.length + 1 := by rw [hk]; rfl
  have hc : z_cap z ≠ 0 := by omega
  have hW := zW_rm (t0 := t0) (g := g) hc hk
  have hT : zT g (zq_rm z kr) = zTL g [(z_cE z, .object "java/lang/Object")] := zT_pos (z := zq_rm z kr) hc
  rw [zW_pos hc, zT_pos hc]
  refine zMet_imp (c_A_remove_ok l D t0 g z sz (z_md z) (z_aE z) (z_kl z).length (z_cap z) (z_cE z) (fun j => (z_kl z)[j]?) (by omega) (by omega) (by omega) (fun i y hy => h7 y (List.mem_of_getElem? hy)) b (by show (z_kl z)[0]? = some b; rw [hk]; rfl)) (fun a st o t h => ?_)
  obtain ⟨⟨r, u, e1, e2, hP, hK, hD⟩, hF⟩ := h
  rw [hW] at hP hD
  exact ⟨⟨r, zq_rm z kr, e1, ⟨e2, rfl⟩, hP, by rw [hT]; exact hK, hD⟩, hF⟩
set_option maxHeartbeats 1000000 in
set_option maxRecDepth 100000 in
theorem c_Z_dropOldestKept_ok (l : Launch) (D : va_G) (t0 : Nat) (g : ZG) (z : ZT) (sz : Nat) (b : Nat) (kr : List Nat) (hkl : z_kl z = b :: kr) (hz : zOK z) (hko : z_bz z b ≤ z_ko z) : Met l y_Z_dropOldestKept w_Z_dropOldestKept ({ frames := 3, cells := 0, slots := 0, locals := 130 }) (zPre D t0 (zT g z) (zW t0 g z) sz [.ref (g_h g)]) (va_Qv (fun u => u = zq_drop z b kr) (fun (u : ZT) t => zPost D (zT g u) (va_A (zW t0 g z) sz) (zW t0 g u) t) (va_A (zW t0 g z) sz)) 0 0 (va_A (zW t0 g z) sz) := by
  refine Met.ofW (cc := c_Z_dropOldestKept) (maxL := 2) (ret := none) (by decide) rfl ?_
  intro p e s m args below meth c s₁ B hml hv
  obtain ⟨rfl, hsz, hP, hK, hD0, hE⟩ := hv
  have hx := B.exec
  have hb := B.bytes
  have hr := B.returns
  have hts := atoms_spec (ws := w_Z_dropOldestKept) B.pre
  have hk : ∀ w ∈ zB, w.before _ s = true := fun w h => hts w (List.mem_cons_of_mem _ h)
  have hown : s.vm.findClass "ZoneHeap" = some m.cls := findClass_of_methodNamed B.named
  have hlocks := B.notSynchronized
  subst hsz
  have hD := hD0.self (sz := s.heap.size)
  generalize hAe : va_A (zW t0 g z) s.heap.size = A at hD hE ⊢
  have hA : ∀ q : Nat, s.heap.size ≤ q → A q := fun q h => by rw [← hAe]; exact Or.inr h
  have hS : va_S A s.heap s.heap [] := va_S.rf
  have hl := lv_entry ([.ref (g_h g)]) (n := 2) (Nat.le_of_ble_eq_true rfl)
  rw [lg_entry_eq]
  generalize (lg_sl ([.ref (g_h g)]) ++ List.replicate (2 - (lg_sl ([.ref (g_h g)])).length) Slot.unset).toArray = ls at hl ⊢
  have hl : lv_has ls 2 [(0, .ref (g_h g))] := hl
  have hb0 : b ∈ z_LB z := hz.2.2.2.2.2.2.1 b (by rw [hkl]; exact List.mem_cons_self)
  refine lv_aload_n hx hb d_Z_dropOldestKept_0 rfl (lv_at hl 0 rfl) ?_
  refine va_get (D := D) (ci := 0) (v := .ref (g_aK g)) (C := RZ) (T := TZ) (N := 11) hx hb hk inZ hown hK hP 0 rfl rfl 2 (by decide) (hk _ zk58) (fun _ h9 => h9) rfl d_Z_dropOldestKept_1 ?_
  refine vp_callSi (zrV (n := 0) (As := []) (rest := []) ⟨hx, hb, hml, hown, hk⟩ (c_A_isEmpty_ok l D t0 g z s.heap.size hz) zk345 zk346 zk347 zk4 kc_A_isEmpty ⟨rfl, by decide, by decide, by decide⟩ rfl rfl ⟨Nat.le_of_ble_eq_true rfl, Nat.le_of_ble_eq_true rfl⟩ ⟨hP, hK, hD, hS, hA, hE⟩ (va_recv hK hP (ci := 3) (q0 := 3) rfl rfl) rfl hl.1 rfl (Nat.le_of_ble_eq_true rfl) d_Z_dropOldestKept_4 ⟨Nat.le_of_ble_eq_true rfl, Nat.le_of_ble_eq_true rfl⟩).run (fun r hr1 => ?_)
  have hr1 : r = zb false := by rw [hr1, hkl]; rfl
  subst hr1
  refine lv_if_eq (tgt := 11) hx hb d_Z_dropOldestKept_7 (by decide) (fun h => ?_) (fun h => ?_)
  rotate_left 1
  · rw [zh_zb] at h
    exact absurd rfl h
  rw [zh_zb] at h
  refine lv_aload_n hx hb d_Z_dropOldestKept_11 rfl (lv_at hl 0 rfl) ?_
  refine va_get (D := D) (ci := 0) (v := .ref (g_aK g)) (C := RZ) (T := TZ) (N := 11) hx hb hk inZ hown hK hP 0 rfl rfl 2 (by decide) (hk _ zk58) (fun _ h9 => h9) rfl d_Z_dropOldestKept_12 ?_
  refine lv_iconst (v := nI 0) hx hb d_Z_dropOldestKept_15 (by decide) ?_
  refine zcq (zrV (n := 1) (As := [.int (nI 0)]) (rest := []) ⟨hx, hb, hml, hown, hk⟩ (c_A_remove_z l D t0 g z s.heap.size b kr hkl hz) zk349 zk350 zk351 zk4 kc_A_remove ⟨rfl, by decide, by decide, by decide⟩ rfl rfl ⟨Nat.le_of_ble_eq_true rfl, Nat.le_of_ble_eq_true rfl⟩ ⟨hP, hK, hD, hS, hA, hE⟩ (va_recv hK hP (ci := 3) (q0 := 3) rfl rfl) rfl hl.1 rfl (Nat.le_of_ble_eq_true rfl) d_Z_dropOldestKept_16 ⟨Nat.le_of_ble_eq_true rfl, Nat.le_of_ble_eq_true rfl⟩) ⟨hP, hK, hD, hS, hA, hE⟩ (fun r u H locs hu hP hK hD hS => ?_)
  obtain ⟨rfl, rfl⟩ := hu
  have hP : va_P D zcl (zW t0 g (zq_rm z kr)) H := hP
  have hD : va_D A (zW t0 g (zq_rm z kr)) := hD
  have hK : va_K D zcl (zT g (zq_rm z kr)) s := hK
  refine zh_v (show va_rf (some b) = .ref b from rfl) ?_
  refine va_castY (C := RB) hx hb hown (hk _ zk27) (hE.1.1 _ zn584) (by obtain ⟨k9, hk9⟩ := zpool (t0 := t0) (g := g) (z := (zq_rm z kr)) (show b ∈ z_LB (zq_rm z kr) from hb0); exact va_recv hK hP (ci := 1) rfl hk9) d_Z_dropOldestKept_19 ?_
  have hP : va_P D zcl (zW t0 g (zmk (z_oct z) (z_tk z) (z_ko z) (z_lb z) (z_lo z) (z_mb z) (z_rb z) (z_rn z) (z_lf z) (z_ln z) (z_md z + 1) (z_cE z) (z_aE z) (z_cap z) kr (z_LB z) (z_bs z) (z_bz z) (z_kp z) (z_rc z))) H := hP
  have hD : va_D A (zW t0 g (zmk (z_oct z) (z_tk z) (z_ko z) (z_lb z) (z_lo z) (z_mb z) (z_rb z) (z_rn z) (z_lf z) (z_ln z) (z_md z + 1) (z_cE z) (z_aE z) (z_cap z) kr (z_LB z) (z_bs z) (z_bz z) (z_kp z) (z_rc z))) := hD
  have hK : va_K D zcl (zT g (zmk (z_oct z) (z_tk z) (z_ko z) (z_lb z) (z_lo z) (z_mb z) (z_rb z) (z_rn z) (z_lf z) (z_ln z) (z_md z + 1) (z_cE z) (z_aE z) (z_cap z) kr (z_LB z) (z_bs z) (z_bz z) (z_kp z) (z_rc z))) s := hK
  refine lv_astore_n (lv' := [(1, .ref b), (0, .ref (g_h g))]) hx hb d_Z_dropOldestKept_22 rfl hl (by decide) rfl (fun ls hl => ?_)
  refine lv_aload_n hx hb d_Z_dropOldestKept_23 rfl (lv_at hl 1 rfl) ?_
  refine lv_dup hx hb d_Z_dropOldestKept_24 rfl ?_
  refine va_get (D := D) (ci := 0) (v := .int (nI (z_ko z))) (C := RZ) (T := TZ) (N := 11) hx hb hk inZ hown hK hP 0 rfl rfl 3 (by decide) (hk _ zk59) (fun _ h9 => h9) rfl d_Z_dropOldestKept_25 ?_
  refine lv_aload_n hx hb d_Z_dropOldestKept_28 rfl (lv_at hl 0 rfl) ?_
  obtain ⟨k9, hk9⟩ := zpool (t0 := t0) (g := g) (z := (zmk (z_oct z) (z_tk z) (z_ko z) (z_lb z) (z_lo z) (z_mb z) (z_rb z) (z_rn z) (z_lf z) (z_ln z) (z_md z + 1) (z_cE z) (z_aE z) (z_cap z) kr (z_LB z) (z_bs z) (z_bz z) (z_kp z) (z_rc z))) (show b ∈ z_LB (zmk (z_oct z) (z_tk z) (z_ko z) (z_lb z) (z_lo z) (z_mb z) (z_rb z) (z_rn z) (z_lf z) (z_ln z) (z_md z + 1) (z_cE z) (z_aE z) (z_cap z) kr (z_LB z) (z_bs z) (z_bz z) (z_kp z) (z_rc z)) from hb0)
  refine va_getN (D := D) (ci := 1) (v := .int (nI (z_bz z b))) (C := RB) (T := TB) (N := 4) hx hb hk inB hown hK hP k9 hk9 rfl 1 (by decide) (va_Nw.use rfl (hE.1.1 _ zn234)) (fun _ h9 => h9) rfl d_Z_dropOldestKept_29 ?_
  refine lv_isub hx hb d_Z_dropOldestKept_32 ?_
  refine zh_t (show (nI (z_ko z) - nI (z_bz z b)) = nI (z_ko z - (z_bz z b)) from pk_sub (by exact hko)) ?_
  refine va_put (D := D) (ci := 0) (v := .int (nI (z_ko z - (z_bz z b)))) (ty := .int) (C := RZ) (T := TZ) (N := 11) hx hb hk inZ tyZ okZ nmZ hown hK hP hD hS 0 rfl rfl 3 (by decide) (hk _ zk59) (fun _ h9 => h9) rfl (by decide +kernel) rfl rfl (Nat.le_of_ble_eq_true rfl) d_Z_dropOldestKept_33 (fun H locs hP hD hS => ?_)
  have hP : va_P D zcl (zW t0 g (zmk (z_oct z) (z_tk z) (z_ko z - (z_bz z b)) (z_lb z) (z_lo z) (z_mb z) (z_rb z) (z_rn z) (z_lf z) (z_ln z) (z_md z + 1) (z_cE z) (z_aE z) (z_cap z) kr (z_LB z) (z_bs z) (z_bz z) (z_kp z) (z_rc z))) H := hP
  have hD : va_D A (zW t0 g (zmk (z_oct z) (z_tk z) (z_ko z - (z_bz z b)) (z_lb z) (z_lo z) (z_mb z) (z_rb z) (z_rn z) (z_lf z) (z_ln z) (z_md z + 1) (z_cE z) (z_aE z) (z_cap z) kr (z_LB z) (z_bs z) (z_bz z) (z_kp z) (z_rc z))) := hD
  refine lv_aload_n hx hb d_Z_dropOldestKept_36 rfl (lv_at hl 1 rfl) ?_
  refine lv_aload_n hx hb d_Z_dropOldestKept_37 rfl (lv_at hl 0 rfl) ?_
  refine lv_null hx hb d_Z_dropOldestKept_38 ?_
  obtain ⟨hz4, fc, hf1, hf2, hf3⟩ := hz.2.1 b hb0
  refine zcv (zrV (n := 2) (As := [.ref b, .null]) (rest := []) ⟨hx, hb, hml, hown, hk⟩ (c_Z_setTaker_none l D t0 g (zmk (z_oct z) (z_tk z) (z_ko z - (z_bz z b)) (z_lb z) (z_lo z) (z_mb z) (z_rb z) (z_rn z) (z_lf z) (z_ln z) (z_md z + 1) (z_cE z) (z_aE z) (z_cap z) kr (z_LB z) (z_bs z) (z_bz z) (z_kp z) (z_rc z)) H.size b fc (zc (z_bz z b)) hb0 hf1 rfl (by omega) hz4) zk248 zk250 ks_Z_setTaker zk1 kc_Z_setTaker ⟨rfl, by decide, by decide, by decide⟩ rfl rfl ⟨Nat.le_of_ble_eq_true rfl, Nat.le_of_ble_eq_true rfl⟩ ⟨hP, hK, hD, hS, hA, hE⟩ (va_recv hK hP (ci := 0) (q0 := 0) rfl rfl) rfl hl.1 rfl (Nat.le_of_ble_eq_true rfl) d_Z_dropOldestKept_39 ⟨Nat.le_of_ble_eq_true rfl, Nat.le_of_ble_eq_true rfl⟩) ⟨hP, hK, hD, hS, hA, hE⟩ (fun u H locs hu hP hK hD hS => ?_)
  have hu : u = zq_drop z b kr := by rw [hu]; unfold zq_drop; rw [show z_bs z b / 16 = fc by omega]; rfl
  subst hu
  exact W.vret hx hb hr (fun t ht hW => ⟨⟨(zq_drop z b kr), rfl, rfl, by rw [ht]; exact hP, va_K.moved hW.alike hK, hD⟩, hS.F ht⟩) hS.2.2 d_Z_dropOldestKept_42
set_option maxHeartbeats 1000000 in
set_option maxRecDepth 100000 in
theorem c_Z_giveBack_ok (l : Launch) (D : va_G) (t0 : Nat) (g : ZG) (z : ZT) (sz : Nat) (b : Nat) (hb0 : b ∈ z_LB z) (hz : zOK z) (hlb : 1 ≤ z_lb z) (hlo : z_bz z b ≤ z_lo z) (hkl : (z_kl z).length < 255) (hko : z_ko z = zkso (z_bz z) (z_kl z)) : Met l y_Z_giveBack w_Z_giveBack ({ frames := 7, cells := 1, slots := 1000, locals := 260 }) (zPre D t0 (zT g z) (zW t0 g z) sz [.ref (g_h g), .ref b]) (va_Qv (fun u => ∃ (cE : ClassId) (aE cap : Nat), u = zq_run ((z_kl z).length + 1) (zq_gb z b cE aE cap) ∧ (z_kl z).length + 1 ≤ cap ∧ 2 ≤ cap ∧ cap < 1000) (fun (u : ZT) t => zPost D (zT g u) (va_A (zW t0 g z) sz) (zW t0 g u) t) (va_A (zW t0 g z) sz)) 1 1000 (va_A (zW t0 g z) sz) := by
  refine Met.ofW (cc := c_Z_giveBack) (maxL := 3) (ret := none) (by decide) rfl ?_
  intro p e s m args below meth c s₁ B hml hv
  obtain ⟨rfl, hsz, hP, hK, hD0, hE⟩ := hv
  have hx := B.exec
  have hb := B.bytes
  have hr := B.returns
  have hts := atoms_spec (ws := w_Z_giveBack) B.pre
  have hk : ∀ w ∈ zB, w.before _ s = true := fun w h => hts w (List.mem_cons_of_mem _ h)
  have hown : s.vm.findClass "ZoneHeap" = some m.cls := findClass_of_methodNamed B.named
  have hlocks := B.notSynchronized
  subst hsz
  have hD := hD0.self (sz := s.heap.size)
  generalize hAe : va_A (zW t0 g z) s.heap.size = A at hD hE ⊢
  have hA : ∀ q : Nat, s.heap.size ≤ q → A q := fun q h => by rw [← hAe]; exact Or.inr h
  have hS : va_S A s.heap s.heap [] := va_S.rf
  have hl := lv_entry ([.ref (g_h g), .ref b]) (n := 3) (Nat.le_of_ble_eq_true rfl)
  rw [lg_entry_eq]
  generalize (lg_sl ([.ref (g_h g), .ref b]) ++ List.replicate (3 - (lg_sl ([.ref (g_h g), .ref b])).length) Slot.unset).toArray = ls at hl ⊢
  have hl : lv_has ls 3 [(0, .ref (g_h g)), (1, .ref b)] := hl
  refine lv_aload_n hx hb d_Z_giveBack_0 rfl (lv_at hl 1 rfl) ?_
  refine lv_iconst (v := nI 1) hx hb d_Z_giveBack_1 (by decide) ?_
  refine zh_t (show nI 1 = zb true from rfl) ?_
  obtain ⟨k9, hk9⟩ := zpool (t0 := t0) (g := g) (z := z) hb0
  have hD9 := hD
  refine va_putN (D := D) (ci := 1) (v := .int (zb true)) (ty := .boolean) (C := RB) (T := TB) (N := 4) hx hb hk inB tyB okB nmB hown hK hP hD hS k9 hk9 rfl 2 (by decide) (va_Nw.use rfl (hE.1.1 _ zn236)) (fun _ h9 => h9) rfl (by decide +kernel) (zh_nar _) (zh_fit _) (Nat.le_of_ble_eq_true rfl) d_Z_giveBack_2 (fun H locs hP hD hS => ?_)
  have e9 : _ = zW t0 g (zmk (z_oct z) (z_tk z) (z_ko z) (z_lb z) (z_lo z) (z_mb z) (z_rb z) (z_rn z) (z_lf z) (z_ln z) (z_md z) (z_cE z) (z_aE z) (z_cap z) (z_kl z) (z_LB z) (z_bs z) (z_bz z) (va_up (z_kp z) b true) (z_rc z)) := zset_kp (t0 := t0) (g := g) (z := z) (v := true) hD9 hb0 hk9
  have hP : va_P D zcl (zW t0 g (zmk (z_oct z) (z_tk z) (z_ko z) (z_lb z) (z_lo z) (z_mb z) (z_rb z) (z_rn z) (z_lf z) (z_ln z) (z_md z) (z_cE z) (z_aE z) (z_cap z) (z_kl z) (z_LB z) (z_bs z) (z_bz z) (va_up (z_kp z) b true) (z_rc z))) H := Eq.mp (congrArg (fun w9 => va_P D zcl w9 H) e9) hP
  have hD : va_D A (zW t0 g (zmk (z_oct z) (z_tk z) (z_ko z) (z_lb z) (z_lo z) (z_mb z) (z_rb z) (z_rn z) (z_lf z) (z_ln z) (z_md z) (z_cE z) (z_aE z) (z_cap z) (z_kl z) (z_LB z) (z_bs z) (z_bz z) (va_up (z_kp z) b true) (z_rc z))) := Eq.mp (congrArg (fun w9 => va_D A w9) e9) hD
  refine lv_aload_n hx hb d_Z_giveBack_5 rfl (lv_at hl 0 rfl) ?_
  refine lv_dup hx hb d_Z_giveBack_6 rfl ?_
  refine va_get (D := D) (ci := 0) (v := .int (nI (z_lb z))) (C := RZ) (T := TZ) (N := 11) hx hb hk inZ hown hK hP 0 rfl rfl 4 (by decide) (hk _ zk60) (fun _ h9 => h9) rfl d_Z_giveBack_7 ?_
  refine lv_iconst (v := nI 1) hx hb d_Z_giveBack_10 (by decide) ?_
  refine lv_isub hx hb d_Z_giveBack_11 ?_
  refine zh_t (show (nI (z_lb z) - nI 1) = nI (z_lb z - 1) from pk_sub (by omega)) ?_
  refine va_put (D := D) (ci := 0) (v := .int (nI (z_lb z - 1))) (ty := .int) (C := RZ) (T := TZ) (N := 11) hx hb hk inZ tyZ okZ nmZ hown hK hP hD hS 0 rfl rfl 4 (by decide) (hk _ zk60) (fun _ h9 => h9) rfl (by decide +kernel) rfl rfl (Nat.le_of_ble_eq_true rfl) d_Z_giveBack_12 (fun H locs hP hD hS => ?_)
  have hP : va_P D zcl (zW t0 g (zmk (z_oct z) (z_tk z) (z_ko z) (z_lb z - 1) (z_lo z) (z_mb z) (z_rb z) (z_rn z) (z_lf z) (z_ln z) (z_md z) (z_cE z) (z_aE z) (z_cap z) (z_kl z) (z_LB z) (z_bs z) (z_bz z) (va_up (z_kp z) b true) (z_rc z))) H := hP
  have hD : va_D A (zW t0 g (zmk (z_oct z) (z_tk z) (z_ko z) (z_lb z - 1) (z_lo z) (z_mb z) (z_rb z) (z_rn z) (z_lf z) (z_ln z) (z_md z) (z_cE z) (z_aE z) (z_cap z) (z_kl z) (z_LB z) (z_bs z) (z_bz z) (va_up (z_kp z) b true) (z_rc z))) := hD
  refine lv_aload_n hx hb d_Z_giveBack_15 rfl (lv_at hl 0 rfl) ?_
  refine lv_dup hx hb d_Z_giveBack_16 rfl ?_
  refine va_get (D := D) (ci := 0) (v := .int (nI (z_lo z))) (C := RZ) (T := TZ) (N := 11) hx hb hk inZ hown hK hP 0 rfl rfl 5 (by decide) (hk _ zk61) (fun _ h9 => h9) rfl d_Z_giveBack_17 ?_
  refine lv_aload_n hx hb d_Z_giveBack_20 rfl (lv_at hl 1 rfl) ?_
  obtain ⟨k9, hk9⟩ := zpool (t0 := t0) (g := g) (z := (zmk (z_oct z) (z_tk z) (z_ko z) (z_lb z - 1) (z_lo z) (z_mb z) (z_rb z) (z_rn z) (z_lf z) (z_ln z) (z_md z) (z_cE z) (z_aE z) (z_cap z) (z_kl z) (z_LB z) (z_bs z) (z_bz z) (va_up (z_kp z) b true) (z_rc z))) (show b ∈ z_LB (zmk (z_oct z) (z_tk z) (z_ko z) (z_lb z - 1) (z_lo z) (z_mb z) (z_rb z) (z_rn z) (z_lf z) (z_ln z) (z_md z) (z_cE z) (z_aE z) (z_cap z) (z_kl z) (z_LB z) (z_bs z) (z_bz z) (va_up (z_kp z) b true) (z_rc z)) from hb0)
  refine va_getN (D := D) (ci := 1) (v := .int (nI (z_bz z b))) (C := RB) (T := TB) (N := 4) hx hb hk inB hown hK hP k9 hk9 rfl 1 (by decide) (va_Nw.use rfl (hE.1.1 _ zn234)) (fun _ h9 => h9) rfl d_Z_giveBack_21 ?_
  refine lv_isub hx hb d_Z_giveBack_24 ?_
  refine zh_t (show (nI (z_lo z) - nI (z_bz z b)) = nI (z_lo z - (z_bz z b)) from pk_sub (by exact hlo)) ?_
  refine va_put (D := D) (ci := 0) (v := .int (nI (z_lo z - (z_bz z b)))) (ty := .int) (C := RZ) (T := TZ) (N := 11) hx hb hk inZ tyZ okZ nmZ hown hK hP hD hS 0 rfl rfl 5 (by decide) (hk _ zk61) (fun _ h9 => h9) rfl (by decide +kernel) rfl rfl (Nat.le_of_ble_eq_true rfl) d_Z_giveBack_25 (fun H locs hP hD hS => ?_)
  have hP : va_P D zcl (zW t0 g (zmk (z_oct z) (z_tk z) (z_ko z) (z_lb z - 1) (z_lo z - (z_bz z b)) (z_mb z) (z_rb z) (z_rn z) (z_lf z) (z_ln z) (z_md z) (z_cE z) (z_aE z) (z_cap z) (z_kl z) (z_LB z) (z_bs z) (z_bz z) (va_up (z_kp z) b true) (z_rc z))) H := hP
  have hD : va_D A (zW t0 g (zmk (z_oct z) (z_tk z) (z_ko z) (z_lb z - 1) (z_lo z - (z_bz z b)) (z_mb z) (z_rb z) (z_rn z) (z_lf z) (z_ln z) (z_md z) (z_cE z) (z_aE z) (z_cap z) (z_kl z) (z_LB z) (z_bs z) (z_bz z) (va_up (z_kp z) b true) (z_rc z))) := hD
  have hP : va_P D zcl (zW t0 g (zq_g0 z b)) H := hP
  have hD : va_D A (zW t0 g (zq_g0 z b)) := hD
  have hK : va_K D zcl (zT g (zq_g0 z b)) s := hK
  refine lv_aload_n hx hb d_Z_giveBack_28 rfl (lv_at hl 0 rfl) ?_
  refine va_get (D := D) (ci := 0) (v := .ref (g_aK g)) (C := RZ) (T := TZ) (N := 11) hx hb hk inZ hown hK hP 0 rfl rfl 2 (by decide) (hk _ zk58) (fun _ h9 => h9) rfl d_Z_giveBack_29 ?_
  refine lv_aload_n hx hb d_Z_giveBack_32 rfl (lv_at hl 1 rfl) ?_
  refine zci (zrV (n := 1) (As := [.ref b]) (rest := []) ⟨hx, hb, hml, hown, hk⟩ (c_A_add_ok l D t0 g (zq_g0 z b) H.size b hb0 hz) zk285 zk286 zk287 zk4 kc_A_add ⟨rfl, by decide, by decide, by decide⟩ rfl rfl ⟨Nat.le_of_ble_eq_true rfl, Nat.le_of_ble_eq_true rfl⟩ ⟨hP, hK, hD, hS, hA, hE⟩ (va_recv hK hP (ci := 3) (q0 := 3) rfl rfl) rfl hl.1 rfl (Nat.le_of_ble_eq_true rfl) d_Z_giveBack_33 ⟨Nat.le_of_ble_eq_true rfl, Nat.le_of_ble_eq_true rfl⟩) ⟨hP, hK, hD, hS, hA, hE⟩ (fun r u H locs hu hP hK hD hS => ?_)
  obtain ⟨cE, aE, cap, rfl, hc1, hc2, hc3⟩ := hu
  have hP : va_P D zcl (zW t0 g (zq_add (zq_g0 z b) b cE aE cap)) H := hP
  have hD : va_D A (zW t0 g (zq_add (zq_g0 z b) b cE aE cap)) := hD
  have hK : va_K D zcl (zT g (zq_add (zq_g0 z b) b cE aE cap)) s := hK
  refine lv_pop hx hb d_Z_giveBack_36 rfl ?_
  refine lv_aload_n hx hb d_Z_giveBack_37 rfl (lv_at hl 0 rfl) ?_
  refine lv_dup hx hb d_Z_giveBack_38 rfl ?_
  refine va_get (D := D) (ci := 0) (v := .int (nI (z_ko (zq_add (zq_g0 z b) b cE aE cap)))) (C := RZ) (T := TZ) (N := 11) hx hb hk inZ hown hK hP 0 rfl rfl 3 (by decide) (hk _ zk59) (fun _ h9 => h9) rfl d_Z_giveBack_39 ?_
  refine lv_aload_n hx hb d_Z_giveBack_42 rfl (lv_at hl 1 rfl) ?_
  obtain ⟨k9, hk9⟩ := zpool (t0 := t0) (g := g) (z := (zq_add (zq_g0 z b) b cE aE cap)) (show b ∈ z_LB (zq_add (zq_g0 z b) b cE aE cap) from hb0)
  refine va_getN (D := D) (ci := 1) (v := .int (nI ((z_bz (zq_add (zq_g0 z b) b cE aE cap)) b))) (C := RB) (T := TB) (N := 4) hx hb hk inB hown hK hP k9 hk9 rfl 1 (by decide) (va_Nw.use rfl (hE.1.1 _ zn234)) (fun _ h9 => h9) rfl d_Z_giveBack_43 ?_
  refine lv_iadd hx hb d_Z_giveBack_46 ?_
  refine zh_t (show (nI (z_ko (zq_add (zq_g0 z b) b cE aE cap)) + nI ((z_bz (zq_add (zq_g0 z b) b cE aE cap)) b)) = nI (z_ko (zq_add (zq_g0 z b) b cE aE cap) + (z_bz (zq_add (zq_g0 z b) b cE aE cap)) b) from nI_add _ _) ?_
  refine va_put (D := D) (ci := 0) (v := .int (nI (z_ko (zq_add (zq_g0 z b) b cE aE cap) + (z_bz (zq_add (zq_g0 z b) b cE aE cap)) b))) (ty := .int) (C := RZ) (T := TZ) (N := 11) hx hb hk inZ tyZ okZ nmZ hown hK hP hD hS 0 rfl rfl 3 (by decide) (hk _ zk59) (fun _ h9 => h9) rfl (by decide +kernel) rfl rfl (Nat.le_of_ble_eq_true rfl) d_Z_giveBack_47 (fun H locs hP hD hS => ?_)
  have hP : va_P D zcl (zW t0 g (zmk (z_oct ((zq_add (zq_g0 z b) b cE aE cap))) (z_tk ((zq_add (zq_g0 z b) b cE aE cap))) (z_ko (zq_add (zq_g0 z b) b cE aE cap) + (z_bz (zq_add (zq_g0 z b) b cE aE cap)) b) (z_lb ((zq_add (zq_g0 z b) b cE aE cap))) (z_lo ((zq_add (zq_g0 z b) b cE aE cap))) (z_mb ((zq_add (zq_g0 z b) b cE aE cap))) (z_rb ((zq_add (zq_g0 z b) b cE aE cap))) (z_rn ((zq_add (zq_g0 z b) b cE aE cap))) (z_lf ((zq_add (zq_g0 z b) b cE aE cap))) (z_ln ((zq_add (zq_g0 z b) b cE aE cap))) (z_md ((zq_add (zq_g0 z b) b cE aE cap))) (z_cE ((zq_add (zq_g0 z b) b cE aE cap))) (z_aE ((zq_add (zq_g0 z b) b cE aE cap))) (z_cap ((zq_add (zq_g0 z b) b cE aE cap))) (z_kl ((zq_add (zq_g0 z b) b cE aE cap))) (z_LB ((zq_add (zq_g0 z b) b cE aE cap))) (z_bs ((zq_add (zq_g0 z b) b cE aE cap))) (z_bz ((zq_add (zq_g0 z b) b cE aE cap))) (z_kp ((zq_add (zq_g0 z b) b cE aE cap))) (z_rc ((zq_add (zq_g0 z b) b cE aE cap))))) H := hP
  have hD : va_D A (zW t0 g (zmk (z_oct ((zq_add (zq_g0 z b) b cE aE cap))) (z_tk ((zq_add (zq_g0 z b) b cE aE cap))) (z_ko (zq_add (zq_g0 z b) b cE aE cap) + (z_bz (zq_add (zq_g0 z b) b cE aE cap)) b) (z_lb ((zq_add (zq_g0 z b) b cE aE cap))) (z_lo ((zq_add (zq_g0 z b) b cE aE cap))) (z_mb ((zq_add (zq_g0 z b) b cE aE cap))) (z_rb ((zq_add (zq_g0 z b) b cE aE cap))) (z_rn ((zq_add (zq_g0 z b) b cE aE cap))) (z_lf ((zq_add (zq_g0 z b) b cE aE cap))) (z_ln ((zq_add (zq_g0 z b) b cE aE cap))) (z_md ((zq_add (zq_g0 z b) b cE aE cap))) (z_cE ((zq_add (zq_g0 z b) b cE aE cap))) (z_aE ((zq_add (zq_g0 z b) b cE aE cap))) (z_cap ((zq_add (zq_g0 z b) b cE aE cap))) (z_kl ((zq_add (zq_g0 z b) b cE aE cap))) (z_LB ((zq_add (zq_g0 z b) b cE aE cap))) (z_bs ((zq_add (zq_g0 z b) b cE aE cap))) (z_bz ((zq_add (zq_g0 z b) b cE aE cap))) (z_kp ((zq_add (zq_g0 z b) b cE aE cap))) (z_rc ((zq_add (zq_g0 z b) b cE aE cap))))) := hD
  have hP : va_P D zcl (zW t0 g (zq_gb z b cE aE cap)) H := hP
  have hD : va_D A (zW t0 g (zq_gb z b cE aE cap)) := hD
  have hK : va_K D zcl (zT g (zq_gb z b cE aE cap)) s := hK
  refine lv_aload_n hx hb d_Z_giveBack_50 rfl (lv_at hl 0 rfl) ?_
  refine va_get (D := D) (ci := 0) (v := .ref (g_aK g)) (C := RZ) (T := TZ) (N := 11) hx hb hk inZ hown hK hP 0 rfl rfl 2 (by decide) (hk _ zk58) (fun _ h9 => h9) rfl d_Z_giveBack_51 ?_
  refine vp_callSi (zrV (n := 0) (As := []) (rest := []) ⟨hx, hb, hml, hown, hk⟩ (c_A_size_ok l D t0 g (zq_gb z b cE aE cap) H.size) zk337 zk338 zk339 zk4 kc_A_size ⟨rfl, by decide, by decide, by decide⟩ rfl rfl ⟨Nat.le_of_ble_eq_true rfl, Nat.le_of_ble_eq_true rfl⟩ ⟨hP, hK, hD, hS, hA, hE⟩ (va_recv hK hP (ci := 3) (q0 := 3) rfl rfl) rfl hl.1 rfl (Nat.le_of_ble_eq_true rfl) d_Z_giveBack_54 ⟨Nat.le_of_ble_eq_true rfl, Nat.le_of_ble_eq_true rfl⟩).run (fun r hr1 => ?_)
  subst hr1
  refine lv_istore_n (lv' := [(2, .int (nI ((z_kl (zq_gb z b cE aE cap)).length))), (0, .ref (g_h g)), (1, .ref b)]) hx hb d_Z_giveBack_57 rfl hl (by decide) rfl (fun ls hl => ?_)
  have hgb : zOK (zq_gb z b cE aE cap) := hz.gb hb0 hc1 hc2 hc3 hkl
  have hkg : z_ko (zq_gb z b cE aE cap) = zkso (z_bz (zq_gb z b cE aE cap)) (z_kl (zq_gb z b cE aE cap)) := by show z_ko z + z_bz z b = zkso (z_bz z) (z_kl z ++ [b]); rw [zkso_app, hko]
  have hlg : (z_kl (zq_gb z b cE aE cap)).length = (z_kl z).length + 1 := by show (z_kl z ++ [b]).length = _; rw [List.length_append]; rfl
  generalize hYe : (zq_gb z b cE aE cap) = y0 at hP hK hD hl hgb hkg hlg
  refine zh_loopH (A := ZT) (fun q H locs ls => lv_has ls 3 [(0, .ref (g_h g)), (2, .int (nI ((z_kl q).length)))] ∧ va_P D zcl (zW t0 g q) H ∧ va_K D zcl (zT g q) s ∧ va_D A (zW t0 g q) ∧ va_S A s.heap H locs ∧ (zOK q) ∧ (z_ko q = zkso (z_bz q) (z_kl q)) ∧ (zq_run (z_kl q).length q = zq_run (z_kl y0).length y0)) (fun q => (z_kl q).length) ?_ y0 ⟨lv_sub hl [1, 0] rfl, hP, hK, hD, hS, hgb, hkg, rfl⟩
  rintro y H locs ls ⟨hl, hP, hK, hD, hS, hy, hyk, hyr⟩ ih
  have hl : lv_has ls 3 [(0, .ref (g_h g)), (2, .int (nI ((z_kl y).length)))] := hl
  have hP : va_P D zcl (zW t0 g y) H := hP
  have hK : va_K D zcl (zT g y) s := hK
  have hD : va_D A (zW t0 g y) := hD
  have hy : zOK y := hy
  have hyk : z_ko y = zkso (z_bz y) (z_kl y) := hyk
  have hyr : zq_run (z_kl y).length y = zq_run (z_kl y0).length y0 := hyr
  have hy255 : (z_kl y).length ≤ 255 := hy.2.2.2.2.2.2.2.2.2.2
  have hyb : z_ko y ≤ 2048 * (z_kl y).length := by rw [hyk]; exact zkso_le (fun a9 h9 => (hy.2.1 a9 (hy.2.2.2.2.2.2.1 a9 h9)).1)
  refine lv_iload_n hx hb d_Z_giveBack_58 rfl (lv_at hl 1 rfl) ?_
  refine lv_if_le (tgt := 82) hx hb d_Z_giveBack_59 (by decide) (fun h => ?_) (fun h => ?_)
  · rw [show (0 : Int32) = nI 0 from rfl, nI_leI (by omega) (by omega)] at h
    exact W.vret hx hb hr (fun t ht hW => ⟨⟨y, rfl, ⟨cE, aE, cap, by rw [hYe, ← hlg, ← hyr]; rw [show (z_kl y).length = 0 by omega]; rfl, hc1, hc2, hc3⟩, by rw [ht]; exact hP, va_K.moved hW.alike hK, hD⟩, hS.F ht⟩) hS.2.2 d_Z_giveBack_82
  rw [show (0 : Int32) = nI 0 from rfl, nI_leI (by omega) (by omega)] at h
  refine lv_aload_n hx hb d_Z_giveBack_62 rfl (lv_at hl 0 rfl) ?_
  refine va_get (D := D) (ci := 0) (v := .int (nI (z_ko y))) (C := RZ) (T := TZ) (N := 11) hx hb hk inZ hown hK hP 0 rfl rfl 3 (by decide) (hk _ zk59) (fun _ h9 => h9) rfl d_Z_giveBack_63 ?_
  refine lv_sipush (v := nI 512) hx hb d_Z_giveBack_66 (by decide) ?_
  refine lv_icmp_le (tgt := 82) hx hb d_Z_giveBack_69 (by decide) (fun h2 => ?_) (fun h2 => ?_)
  · rw [nI_leI (by omega) (by omega)] at h2
    exact W.vret hx hb hr (fun t ht hW => ⟨⟨y, rfl, ⟨cE, aE, cap, by rw [hYe, ← hlg, ← hyr]; exact (zq_run_stop (by omega) _).symm, hc1, hc2, hc3⟩, by rw [ht]; exact hP, va_K.moved hW.alike hK, hD⟩, hS.F ht⟩) hS.2.2 d_Z_giveBack_82
  rw [nI_leI (by omega) (by omega)] at h2
  obtain ⟨b9, kr, hk9⟩ : ∃ (b9 : Nat) (kr : List Nat), z_kl y = b9 :: kr := by cases e9 : z_kl y with | nil => (rw [e9] at h; exact absurd (Nat.le_refl 0) h) | cons b9 kr => exact ⟨b9, kr, rfl⟩
  have hdk : z_ko y = z_bz y b9 + zkso (z_bz y) kr := by rw [hyk, hk9]; rfl
  have hkl9 : (z_kl y).length = kr.length + 1 := by rw [hk9]; rfl
  refine lv_aload_n hx hb d_Z_giveBack_72 rfl (lv_at hl 0 rfl) ?_
  refine zcv (zrV (n := 0) (As := []) (rest := []) ⟨hx, hb, hml, hown, hk⟩ (c_Z_dropOldestKept_ok l D t0 g y H.size b9 kr hk9 hy (by omega)) zk341 zk343 ks_Z_dropOldestKept zk1 kc_Z_dropOldestKept ⟨rfl, by decide, by decide, by decide⟩ rfl rfl ⟨Nat.le_of_ble_eq_true rfl, Nat.le_of_ble_eq_true rfl⟩ ⟨hP, hK, hD, hS, hA, hE⟩ (va_recv hK hP (ci := 0) (q0 := 0) rfl rfl) rfl hl.1 rfl (Nat.le_of_ble_eq_true rfl) d_Z_giveBack_73 ⟨Nat.le_of_ble_eq_true rfl, Nat.le_of_ble_eq_true rfl⟩) ⟨hP, hK, hD, hS, hA, hE⟩ (fun u H locs hu hP hK hD hS => ?_)
  subst hu
  have hP : va_P D zcl (zW t0 g (zq_drop y b9 kr)) H := hP
  have hK : va_K D zcl (zT g (zq_drop y b9 kr)) s := hK
  have hD : va_D A (zW t0 g (zq_drop y b9 kr)) := hD
  refine lv_iinc (lv' := [(2, .int (nI ((z_kl y).length - 1))), (0, .ref (g_h g))]) (v := nI ((z_kl y).length - 1)) hx hb d_Z_giveBack_76 hl (k := 1) rfl (zm1 (by omega)) (by decide) rfl (fun ls hl => ?_)
  have hl : lv_has ls 3 [(2, .int (nI ((z_kl (zq_drop y b9 kr)).length))), (0, .ref (g_h g))] := by rw [show (z_kl (zq_drop y b9 kr)).length = (z_kl y).length - 1 from by rw [hkl9]; rfl]; exact hl
  refine lv_goto (tgt := 58) hx hb d_Z_giveBack_79 (by decide) ?_
  exact ih (zq_drop y b9 kr) H locs ls ⟨lv_sub hl [1, 0] rfl, hP, hK, hD, hS, hy.drop hk9, (show z_ko y - z_bz y b9 = zkso (z_bz y) kr by omega), (by rw [← hyr, hkl9, zq_run_step (by omega) hk9]; rfl)⟩ (by show kr.length < (z_kl y).length; omega)
set_option maxHeartbeats 1000000 in
set_option maxRecDepth 100000 in
theorem c_Z_back_ok (l : Launch) (D : va_G) (t0 : Nat) (g : ZG) (z : ZT) (sz : Nat) (v : Int32) (hz : zOK z) (hh : ∀ a : Nat, zq_st z v = some a → z_kp z a = false → 1 ≤ z_lb z ∧ z_bz z a ≤ z_lo z ∧ (z_kl z).length < 255) (hko : z_ko z = zkso (z_bz z) (z_kl z)) (hst : l.stackTraces = false) : vx_Met l y_Z_back w_Z_back ({ frames := 8, cells := 2, slots := 1006, locals := 300 }) (zPre D t0 (zT g z) (zW t0 g z) sz [.ref (g_h g), .int v]) (va_Qi (fun r u => zq_ls z v = 0 ∧ ∃ (a : Nat) (cE : ClassId) (aE cap : Nat), zq_st z v = some a ∧ z_kp z a = false ∧ u = zq_run ((z_kl z).length + 1) (zq_gb z a cE aE cap) ∧ ((z_kl z).length + 1 ≤ cap ∧ 2 ≤ cap ∧ cap < 1000) ∧ r = nI (z_bz z a)) (fun (u : ZT) t => zPost D (zT g u) (va_A (zW t0 g z) sz) (zW t0 g u) t) (va_A (zW t0 g z) sz)) (zXc D (zT g z) (zW t0 g z) (va_A (zW t0 g z) sz) (fun E => (E = "java/lang/IllegalArgumentException" ∧ zq_ls z v = 1) ∨ (E = "java/lang/IllegalStateException" ∧ zq_ls z v = 2))) 2 1006 (va_A (zW t0 g z) sz) := by
  refine vx_ofW (cc := c_Z_back) (maxL := 3) (ret := (some .int)) (by decide) rfl ?_
  intro p e s m args below meth c s₁ B hml hex hv
  obtain ⟨rfl, hsz, hP, hK, hD0, hE⟩ := hv
  have hx := B.exec
  have hb := B.bytes
  have hr := B.returns
  have hts := atoms_spec (ws := w_Z_back) B.pre
  have hk : ∀ w ∈ zB, w.before _ s = true := fun w h => hts w (List.mem_cons_of_mem _ h)
  have hown : s.vm.findClass "ZoneHeap" = some m.cls := findClass_of_methodNamed B.named
  have hlocks := B.notSynchronized
  subst hsz
  have hD := hD0.self (sz := s.heap.size)
  generalize hAe : va_A (zW t0 g z) s.heap.size = A at hD hE ⊢
  have hA : ∀ q : Nat, s.heap.size ≤ q → A q := fun q h => by rw [← hAe]; exact Or.inr h
  have hS : va_S A s.heap s.heap [] := va_S.rf
  have hl := lv_entry ([.ref (g_h g), .int v]) (n := 3) (Nat.le_of_ble_eq_true rfl)
  rw [lg_entry_eq]
  generalize (lg_sl ([.ref (g_h g), .int v]) ++ List.replicate (3 - (lg_sl ([.ref (g_h g), .int v])).length) Slot.unset).toArray = ls at hl ⊢
  have hl : lv_has ls 3 [(0, .ref (g_h g)), (1, .int v)] := hl
  refine lv_aload_n hx hb d_Z_back_0 rfl (lv_at hl 0 rfl) ?_
  refine lv_iload_n hx hb d_Z_back_1 rfl (lv_at hl 1 rfl) ?_
  refine zxcq (zxV (n := 1) (As := [.int v]) (rest := []) ⟨hx, hb, hml, hown, hk⟩ (c_Z_liveStandingAt_ok l D t0 g z s.heap.size v hz hst) zk260 zk262 ks_Z_liveStandingAt zk1 kc_Z_liveStandingAt ⟨rfl, by decide, by decide, by decide⟩ rfl rfl ⟨Nat.le_of_ble_eq_true rfl, Nat.le_of_ble_eq_true rfl⟩ ⟨hP, hK, hD, hS, hA, hE⟩ (va_recv hK hP (ci := 0) (q0 := 0) rfl rfl) rfl hl.1 rfl (Nat.le_of_ble_eq_true rfl) d_Z_back_2 ⟨Nat.le_of_ble_eq_true rfl, Nat.le_of_ble_eq_true rfl⟩) ⟨hP, hK, hD, hS, hA, hE⟩ (fun E ce q9 H locs hEX hP hD hS hce hcv hcl => ?_) (fun r u H locs hu hP hK hD hS => ?_)
  · exact zpass hex hlocks hK (hEX) hP hD hS hce hcv hcl (Nat.le_of_ble_eq_true rfl) (Nat.le_of_ble_eq_true rfl)
  have hP : va_P D zcl (zW t0 g z) H := hP
  have hD : va_D A (zW t0 g z) := hD
  have hK : va_K D zcl (zT g z) s := hK
  obtain ⟨hls, hr0⟩ := hu
  obtain ⟨a, hsa, hka⟩ := zq_ls_0 hls
  rw [hsa] at hr0
  subst hr0
  refine zh_v (show va_rf (some a) = .ref a from rfl) ?_
  have ha : a ∈ z_LB z := zq_st_in hz hsa
  obtain ⟨hh1, hh2, hh3⟩ := hh a hsa hka
  refine lv_astore_n (lv' := [(2, .ref a), (0, .ref (g_h g)), (1, .int v)]) hx hb d_Z_back_5 rfl hl (by decide) rfl (fun ls hl => ?_)
  refine lv_aload_n hx hb d_Z_back_6 rfl (lv_at hl 1 rfl) ?_
  refine lv_aload_n hx hb d_Z_back_7 rfl (lv_at hl 0 rfl) ?_
  refine zcv (zrV (n := 1) (As := [.ref a]) (rest := []) ⟨hx, hb, hml, hown, hk⟩ (c_Z_giveBack_ok l D t0 g z H.size a ha hz hh1 hh2 hh3 hko) zk281 zk283 ks_Z_giveBack zk1 kc_Z_giveBack ⟨rfl, by decide, by decide, by decide⟩ rfl rfl ⟨Nat.le_of_ble_eq_true rfl, Nat.le_of_ble_eq_true rfl⟩ ⟨hP, hK, hD, hS, hA, hE⟩ (va_recv hK hP (ci := 0) (q0 := 0) rfl rfl) rfl hl.1 rfl (Nat.le_of_ble_eq_true rfl) d_Z_back_8 ⟨Nat.le_of_ble_eq_true rfl, Nat.le_of_ble_eq_true rfl⟩) ⟨hP, hK, hD, hS, hA, hE⟩ (fun u H locs hu hP hK hD hS => ?_)
  obtain ⟨cE, aE, cap, hu, hc1, hc2, hc3⟩ := hu
  have hP : va_P D zcl (zW t0 g u) H := hP
  have hD : va_D A (zW t0 g u) := hD
  have hK : va_K D zcl (zT g u) s := hK
  have hau : a ∈ z_LB u := by rw [hu, zq_run_keep z_LB (fun _ _ _ => rfl)]; exact ha
  have hub : z_bz u a = z_bz z a := by rw [hu, zq_run_keep z_bz (fun _ _ _ => rfl)]; rfl
  refine lv_aload_n hx hb d_Z_back_11 rfl (lv_at hl 0 rfl) ?_
  obtain ⟨k9, hk9⟩ := zpool (t0 := t0) (g := g) (z := u) hau
  refine va_getN (D := D) (ci := 1) (v := .int (nI (z_bz u a))) (C := RB) (T := TB) (N := 4) hx hb hk inB hown hK hP k9 hk9 rfl 1 (by decide) (va_Nw.use rfl (hE.1.1 _ zn234)) (fun _ h9 => h9) rfl d_Z_back_12 ?_
  refine vx_ret ?_
  exact W.iret hx hb hr (fun t ht hW => ⟨⟨_, u, rfl, ⟨hls, a, cE, aE, cap, hsa, hka, hu, ⟨hc1, hc2, hc3⟩, by rw [hub]⟩, by rw [ht]; exact hP, va_K.moved hW.alike hK, hD⟩, hS.F ht⟩) hS.2.2 d_Z_back_15
set_option maxHeartbeats 1000000 in
set_option maxRecDepth 100000 in
theorem c_Z_again_ok (l : Launch) (D : va_G) (t0 : Nat) (g : ZG) (z : ZT) (sz : Nat) (v v2 : Int32) (hz : zOK z) (hh : ∀ a : Nat, zq_st z v = some a → z_kp z a = false → 1 ≤ z_lb z ∧ z_bz z a ≤ z_lo z ∧ (z_kl z).length < 255) (hko : z_ko z = zkso (z_bz z) (z_kl z)) (hst : l.stackTraces = false) : vx_Met l y_Z_again w_Z_again ({ frames := 8, cells := 4, slots := 1016, locals := 330 }) (zPre D t0 (zT g z) (zW t0 g z) sz [.ref (g_h g), .int v, .int v2]) (va_Qi (fun r u => (0 ≤ v2.toInt ∧ v2.toInt ≤ 2048) ∧ zq_ls z v = 0 ∧ ∃ (a k : Nat), zq_st z v = some a ∧ z_kp z a = false ∧ zr_room (zt_gap (z_tk z) (zc v2.toInt.toNat)) (zc v2.toInt.toNat) k ∧ r = nI (16 * k) ∧ ((k = 0 ∧ u = z) ∨ (k ≠ 0 ∧ ∃ (q : Nat) (cE : ClassId) (aE cap : Nat), q ∉ z_LB z ∧ u = zq_run ((z_kl z).length + 1) (zq_gb (zu_oct (zq_make z q k v2.toInt.toNat) (va_cpy (z_oct z) (z_oct z) (z_bs z a) (16 * k) (min (z_bz z a) v2.toInt.toNat))) a cE aE cap) ∧ ((z_kl z).length + 1 ≤ cap ∧ 2 ≤ cap ∧ cap < 1000)))) (fun (u : ZT) t => zPost D (zT g u) (va_A (zW t0 g z) sz) (zW t0 g u) t) (va_A (zW t0 g z) sz)) (zXc D (zT g z) (zW t0 g z) (va_A (zW t0 g z) sz) (fun E => (E = "java/lang/IllegalArgumentException" ∧ ¬ (0 ≤ v2.toInt ∧ v2.toInt ≤ 2048)) ∨ ((0 ≤ v2.toInt ∧ v2.toInt ≤ 2048) ∧ ((E = "java/lang/IllegalArgumentException" ∧ zq_ls z v = 1) ∨ (E = "java/lang/IllegalStateException" ∧ zq_ls z v = 2))))) 4 1016 (va_A (zW t0 g z) sz) := by
  refine vx_ofW (cc := c_Z_again) (maxL := 5) (ret := (some .int)) (by decide) rfl ?_
  intro p e s m args below meth c s₁ B hml hex hv
  obtain ⟨rfl, hsz, hP, hK, hD0, hE⟩ := hv
  have hx := B.exec
  have hb := B.bytes
  have hr := B.returns
  have hts := atoms_spec (ws := w_Z_again) B.pre
  have hk : ∀ w ∈ zB, w.before _ s = true := fun w h => hts w (List.mem_cons_of_mem _ h)
  have hown : s.vm.findClass "ZoneHeap" = some m.cls := findClass_of_methodNamed B.named
  have hlocks := B.notSynchronized
  subst hsz
  have hD := hD0.self (sz := s.heap.size)
  generalize hAe : va_A (zW t0 g z) s.heap.size = A at hD hE ⊢
  have hA : ∀ q : Nat, s.heap.size ≤ q → A q := fun q h => by rw [← hAe]; exact Or.inr h
  have hS : va_S A s.heap s.heap [] := va_S.rf
  have hl := lv_entry ([.ref (g_h g), .int v, .int v2]) (n := 5) (Nat.le_of_ble_eq_true rfl)
  rw [lg_entry_eq]
  generalize (lg_sl ([.ref (g_h g), .int v, .int v2]) ++ List.replicate (5 - (lg_sl ([.ref (g_h g), .int v, .int v2])).length) Slot.unset).toArray = ls at hl ⊢
  have hl : lv_has ls 5 [(0, .ref (g_h g)), (1, .int v), (2, .int v2)] := hl
  refine lv_iload_n hx hb d_Z_again_0 rfl (lv_at hl 2 rfl) ?_
  refine zxcv (zxS (n := 1) (As := [.int v2]) (rest := []) ⟨hx, hb, hml, hown, hk⟩ (c_Z_refuseWrongSize_ok l D t0 (zT g z) (zW t0 g z) s.heap.size v2 hst) zk143 zk144 zk1 kc_Z_refuseWrongSize ⟨by decide, by decide, by decide⟩ rfl rfl ⟨Nat.le_of_ble_eq_true rfl, Nat.le_of_ble_eq_true rfl⟩ ⟨hP, hK, hD, hS, hA, hE⟩ rfl hl.1 rfl (Nat.le_of_ble_eq_true rfl) d_Z_again_1 ⟨Nat.le_of_ble_eq_true rfl, Nat.le_of_ble_eq_true rfl⟩) ⟨hP, hK, hD, hS, hA, hE⟩ (fun E ce q9 H locs hEX hP hD hS hce hcv hcl => ?_) (fun u H locs hu hP hK hD hS => ?_)
  · exact zpass hex hlocks hK (Or.inl hEX) hP hD hS hce hcv hcl (Nat.le_of_ble_eq_true rfl) (Nat.le_of_ble_eq_true rfl)
  have hP : va_P D zcl (zW t0 g z) H := hP
  have hD : va_D A (zW t0 g z) := hD
  have hK : va_K D zcl (zT g z) s := hK
  have hok : (0 ≤ v2.toInt ∧ v2.toInt ≤ 2048) := hu
  refine lv_aload_n hx hb d_Z_again_4 rfl (lv_at hl 0 rfl) ?_
  refine lv_iload_n hx hb d_Z_again_5 rfl (lv_at hl 1 rfl) ?_
  refine zxcq (zxV (n := 1) (As := [.int v]) (rest := []) ⟨hx, hb, hml, hown, hk⟩ (c_Z_liveStandingAt_ok l D t0 g z H.size v hz hst) zk260 zk262 ks_Z_liveStandingAt zk1 kc_Z_liveStandingAt ⟨rfl, by decide, by decide, by decide⟩ rfl rfl ⟨Nat.le_of_ble_eq_true rfl, Nat.le_of_ble_eq_true rfl⟩ ⟨hP, hK, hD, hS, hA, hE⟩ (va_recv hK hP (ci := 0) (q0 := 0) rfl rfl) rfl hl.1 rfl (Nat.le_of_ble_eq_true rfl) d_Z_again_6 ⟨Nat.le_of_ble_eq_true rfl, Nat.le_of_ble_eq_true rfl⟩) ⟨hP, hK, hD, hS, hA, hE⟩ (fun E ce q9 H locs hEX hP hD hS hce hcv hcl => ?_) (fun r u H locs hu hP hK hD hS => ?_)
  · exact zpass hex hlocks hK (Or.inr ⟨hok, hEX⟩) hP hD hS hce hcv hcl (Nat.le_of_ble_eq_true rfl) (Nat.le_of_ble_eq_true rfl)
  have hP : va_P D zcl (zW t0 g z) H := hP
  have hD : va_D A (zW t0 g z) := hD
  have hK : va_K D zcl (zT g z) s := hK
  obtain ⟨hls, hr0⟩ := hu
  obtain ⟨a, hsa, hka⟩ := zq_ls_0 hls
  rw [hsa] at hr0
  subst hr0
  refine zh_v (show va_rf (some a) = .ref a from rfl) ?_
  have ha : a ∈ z_LB z := zq_st_in hz hsa
  obtain ⟨hh1, hh2, hh3⟩ := hh a hsa hka
  obtain ⟨n, hn, rfl⟩ : ∃ n : Nat, n ≤ 2048 ∧ v2 = nI n := ⟨v2.toInt.toNat, by omega, Int32.toInt_inj.mp (by rw [nI_toInt (by omega)]; omega)⟩
  have hvn : (nI n).toInt.toNat = n := by rw [nI_toInt (by omega)]; rfl
  refine lv_astore_n (lv' := [(3, .ref a), (0, .ref (g_h g)), (1, .int v), (2, .int (nI n))]) hx hb d_Z_again_9 rfl hl (by decide) rfl (fun ls hl => ?_)
  refine lv_aload_n hx hb d_Z_again_10 rfl (lv_at hl 1 rfl) ?_
  refine lv_iload_n hx hb d_Z_again_11 rfl (lv_at hl 3 rfl) ?_
  refine zcq (zrV (n := 1) (As := [.int (nI n)]) (rest := []) ⟨hx, hb, hml, hown, hk⟩ (c_Z_make_ok l D t0 g z H.size n hn) zk213 zk215 ks_Z_make zk1 kc_Z_make ⟨rfl, by decide, by decide, by decide⟩ rfl rfl ⟨Nat.le_of_ble_eq_true rfl, Nat.le_of_ble_eq_true rfl⟩ ⟨hP, hK, hD, hS, hA, hE⟩ (va_recv hK hP (ci := 0) (q0 := 0) rfl rfl) rfl hl.1 rfl (Nat.le_of_ble_eq_true rfl) d_Z_again_12 ⟨Nat.le_of_ble_eq_true rfl, Nat.le_of_ble_eq_true rfl⟩) ⟨hP, hK, hD, hS, hA, hE⟩ (fun r u H locs hu hP hK hD hS => ?_)
  obtain ⟨k, hroom, hcase⟩ := hu
  rcases hcase with ⟨hk0, rfl, hue⟩ | ⟨hk0, q, hq, rfl, rfl⟩
  · rw [hue] at hP hD hK
    refine zh_v (show va_rf none = .null from rfl) ?_
    refine lv_astoreN (lv' := [(4, .null), (3, .ref a), (0, .ref (g_h g)), (1, .int v), (2, .int (nI n))]) hx hb d_Z_again_15 hl (by decide) rfl (fun ls hl => ?_)
    refine lv_aloadN hx hb d_Z_again_17 (lv_at hl 0 rfl) ?_
    refine lv_ifnonnullN hx hb d_Z_again_19 ?_
    refine lv_iconst (v := nI 0) hx hb d_Z_again_22 (by decide) ?_
    refine vx_ret ?_
    refine W.widen (k := 4) (n := 1016) (by omega) (by omega) ?_
    exact W.iret hx hb hr (fun t ht hW => ⟨⟨_, z, rfl, ⟨hok, hls, a, k, hsa, hka, by rw [hvn]; exact hroom, by rw [hk0], Or.inl ⟨hk0, rfl⟩⟩, by rw [ht]; exact hP, va_K.moved hW.alike hK, hD⟩, hS.F ht⟩) hS.2.2 d_Z_again_23
  refine zh_v (show va_rf (some q) = .ref q from rfl) ?_
  have hP : va_P D zcl (zW t0 g (zq_make z q k n)) H := hP
  have hD : va_D A (zW t0 g (zq_make z q k n)) := hD
  have hK : va_K D zcl (zT g (zq_make z q k n)) s := hK
  have hk5 : 1 ≤ k ∧ k + zc n + 1 ≤ 512 := by
    rcases hroom with ⟨e0, -⟩ | ⟨e1, e2, -, -⟩
    · exact absurd e0 hk0
    · exact ⟨e1, e2⟩
  have hqm : q ∈ z_LB (zq_make z q k n) := List.mem_append_right _ List.mem_cons_self
  have hne : a ≠ q := fun e9 => hq (e9 ▸ ha)
  have ham : a ∈ z_LB (zq_make z q k n) := List.mem_append_left _ ha
  have hblk := hz.blk ha
  have hzge := zc_ge n
  refine lv_astore (lv' := [(4, .ref q), (3, .ref a), (0, .ref (g_h g)), (1, .int v), (2, .int (nI n))]) hx hb d_Z_again_15 hl (by decide) rfl (fun ls hl => ?_)
  refine lv_aload hx hb d_Z_again_17 (lv_at hl 0 rfl) ?_
  refine lv_ifnonnull (tgt := 24) hx hb d_Z_again_19 (by decide) ?_
  refine lv_aload_n hx hb d_Z_again_24 rfl (lv_at hl 2 rfl) ?_
  refine va_get (D := D) (ci := 0) (v := .ref (g_aO g)) (C := RZ) (T := TZ) (N := 11) hx hb hk inZ hown hK hP 0 rfl rfl 0 (by decide) (hk _ zk56) (fun _ h9 => h9) rfl d_Z_again_25 ?_
  refine lv_aload_n hx hb d_Z_again_28 rfl (lv_at hl 1 rfl) ?_
  obtain ⟨k9, hk9⟩ := zpool (t0 := t0) (g := g) (z := (zq_make z q k n)) ham
  refine va_getN (D := D) (ci := 1) (v := .int (nI (z_bs (zq_make z q k n) a))) (C := RB) (T := TB) (N := 4) hx hb hk inB hown hK hP k9 hk9 rfl 0 (by decide) (va_Nw.use rfl (hE.1.1 _ zn232)) (fun _ h9 => h9) rfl d_Z_again_29 ?_
  refine zh_t (show nI (z_bs (zq_make z q k n) a) = nI (z_bs z a) from congrArg nI (va_up_ne _ _ hne)) ?_
  refine lv_aload_n hx hb d_Z_again_32 rfl (lv_at hl 2 rfl) ?_
  refine va_get (D := D) (ci := 0) (v := .ref (g_aO g)) (C := RZ) (T := TZ) (N := 11) hx hb hk inZ hown hK hP 0 rfl rfl 0 (by decide) (hk _ zk56) (fun _ h9 => h9) rfl d_Z_again_33 ?_
  refine lv_aload hx hb d_Z_again_36 (lv_at hl 0 rfl) ?_
  obtain ⟨k9, hk9⟩ := zpool (t0 := t0) (g := g) (z := (zq_make z q k n)) hqm
  refine va_getN (D := D) (ci := 1) (v := .int (nI (z_bs (zq_make z q k n) q))) (C := RB) (T := TB) (N := 4) hx hb hk inB hown hK hP k9 hk9 rfl 0 (by decide) (va_Nw.use rfl (hE.1.1 _ zn232)) (fun _ h9 => h9) rfl d_Z_again_38 ?_
  refine zh_t (show nI (z_bs (zq_make z q k n) q) = nI (16 * k) from congrArg nI (va_up_self _ _ _)) ?_
  refine lv_aload_n hx hb d_Z_again_41 rfl (lv_at hl 1 rfl) ?_
  obtain ⟨k9, hk9⟩ := zpool (t0 := t0) (g := g) (z := (zq_make z q k n)) ham
  refine va_getN (D := D) (ci := 1) (v := .int (nI ((z_bz (zq_make z q k n)) a))) (C := RB) (T := TB) (N := 4) hx hb hk inB hown hK hP k9 hk9 rfl 1 (by decide) (va_Nw.use rfl (hE.1.1 _ zn234)) (fun _ h9 => h9) rfl d_Z_again_42 ?_
  refine zh_t (show nI (z_bz (zq_make z q k n) a) = nI (z_bz z a) from congrArg nI (va_up_ne _ _ hne)) ?_
  refine lv_aload hx hb d_Z_again_45 (lv_at hl 0 rfl) ?_
  obtain ⟨k9, hk9⟩ := zpool (t0 := t0) (g := g) (z := (zq_make z q k n)) hqm
  refine va_getN (D := D) (ci := 1) (v := .int (nI ((z_bz (zq_make z q k n)) q))) (C := RB) (T := TB) (N := 4) hx hb hk inB hown hK hP k9 hk9 rfl 1 (by decide) (va_Nw.use rfl (hE.1.1 _ zn234)) (fun _ h9 => h9) rfl d_Z_again_47 ?_
  refine zh_t (show nI (z_bz (zq_make z q k n) q) = nI n from congrArg nI (va_up_self _ _ _)) ?_
  refine va_mmin hx hb (hml.trans hl.1.symm) hown (hk _ zk371) (hk _ zk330) (hk _ zk10) (hk _ kc_Mt_min) (Nat.le_of_ble_eq_true rfl) (Nat.le_of_ble_eq_true rfl) (Nat.le_of_ble_eq_true rfl) (Nat.le_of_ble_eq_true rfl) d_Z_again_50 ?_
  refine zh_t (show _ = nI (min (z_bz z a) n) from zmin (by omega) (by omega)) ?_
  have hmn : min (z_bz z a) n ≤ z_bz z a ∧ min (z_bz z a) n ≤ n := ⟨Nat.min_le_left _ _, Nat.min_le_right _ _⟩
  have hcl1 : (nI (z_bs z a)).toNatClampNeg = z_bs z a := nI_clamp (by omega)
  have hcl2 : (nI (16 * k)).toNatClampNeg = 16 * k := nI_clamp (by omega)
  have hcl3 : (nI (min (z_bz z a) n)).toNatClampNeg = min (z_bz z a) n := nI_clamp (by omega)
  refine va_copyi (ty := .byte) hx hb (hml.trans hl.1.symm) hown (hk _ zk372) (hk _ zk334) (hk _ zk333) (hk _ zk15) hK hP hD hS 1 1 0 0 rfl rfl rfl rfl rfl (nI_pos (by omega)) (nI_pos (by omega)) (nI_pos (by omega)) (by rw [hcl1, hcl3]; omega) (by rw [hcl2, hcl3]; omega) (fun i9 _ => zfitb _) (Nat.le_of_ble_eq_true rfl) (by decide +kernel) d_Z_again_53 (fun H locs hP hD hS => ?_)
  rw [hcl1, hcl2, hcl3, zcpy_b] at hP hD
  have hP : va_P D zcl (zW t0 g (zu_oct (zq_make z q k n) (va_cpy (z_oct z) (z_oct z) (z_bs z a) (16 * k) (min (z_bz z a) n)))) H := hP
  have hD : va_D A (zW t0 g (zu_oct (zq_make z q k n) (va_cpy (z_oct z) (z_oct z) (z_bs z a) (16 * k) (min (z_bz z a) n)))) := hD
  have hK : va_K D zcl (zT g (zu_oct (zq_make z q k n) (va_cpy (z_oct z) (z_oct z) (z_bs z a) (16 * k) (min (z_bz z a) n)))) s := hK
  have hyOK : zOK (zu_oct (zq_make z q k n) (va_cpy (z_oct z) (z_oct z) (z_bs z a) (16 * k) (min (z_bz z a) n))) := zOK.oct (hz.make hn hk5.1 hk5.2 hq) (fun x9 => by unfold va_cpy; split <;> exact hz.2.2.1 _)
  have hyko : z_ko (zu_oct (zq_make z q k n) (va_cpy (z_oct z) (z_oct z) (z_bs z a) (16 * k) (min (z_bz z a) n))) = zkso (z_bz (zu_oct (zq_make z q k n) (va_cpy (z_oct z) (z_oct z) (z_bs z a) (16 * k) (min (z_bz z a) n)))) (z_kl (zu_oct (zq_make z q k n) (va_cpy (z_oct z) (z_oct z) (z_bs z a) (16 * k) (min (z_bz z a) n)))) := hko.trans (zkso_make hz hq).symm
  have hylo : z_bz (zu_oct (zq_make z q k n) (va_cpy (z_oct z) (z_oct z) (z_bs z a) (16 * k) (min (z_bz z a) n))) a ≤ z_lo (zu_oct (zq_make z q k n) (va_cpy (z_oct z) (z_oct z) (z_bs z a) (16 * k) (min (z_bz z a) n))) := by show va_up (z_bz z) q n a ≤ z_lo z + n; rw [va_up_ne _ _ hne]; omega
  have haY : a ∈ z_LB (zu_oct (zq_make z q k n) (va_cpy (z_oct z) (z_oct z) (z_bs z a) (16 * k) (min (z_bz z a) n))) := ham
  have hqY : q ∈ z_LB (zu_oct (zq_make z q k n) (va_cpy (z_oct z) (z_oct z) (z_bs z a) (16 * k) (min (z_bz z a) n))) := hqm
  have hlY : 1 ≤ z_lb (zu_oct (zq_make z q k n) (va_cpy (z_oct z) (z_oct z) (z_bs z a) (16 * k) (min (z_bz z a) n))) := by show 1 ≤ z_lb z + 1; omega
  have hkY : (z_kl (zu_oct (zq_make z q k n) (va_cpy (z_oct z) (z_oct z) (z_bs z a) (16 * k) (min (z_bz z a) n)))).length < 255 := hh3
  have hbsY : z_bs (zu_oct (zq_make z q k n) (va_cpy (z_oct z) (z_oct z) (z_bs z a) (16 * k) (min (z_bz z a) n))) q = 16 * k := va_up_self _ _ _
  have hkeY : z_kl (zu_oct (zq_make z q k n) (va_cpy (z_oct z) (z_oct z) (z_bs z a) (16 * k) (min (z_bz z a) n))) = z_kl z := rfl
  generalize hYe : (zu_oct (zq_make z q k n) (va_cpy (z_oct z) (z_oct z) (z_bs z a) (16 * k) (min (z_bz z a) n))) = y0 at hP hK hD hyOK hyko hylo haY hqY hlY hkY hbsY hkeY
  refine lv_aload_n hx hb d_Z_again_56 rfl (lv_at hl 2 rfl) ?_
  refine lv_aload_n hx hb d_Z_again_57 rfl (lv_at hl 1 rfl) ?_
  refine zcv (zrV (n := 1) (As := [.ref a]) (rest := []) ⟨hx, hb, hml, hown, hk⟩ (c_Z_giveBack_ok l D t0 g y0 H.size a haY hyOK hlY hylo hkY hyko) zk281 zk283 ks_Z_giveBack zk1 kc_Z_giveBack ⟨rfl, by decide, by decide, by decide⟩ rfl rfl ⟨Nat.le_of_ble_eq_true rfl, Nat.le_of_ble_eq_true rfl⟩ ⟨hP, hK, hD, hS, hA, hE⟩ (va_recv hK hP (ci := 0) (q0 := 0) rfl rfl) rfl hl.1 rfl (Nat.le_of_ble_eq_true rfl) d_Z_again_58 ⟨Nat.le_of_ble_eq_true rfl, Nat.le_of_ble_eq_true rfl⟩) ⟨hP, hK, hD, hS, hA, hE⟩ (fun u H locs hu hP hK hD hS => ?_)
  obtain ⟨cE, aE, cap, hu, hc1, hc2, hc3⟩ := hu
  have hP : va_P D zcl (zW t0 g u) H := hP
  have hD : va_D A (zW t0 g u) := hD
  have hK : va_K D zcl (zT g u) s := hK
  have hqu : q ∈ z_LB u := by rw [hu, zq_run_keep z_LB (fun _ _ _ => rfl)]; exact hqY
  have hub : z_bs u q = 16 * k := by rw [hu, zq_run_keep z_bs (fun _ _ _ => rfl)]; exact hbsY
  rw [hkeY] at hu hc1
  refine lv_aload hx hb d_Z_again_61 (lv_at hl 0 rfl) ?_
  obtain ⟨k9, hk9⟩ := zpool (t0 := t0) (g := g) (z := u) hqu
  refine va_getN (D := D) (ci := 1) (v := .int (nI (z_bs u q))) (C := RB) (T := TB) (N := 4) hx hb hk inB hown hK hP k9 hk9 rfl 0 (by decide) (va_Nw.use rfl (hE.1.1 _ zn232)) (fun _ h9 => h9) rfl d_Z_again_63 ?_
  rw [← hYe] at hu
  refine vx_ret ?_
  exact W.iret hx hb hr (fun t ht hW => ⟨⟨_, u, rfl, ⟨hok, hls, a, k, hsa, hka, by rw [hvn]; exact hroom, by rw [hub], Or.inr ⟨hk0, q, cE, aE, cap, hq, by rw [hvn]; exact hu, ⟨hc1, hc2, hc3⟩⟩⟩, by rw [ht]; exact hP, va_K.moved hW.alike hK, hD⟩, hS.F ht⟩) hS.2.2 d_Z_again_66
