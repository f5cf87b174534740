-- each call keeps the relation, and answers alike
section
variable {ad : Nat → Nat} {z : ZT} {y : MT}
theorem zRel.err (h : zRel z y) (e : Nat) : zRel z (mu_err y e) := h
theorem rl.room (h : rl ad z y) {d r r' : Nat} (h1 : zr_room (zt_gap (z_tk z) d) d r) (h2 : zr_room (fun c => zr_fit (m_many y) (fun k => m_pl y k / 16) (m_sz y) c d) d r') : r = r' := h1.uniq (fun c a b => zt_gap_iff h.2.2.2.1 c a b) h2
theorem zdiv16 {k : Nat} : 16 * k / 16 = k := by omega
theorem rl.make (h : rl ad z y) {n k q : Nat} (hn : n ≤ 2048) (hr : mroom y n k) (hk : k ≠ 0) (hq : q ∉ z_LB z) : rl (va_up ad (m_many y) q) (zq_make z q k n) (mq_make y k n) := by
  rcases hr with ⟨e, -⟩ | ⟨r1, r2, r3, -⟩
  · exact absurd e hk
  have a := zt_R.make h hn r1 r2 r3 hq
  have e1 : (fun a => va_up (z_bs z) q (16 * k) a / 16) = va_up (fun a => z_bs z a / 16) q k := by rw [zdiv_up, zdiv16]
  have e2 : (fun j => va_up (m_pl y) (m_many y) (16 * k) j / 16) = va_up (fun j => m_pl y j / 16) (m_many y) k := by rw [zdiv_up, zdiv16]
  show zt_R (va_up ad (m_many y) q) (zt_set (z_tk z) k (zc n) (some q)) (z_ko z) (z_lb z + 1) (z_lo z + n) (z_kl z) (z_LB z ++ [q]) (fun a => va_up (z_bs z) q (16 * k) a / 16) (va_up (z_bz z) q n) (va_up (z_kp z) q false) (m_many y + 1) (m_backs y) (fun j => va_up (m_pl y) (m_many y) (16 * k) j / 16) (va_up (m_sz y) (m_many y) n) (va_up (m_sta y) (m_many y) 1) (m_sin y)
  rw [e1, e2]
  exact a
theorem rlR.make (h : rlR z) (hz : zOK z) {q k n : Nat} : rlR (zq_make z q k n) := fun a ha hr => by
  have hr : va_up (z_rc z) q false a = true := hr
  by_cases e : a = q
  · rw [e, va_up_self] at hr
    cases hr
  · rw [va_up_ne _ _ e] at hr
    rcases List.mem_append.mp ha with h1 | h1
    · exact h a h1 hr
    · exact absurd (List.mem_singleton.mp h1) e
theorem zRel.make (h : zRel z y) {n k q : Nat} (hn : n ≤ 2048) (hr : mroom y n k) (hk : k ≠ 0) (hq : q ∉ z_LB z) : zRel (zq_make z q k n) (mq_make y k n) := by
  obtain ⟨h1, h2, ⟨ad, h3⟩, h4, h5, h6, h7, h8⟩ := h
  have hr0 := hr
  rcases hr with ⟨e, -⟩ | ⟨r1, r2, r3, -⟩
  · exact absurd e hk
  exact ⟨h1.make hn r1 r2 hq, h2.make hn hr0 hk, ⟨_, h3.make hn hr0 hk hq⟩, h4, by show z_mb z + 1 = m_made y + 1; rw [h5], h6, h7.make h1, h8.trans (zkso_make h1 hq).symm⟩
theorem rl.mark (h : rl ad z y) (hz : zOK z) (hy : mOK y) {b aE cap : Nat} {cE : ClassId} (hb : b < m_many y) (hs : m_sta y b = 1) : rl ad (zq_gb z (ad b) cE aE cap) (mq_mark y b) ∧ 1 ≤ z_lb z ∧ z_bz z (ad b) ≤ z_lo z ∧ (z_kl z).length < 255 := by
  have a := zt_R.give h hb hs
  have hbz := (h.blk hz hy hb).2.2.1
  refine ⟨?_, a.2.1, by rw [hbz]; exact a.2.2, ?_⟩
  · show zt_R ad (z_tk z) (z_ko z + z_bz z (ad b)) (z_lb z - 1) (z_lo z - z_bz z (ad b)) (z_kl z ++ [ad b]) (z_LB z) (fun a => z_bs z a / 16) (z_bz z) (va_up (z_kp z) (ad b) true) (m_many y) (m_backs y + 1) (fun k => m_pl y k / 16) (m_sz y) (va_up (m_sta y) b 2) (va_up (m_sin y) b (m_backs y + 1))
    rw [hbz]
    exact a.1
  · have h1 := a.1.2.2.2.2.2.2.2.2
    have h2 : zsum (fun k => if va_up (m_sta y) b 2 k = 2 then 1 else 0) (m_many y) ≤ zsum (fun _ => 1) (m_many y) := zsum_mono (fun k _ => by show (if va_up (m_sta y) b 2 k = 2 then 1 else 0) ≤ 1; split <;> omega)
    rw [zsum_const] at h2
    rw [List.length_append, List.length_singleton] at h1
    have := hy.many
    omega
theorem rl.ko (h : rl ad z y) : z_ko z = mkept y := h.2.2.2.2.2.2.2.1
theorem rl.old (h : rl ad z y) {o : Nat} (ho : zr_old (m_many y) (m_sta y) (m_sin y) o) : ∃ kr, z_kl z = ad o :: kr := by
  obtain ⟨i, hi⟩ := h.2.2.2.2.1.2.1 o ho.1 ho.2.1
  cases e : z_kl z with
  | nil =>
    rw [e] at hi
    simp at hi
  | cons a kr =>
    exact ⟨kr, by rw [zt_R.head h ho e]⟩
theorem rl.drop (h : rl ad z y) (hy : mOK y) {o : Nat} {kr : List Nat} (ho : zr_old (m_many y) (m_sta y) (m_sin y) o) (hk : z_kl z = ad o :: kr) : ∃ ad', rl ad' (zq_drop z (ad o) kr) (mq_drop y o) := by
  obtain ⟨L, hL⟩ : ∃ L, m_many y = L + 1 := ⟨m_many y - 1, by have := ho.1; omega⟩
  have h' : zt_R ad (z_tk z) (z_ko z) (z_lb z) (z_lo z) (z_kl z) (z_LB z) (fun a => z_bs z a / 16) (z_bz z) (z_kp z) (L + 1) (m_backs y) (fun k => m_pl y k / 16) (m_sz y) (m_sta y) (m_sin y) := by
    have := h
    unfold rl at this
    rw [hL] at this
    exact this
  rw [hL] at ho
  have a := (zt_R.drop h' ho hk).1
  refine ⟨va_up ad o (ad L), ?_⟩
  show zt_R (va_up ad o (ad L)) (zt_set (z_tk z) (z_bs z (ad o) / 16) (zc (z_bz z (ad o))) none) (z_ko z - z_bz z (ad o)) (z_lb z) (z_lo z) kr (z_LB z) (fun a => z_bs z a / 16) (z_bz z) (z_kp z) (m_many y - 1) (m_backs y) (fun k => va_up (m_pl y) o (m_pl y (m_many y - 1)) k / 16) (va_up (m_sz y) o (m_sz y (m_many y - 1))) (va_up (m_sta y) o (m_sta y (m_many y - 1))) (va_up (m_sin y) o (m_sin y (m_many y - 1)))
  rw [hL, Nat.add_sub_cancel, zdiv_up]
  exact a
theorem rl.run : ∀ (n : Nat) {ad : Nat → Nat} {z : ZT} {y u : MT} {f : Nat}, rl ad z y → mOK y → mrun n y u → (z_kl z).length ≤ f → (∃ ad', rl ad' (zq_run f z) u) ∧ mOK u
  | 0, ad, z, y, u, f, h, hy, hr, _ => by
    obtain ⟨h1, rfl⟩ := hr
    rw [zq_run_stop (by rw [h.ko]; omega)]
    exact ⟨⟨ad, h⟩, hy⟩
  | n + 1, ad, z, y, u, f, h, hy, hr, hf => by
    obtain ⟨h1, o, ho, hr⟩ := hr
    obtain ⟨kr, hk⟩ := h.old ho
    obtain ⟨ad', h'⟩ := h.drop hy ho hk
    rw [hk, List.length_cons] at hf
    obtain ⟨f', rfl⟩ : ∃ f', f = f' + 1 := ⟨f - 1, by omega⟩
    rw [zq_run_step (by rw [h.ko]; exact h1) hk]
    exact rl.run n h' (hy.drop ho.1) hr (by show kr.length ≤ f'; omega)
theorem mrun_keep {α : Type} (f : MT → α) (hf : ∀ y o, f (mq_drop y o) = f y) : ∀ {n : Nat} {y u : MT}, mrun n y u → f u = f y
  | 0, _, _, h => by rw [h.2]
  | n + 1, y, u, h => by
    obtain ⟨-, o, -, h⟩ := h
    rw [mrun_keep f hf h, hf]
theorem rlK.gb (h : rlK z) {b aE cap : Nat} {cE : ClassId} : rlK (zq_gb z b cE aE cap) := by
  show z_ko z + z_bz z b = zkso (z_bz z) (z_kl z ++ [b])
  rw [zkso_app, show z_ko z = zkso (z_bz z) (z_kl z) from h]
theorem rlK.run : ∀ (n : Nat) {z : ZT}, rlK z → rlK (zq_run n z)
  | 0, _, h => h
  | n + 1, z, h => by
    show rlK (if 512 < z_ko z then (match z_kl z with | [] => z | b :: kr => zq_run n (zq_drop z b kr)) else z)
    split
    · split
      · exact h
      · rename_i b kr e
        refine rlK.run n ?_
        show z_ko z - z_bz z b = zkso (z_bz z) kr
        have h1 : z_ko z = zkso (z_bz z) (z_kl z) := h
        rw [e] at h1
        have h2 : z_ko z = z_bz z b + zkso (z_bz z) kr := h1
        omega
    · exact h
/-- a block is given back, on both sides -/
theorem zRel.give (h : zRel z y) (hbk : m_backs y + 1 < 100000) {b aE cap : Nat} {cE : ClassId} {u : MT} (had : rl ad z y) (hb : b < m_many y) (hs : m_sta y b = 1) (h1 : (z_kl z).length + 1 ≤ cap) (h2 : 2 ≤ cap) (h3 : cap < 1000) (hg : mgive (mq_mark y b) u) : zRel (zq_run ((z_kl z).length + 1) (zq_gb z (ad b) cE aE cap)) u ∧ m_err u = m_err y ∧ m_backs u = m_backs y + 1 := by
  obtain ⟨hz, hy, -, h4, h5, h6, h7, h8⟩ := h
  obtain ⟨a1, a2, a3, a4⟩ := had.mark (cE := cE) (aE := aE) (cap := cap) hz hy hb hs
  obtain ⟨n, hr⟩ := hg
  have hOK := hz.gb (cE := cE) (aE := aE) (had.blk hz hy hb).1 h1 h2 h3 a4
  obtain ⟨b1, b2⟩ := a1.run n (hy.mark hbk) hr (f := (z_kl z).length + 1) (by show (z_kl z ++ [ad b]).length ≤ _; rw [List.length_append]; exact Nat.le_refl _)
  have k1 : ∀ {α : Type} (f : ZT → α), (∀ z b kr, f (zq_drop z b kr) = f z) → f (zq_run ((z_kl z).length + 1) (zq_gb z (ad b) cE aE cap)) = f (zq_gb z (ad b) cE aE cap) := fun f hf => zq_run_keep f hf _ _
  refine ⟨⟨hOK.run _, b2, b1, ?_, ?_, ⟨?_, ?_⟩, ?_, (h8.gb).run _⟩, ?_, ?_⟩
  · rw [k1 z_oct (fun _ _ _ => rfl), mrun_keep m_oct (fun _ _ => rfl) hr]
    exact h4
  · rw [k1 z_mb (fun _ _ _ => rfl), mrun_keep m_made (fun _ _ => rfl) hr]
    exact h5
  · rw [k1 z_ln (fun _ _ _ => rfl), mrun_keep m_lm (fun _ _ => rfl) hr]
    exact h6.1
  · rw [k1 z_ln (fun _ _ _ => rfl), k1 z_lf (fun _ _ _ => rfl), mrun_keep m_fnd (fun _ _ => rfl) hr]
    exact h6.2
  · unfold rlR
    rw [k1 z_LB (fun _ _ _ => rfl), k1 z_rc (fun _ _ _ => rfl), k1 z_rn (fun _ _ _ => rfl), k1 z_rb (fun _ _ _ => rfl)]
    exact h7
  · rw [mrun_keep m_err (fun _ _ => rfl) hr]
    rfl
  · rw [mrun_keep m_backs (fun _ _ => rfl) hr]
    rfl
end
