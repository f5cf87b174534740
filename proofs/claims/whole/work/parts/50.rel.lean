-- the class's state and the reference's, beside each other
def rl (ad : Nat → Nat) (z : ZT) (y : MT) : Prop := zt_R ad (z_tk z) (z_ko z) (z_lb z) (z_lo z) (z_kl z) (z_LB z) (fun a => z_bs z a / 16) (z_bz z) (z_kp z) (m_many y) (m_backs y) (fun k => m_pl y k / 16) (m_sz y) (m_sta y) (m_sin y)
def rlR (z : ZT) : Prop := ∀ a ∈ z_LB z, z_rc z a = true → ∃ j : Nat, j < z_rn z ∧ z_rb z j = some a
def rlK (z : ZT) : Prop := z_ko z = zkso (z_bz z) (z_kl z)
def zRel (z : ZT) (y : MT) : Prop := zOK z ∧ mOK y ∧ (∃ ad, rl ad z y) ∧ z_oct z = m_oct y ∧ z_mb z = m_made y ∧ (z_ln z = m_lm y ∧ ∀ k : Nat, k < z_ln z → z_lf z k = m_fnd y k) ∧ rlR z ∧ rlK z
section
variable {ad : Nat → Nat} {z : ZT} {y : MT}
theorem rl.blk (h : rl ad z y) (hz : zOK z) (hy : mOK y) {k : Nat} (hk : k < m_many y) : ad k ∈ z_LB z ∧ z_bs z (ad k) = m_pl y k ∧ z_bz z (ad k) = m_sz y k ∧ z_kp z (ad k) = decide (m_sta y k = 2) := by
  obtain ⟨a1, a2, a3, a4⟩ := h.2.2.1 k hk
  have a2 : z_bs z (ad k) / 16 = m_pl y k / 16 := a2
  obtain ⟨-, c, b1, -, -⟩ := hz.2.1 _ a1
  have b2 := (hy.2.1 k).1 hk
  exact ⟨a1, by omega, a3, a4⟩
theorem rl.cell (h : rl ad z y) (hz : zOK z) (hy : mOK y) {k x : Nat} (hk : k < m_many y) (h1 : m_pl y k ≤ x) (h2 : x < m_pl y k + 16 * zc (m_sz y k)) : z_tk z (x / 16) = some (ad k) := by
  have hat := hy.at hk
  refine (h.2.2.2.1 (x / 16) (by omega) (ad k)).mpr ⟨k, hk, rfl, ?_, ?_⟩
  · show m_pl y k / 16 ≤ x / 16
    omega
  · show x / 16 < m_pl y k / 16 + zc (m_sz y k)
    have := (hy.2.1 k).1 hk
    omega
theorem rl.of (h : rl ad z y) (hy : mOK y) {c a : Nat} (hc : c < 512) (e : z_tk z c = some a) : ∃ k : Nat, k < m_many y ∧ a = ad k ∧ m_pl y k ≤ 16 * c ∧ 16 * c < m_pl y k + 16 * zc (m_sz y k) := by
  obtain ⟨k, hk, e1, e2, e3⟩ := (h.2.2.2.1 c hc a).mp e
  have e2 : m_pl y k / 16 ≤ c := e2
  have e3 : c < m_pl y k / 16 + zc (m_sz y k) := e3
  have := (hy.2.1 k).1 hk
  exact ⟨k, hk, e1, by omega, by omega⟩
theorem rl.inj (h : rl ad z y) {j k : Nat} (hj : j < m_many y) (hk : k < m_many y) (e : ad j = ad k) : j = k := h.2.1 j k hj hk e
theorem rl.st (h : rl ad z y) (hz : zOK z) (hy : mOK y) {v : Int32} {a : Nat} : zq_st z v = some a ↔ ∃ k : Nat, k < m_many y ∧ a = ad k ∧ v = nI (m_pl y k) := by
  constructor
  · intro e
    obtain ⟨x, h1, h2, h3, h4⟩ := zq_st_of e
    obtain ⟨k, hk, e1, -, -⟩ := h.of hy (by omega) h3
    refine ⟨k, hk, e1, ?_⟩
    rw [h2, ← (h.blk hz hy hk).2.1, ← e1, h4]
  · rintro ⟨k, hk, rfl, rfl⟩
    have hat := hy.at hk
    have hp := zc_pos (m_sz y k)
    unfold zq_st
    rw [zq_at_some (by omega)]
    show (z_tk z (m_pl y k / 16)).bind (fun a => if z_bs z a = m_pl y k then some a else none) = some (ad k)
    rw [h.cell hz hy hk (Nat.le_refl _) (by omega)]
    show (if z_bs z (ad k) = m_pl y k then some (ad k) else none) = some (ad k)
    rw [if_pos (h.blk hz hy hk).2.1]
theorem rl.hv (h : rl ad z y) (hz : zOK z) (hy : mOK y) {v : Int32} {a : Nat} : zq_hv z v = some a ↔ ∃ k : Nat, k < m_many y ∧ a = ad k ∧ mof y v 1 k := by
  constructor
  · intro e
    obtain ⟨x, h1, h2, h3, h4, h5, h6⟩ := zq_hv_of e
    obtain ⟨k, hk, e1, -, -⟩ := h.of hy (by omega) h3
    obtain ⟨b1, b2, b3, b4⟩ := h.blk hz hy hk
    have hat := hy.at hk
    refine ⟨k, hk, e1, ?_⟩
    rw [e1, b4] at h4
    rw [e1] at h5 h6
    have hs : m_sta y k = 1 := by
      have := of_decide_eq_false h4
      omega
    refine ⟨hs, ?_, ?_⟩
    · rw [h2, nI_toInt (by omega)]; omega
    · rw [h2, nI_toInt (by omega)]; omega
  · rintro ⟨k, hk, rfl, h1, h2, h3⟩
    have hat := hy.at hk
    have hg := zc_ge (m_sz y k)
    obtain ⟨b1, b2, b3, b4⟩ := h.blk hz hy hk
    obtain ⟨x, hx, rfl⟩ : ∃ x : Nat, x < 8192 ∧ v = nI x := ⟨v.toInt.toNat, by omega, Int32.toInt_inj.mp (by rw [nI_toInt (by omega)]; omega)⟩
    rw [nI_toInt (by omega)] at h2 h3
    unfold zq_hv
    rw [zq_at_some hx]
    show (z_tk z (x / 16)).bind (fun a => if z_kp z a = false ∧ z_bs z a ≤ x ∧ x < z_bs z a + z_bz z a then some a else none) = some (ad k)
    rw [h.cell hz hy hk (by omega) (by omega)]
    show (if z_kp z (ad k) = false ∧ z_bs z (ad k) ≤ x ∧ x < z_bs z (ad k) + z_bz z (ad k) then some (ad k) else none) = some (ad k)
    rw [if_pos ⟨by rw [b4, h1]; rfl, by omega, by omega⟩]
theorem rl.led (h : rl ad z y) (hz : zOK z) (hy : mOK y) {v : Int32} {a : Nat} : zq_led z v = some a ↔ ∃ k : Nat, k < m_many y ∧ a = ad k ∧ mlead y v k := by
  have hst : ∀ b, zq_st z v = some b → z_kp z b = false → ∃ k : Nat, k < m_many y ∧ b = ad k ∧ mlead y v k := fun b e e2 => by
    obtain ⟨k, hk, e1, hv⟩ := (h.st hz hy).mp e
    have hat := hy.at hk
    rw [e1, (h.blk hz hy hk).2.2.2] at e2
    have := of_decide_eq_false e2
    exact ⟨k, hk, e1, by omega, Or.inl hv⟩
  constructor
  · intro e
    have hv : zq_hv z v = some a → ∃ k : Nat, k < m_many y ∧ a = ad k ∧ mlead y v k := fun q => by
      obtain ⟨k, hk, e1, h1, h2⟩ := (h.hv hz hy).mp q
      exact ⟨k, hk, e1, h1, Or.inr h2⟩
    unfold zq_led at e
    cases q : zq_st z v with
    | none =>
      rw [q] at e
      exact hv e
    | some b =>
      rw [q] at e
      have e : (if z_kp z b = false then some b else zq_hv z v) = some a := e
      split at e
      · cases e
        exact hst _ q (by assumption)
      · exact hv e
  · rintro ⟨k, hk, rfl, hl⟩
    have hl0 := hl
    obtain ⟨h1, h2⟩ := hl
    have hkp : z_kp z (ad k) = false := by rw [(h.blk hz hy hk).2.2.2, h1]; rfl
    have hvk : ¬ v = nI (m_pl y k) → zq_hv z v = some (ad k) := fun q => (h.hv hz hy).mpr ⟨k, hk, rfl, h1, h2.resolve_left q⟩
    unfold zq_led
    cases q : zq_st z v with
    | none =>
      show zq_hv z v = some (ad k)
      refine hvk (fun e => ?_)
      rw [(h.st hz hy).mpr ⟨k, hk, rfl, e⟩] at q
      cases q
    | some b =>
      show (if z_kp z b = false then some b else zq_hv z v) = some (ad k)
      by_cases e : z_kp z b = false
      · rw [if_pos e]
        obtain ⟨k', hk', e1, hl'⟩ := hst b q e
        rw [e1, mlead_one hy hk hk' hl0 hl']
      · rw [if_neg e]
        refine hvk (fun e2 => ?_)
        rw [(h.st hz hy).mpr ⟨k, hk, rfl, e2⟩] at q
        cases q
        exact e hkp
/-- no two blocks stand at one place -/
theorem rl.one (h : rl ad z y) (hz : zOK z) (hy : mOK y) {v : Int32} {j k : Nat} (hj : j < m_many y) (hk : k < m_many y) (ej : nI (m_pl y j) = v) (ek : nI (m_pl y k) = v) : j = k := by
  have a := (h.st hz hy).mpr ⟨j, hj, rfl, ej.symm⟩
  have b := (h.st hz hy).mpr ⟨k, hk, rfl, ek.symm⟩
  rw [a] at b
  exact h.inj hj hk (Option.some.inj b)
theorem rl.ls0 (h : rl ad z y) (hz : zOK z) (hy : mOK y) {v : Int32} (e : zq_ls z v = 0) : ∃ k : Nat, k < m_many y ∧ mlive y v 1 k ∧ zq_st z v = some (ad k) := by
  obtain ⟨a, e1, e2⟩ := zq_ls_0 e
  obtain ⟨k, hk, ea, ev⟩ := (h.st hz hy).mp e1
  have hat := hy.at hk
  rw [ea, (h.blk hz hy hk).2.2.2] at e2
  have := of_decide_eq_false e2
  exact ⟨k, hk, ⟨ev.symm, by omega⟩, by rw [e1, ea]⟩
theorem rl.ls1 (h : rl ad z y) (hz : zOK z) (hy : mOK y) {v : Int32} (e : zq_ls z v = 1) : ∀ (k s : Nat), k < m_many y → ¬ mlive y v s k := fun k s hk hl => by
  have a := (h.st hz hy).mpr ⟨k, hk, rfl, hl.1.symm⟩
  unfold zq_ls at e
  rw [a] at e
  have e : (if z_kp z (ad k) = true then 2 else 0) = 1 := e
  split at e <;> cases e
theorem rl.ls2 (h : rl ad z y) (hz : zOK z) (hy : mOK y) {v : Int32} (e : zq_ls z v = 2) : ∃ k : Nat, k < m_many y ∧ mlive y v 2 k := by
  unfold zq_ls at e
  cases q : zq_st z v with
  | none =>
    rw [q] at e
    cases e
  | some a =>
    rw [q] at e
    have e : (if z_kp z a = true then 2 else 0) = 2 := e
    obtain ⟨k, hk, ea, ev⟩ := (h.st hz hy).mp q
    refine ⟨k, hk, ev.symm, ?_⟩
    split at e
    · rename_i e2
      rw [ea, (h.blk hz hy hk).2.2.2] at e2
      exact of_decide_eq_true e2
    · cases e
/-- which of the three it is, both say alike -/
theorem rl.not (h : rl ad z y) (hz : zOK z) (hy : mOK y) {v : Int32} {e : Nat} (hn : mnot y v e) : zq_ls z v = e := by
  obtain ⟨h1, h2⟩ := hn
  have h3 : zq_ls z v ≠ 0 := fun q => by
    obtain ⟨k, hk, hl, -⟩ := h.ls0 hz hy q
    exact h1 k hk hl
  have h4 : zq_ls z v = 0 ∨ zq_ls z v = 1 ∨ zq_ls z v = 2 := by
    unfold zq_ls
    split
    · exact Or.inr (Or.inl rfl)
    · split
      · exact Or.inr (Or.inr rfl)
      · exact Or.inl rfl
  rcases h2 with ⟨rfl, k, hk, hl⟩ | ⟨rfl, hl⟩
  · rcases h4 with q | q | q
    · exact absurd q h3
    · exact absurd hl (h.ls1 hz hy q k 2 hk)
    · exact q
  · rcases h4 with q | q | q
    · exact absurd q h3
    · exact q
    · obtain ⟨k, hk, hl'⟩ := h.ls2 hz hy q
      exact absurd hl' (hl k hk)
theorem rl.live (h : rl ad z y) (hz : zOK z) (hy : mOK y) {v : Int32} {b : Nat} (hb : b < m_many y) (hl : mlive y v 1 b) : zq_ls z v = 0 ∧ zq_st z v = some (ad b) := by
  have a := (h.st hz hy).mpr ⟨b, hb, rfl, hl.1.symm⟩
  refine ⟨?_, a⟩
  unfold zq_ls
  rw [a]
  show (if z_kp z (ad b) = true then 2 else 0) = 0
  rw [(h.blk hz hy hb).2.2.2, hl.2]
  rfl
end
