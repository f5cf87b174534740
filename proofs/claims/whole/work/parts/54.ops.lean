-- the law's ten cases: both answer alike, and stay beside each other
def zSame (y : MT) (kk : Int32) (uu : ZT × (Nat → Int64)) (b : Int32) (yu : MT) : Prop := zRel uu.1 yu ∧ kk = nI (m_err yu) ∧ (kk = nI 0 → uu.2 0 = b.toInt64) ∧ m_backs yu ≤ m_backs y + 1
section
variable {z : ZT} {y : MT} {f : Nat → Int64} {v v2 kk b : Int32} {uu : ZT × (Nat → Int64)} {yu : MT}
theorem znI10 : ¬ nI 1 = nI 0 := by decide
theorem znI20 : ¬ nI 2 = nI 0 := by decide
theorem zSame.bad (h : zRel z y) {e : Nat} (he : ¬ nI e = nI 0) : zSame y (nI e) (z, f) b (mu_err y e) := ⟨h.err e, rfl, fun q => absurd q he, Nat.le_succ _⟩
theorem zRel.mark (h : zRel z y) : (∀ a : Nat, zq_st z v = some a → z_kp z a = false → 1 ≤ z_lb z ∧ z_bz z a ≤ z_lo z ∧ (z_kl z).length < 255) ∧ z_ko z = zkso (z_bz z) (z_kl z) := by
  obtain ⟨hz, hy, ⟨ad, had⟩, -, -, -, -, h8⟩ := h
  refine ⟨fun a h1 h2 => ?_, h8⟩
  obtain ⟨k, hk, ea, -⟩ := (had.st hz hy).mp h1
  have hat := hy.at hk
  rw [ea, (had.blk hz hy hk).2.2.2] at h2
  have h3 := of_decide_eq_false h2
  rw [ea]
  exact (had.mark (b := k) (aE := 0) (cap := 0) (cE := 0) hz hy hk (by omega)).2
theorem op_get (h : zRel z y)
    (h1 : (kk = nI 0 ∧ ∃ x : Int32, uu.2 0 = x.toInt64 ∧ (fun (x : Int32) (u : ZT) => (0 ≤ v.toInt ∧ v.toInt ≤ 2048) ∧ ∃ k : Nat, zr_room (zt_gap (z_tk z) (zc v.toInt.toNat)) (zc v.toInt.toNat) k ∧ x = nI (16 * k) ∧ ((k = 0 ∧ u = z) ∨ (k ≠ 0 ∧ ∃ q : Nat, q ∉ z_LB z ∧ u = zq_make z q k v.toInt.toNat))) x uu.1) ∨ (kk = nI 1 ∧ ¬ (0 ≤ v.toInt ∧ v.toInt ≤ 2048) ∧ uu = (z, f)))
    (h2 : (¬ (0 ≤ v.toInt ∧ v.toInt ≤ 2048) ∧ yu = mu_err y 1) ∨ ((0 ≤ v.toInt ∧ v.toInt ≤ 2048) ∧ ∃ k : Nat, mroom y v.toInt.toNat k ∧ b = nI (16 * k) ∧ ((k = 0 ∧ yu = mu_err y 0) ∨ (k ≠ 0 ∧ yu = mq_make (mu_err y 0) k v.toInt.toNat)))) : zSame y kk uu b yu := by
  rcases h1 with ⟨rfl, x, hx, ho, k, hk, rfl, hu⟩ | ⟨rfl, ho, rfl⟩
  · rcases h2 with ⟨h2, -⟩ | ⟨-, k', hk', rfl, hy⟩
    · exact absurd ho h2
    · obtain ⟨ad, had⟩ := h.2.2.1
      have e : k = k' := had.room hk hk'
      subst e
      rcases hu with ⟨e0, hu⟩ | ⟨hn, q, hq, hu⟩
      · rcases hy with ⟨-, rfl⟩ | ⟨hn, -⟩
        · exact ⟨by rw [hu]; exact h.err 0, rfl, fun _ => hx, Nat.le_succ _⟩
        · exact absurd e0 hn
      · rcases hy with ⟨e0, -⟩ | ⟨-, rfl⟩
        · exact absurd e0 hn
        · refine ⟨?_, rfl, fun _ => hx, Nat.le_succ _⟩
          rw [hu]
          exact zRel.make (h.err 0) (by omega) hk' hn hq
  · rcases h2 with ⟨-, rfl⟩ | ⟨h2, -⟩
    · exact zSame.bad h znI10
    · exact absurd h2 ho
/-- which is wrong, both say alike -/
theorem op_not (h : zRel z y) {e : Nat} (hn : mnot y v e) : zq_ls z v = e ∧ ¬ nI e = nI 0 := by
  obtain ⟨hz, hy, ⟨ad, had⟩, -⟩ := h
  refine ⟨had.not hz hy hn, ?_⟩
  rcases hn.2 with ⟨rfl, -⟩ | ⟨rfl, -⟩
  · exact znI20
  · exact znI10
theorem op_back (h : zRel z y) (hbk : m_backs y + 1 < 100000)
    (h1 : (kk = nI 0 ∧ ∃ x : Int32, uu.2 0 = x.toInt64 ∧ (fun (x : Int32) (u : ZT) => zq_ls z v = 0 ∧ ∃ (a : Nat) (cE : ClassId) (aE cap : Nat), zq_st z v = some a ∧ z_kp z a = false ∧ u = zq_run ((z_kl z).length + 1) (zq_gb z a cE aE cap) ∧ ((z_kl z).length + 1 ≤ cap ∧ 2 ≤ cap ∧ cap < 1000) ∧ x = nI (z_bz z a)) x uu.1) ∨ (kk = nI 1 ∧ zq_ls z v = 1 ∧ uu = (z, f)) ∨ (kk = nI 2 ∧ zq_ls z v = 2 ∧ uu = (z, f)))
    (h2 : (∃ e : Nat, mnot y v e ∧ yu = mu_err y e) ∨ (∃ k : Nat, k < m_many y ∧ mlive y v 1 k ∧ b = nI (m_sz y k) ∧ mgive (mq_mark (mu_err y 0) k) yu)) : zSame y kk uu b yu := by
  rcases h2 with ⟨e, hn, rfl⟩ | ⟨k, hk, hl, rfl, hg⟩
  · obtain ⟨e1, e2⟩ := op_not h hn
    subst e1
    rcases h1 with ⟨-, x, -, h3, -⟩ | ⟨rfl, h3, rfl⟩ | ⟨rfl, h3, rfl⟩
    · rw [h3] at e2
      exact absurd rfl e2
    · rw [h3]
      exact zSame.bad h znI10
    · rw [h3]
      exact zSame.bad h znI20
  · obtain ⟨ad, had⟩ := h.2.2.1
    obtain ⟨l0, l1⟩ := had.live h.1 h.2.1 hk hl
    rcases h1 with ⟨rfl, x, hx, -, a, cE, aE, cap, h3, h4, hu, ⟨c1, c2, c3⟩, rfl⟩ | ⟨-, h3, -⟩ | ⟨-, h3, -⟩
    · have ea : a = ad k := Option.some.inj (h3.symm.trans l1)
      subst ea
      have G := zRel.give (y := mu_err y 0) (cE := cE) (aE := aE) (h.err 0) hbk had hk hl.2 c1 c2 c3 hg
      refine ⟨by rw [hu]; exact G.1, ?_, fun _ => ?_, Nat.le_of_eq G.2.2⟩
      · rw [G.2.1]
        rfl
      · rw [hx, (had.blk h.1 h.2.1 hk).2.2.1]
    · rw [l0] at h3
      cases h3
    · rw [l0] at h3
      cases h3
theorem op_again (h : zRel z y) (hbk : m_backs y + 1 < 100000)
    (h1 : (kk = nI 0 ∧ ∃ x : Int32, uu.2 0 = x.toInt64 ∧ (fun (x : Int32) (u : ZT) => (0 ≤ v2.toInt ∧ v2.toInt ≤ 2048) ∧ zq_ls z v = 0 ∧ ∃ (a k : Nat), zq_st z v = some a ∧ z_kp z a = false ∧ zr_room (zt_gap (z_tk z) (zc v2.toInt.toNat)) (zc v2.toInt.toNat) k ∧ x = nI (16 * k) ∧ ((k = 0 ∧ u = z) ∨ (k ≠ 0 ∧ ∃ (q : Nat) (cE : ClassId) (aE cap : Nat), q ∉ z_LB z ∧ u = zq_run ((z_kl z).length + 1) (zq_gb (zu_oct (zq_make z q k v2.toInt.toNat) (va_cpy (z_oct z) (z_oct z) (z_bs z a) (16 * k) (min (z_bz z a) v2.toInt.toNat))) a cE aE cap) ∧ ((z_kl z).length + 1 ≤ cap ∧ 2 ≤ cap ∧ cap < 1000)))) x uu.1) ∨ (kk = nI 1 ∧ (¬ (0 ≤ v2.toInt ∧ v2.toInt ≤ 2048) ∨ ((0 ≤ v2.toInt ∧ v2.toInt ≤ 2048) ∧ zq_ls z v = 1)) ∧ uu = (z, f)) ∨ (kk = nI 2 ∧ ((0 ≤ v2.toInt ∧ v2.toInt ≤ 2048) ∧ zq_ls z v = 2) ∧ uu = (z, f)))
    (h2 : (¬ (0 ≤ v2.toInt ∧ v2.toInt ≤ 2048) ∧ yu = mu_err y 1) ∨ ((0 ≤ v2.toInt ∧ v2.toInt ≤ 2048) ∧ ((∃ e : Nat, mnot y v e ∧ yu = mu_err y e) ∨ (∃ j : Nat, j < m_many y ∧ mlive y v 1 j ∧ ∃ k : Nat, mroom y v2.toInt.toNat k ∧ b = nI (16 * k) ∧ ((k = 0 ∧ yu = mu_err y 0) ∨ (k ≠ 0 ∧ mgive (mq_mark (mq_cpy (mq_make (mu_err y 0) k v2.toInt.toNat) (m_pl y j) (16 * k) (min v2.toInt.toNat (m_sz y j))) j) yu)))))) : zSame y kk uu b yu := by
  rcases h2 with ⟨ho, rfl⟩ | ⟨ho, ⟨e, hn, rfl⟩ | ⟨j, hj, hl, k, hk, rfl, hy⟩⟩
  · rcases h1 with ⟨-, x, -, h3, -⟩ | ⟨rfl, -, rfl⟩ | ⟨-, ⟨h3, -⟩, -⟩
    · exact absurd h3 ho
    · exact zSame.bad h znI10
    · exact absurd h3 ho
  · obtain ⟨e1, e2⟩ := op_not h hn
    subst e1
    rcases h1 with ⟨-, x, -, -, h3, -⟩ | ⟨rfl, h3, rfl⟩ | ⟨rfl, ⟨-, h3⟩, rfl⟩
    · rw [h3] at e2
      exact absurd rfl e2
    · rcases h3 with h3 | ⟨-, h3⟩
      · exact absurd ho h3
      · rw [h3]
        exact zSame.bad h znI10
    · rw [h3]
      exact zSame.bad h znI20
  · obtain ⟨ad, had⟩ := h.2.2.1
    obtain ⟨l0, l1⟩ := had.live h.1 h.2.1 hj hl
    rcases h1 with ⟨rfl, x, hx, -, -, a, k', h3, h4, hk', rfl, hu⟩ | ⟨-, h3, -⟩ | ⟨-, ⟨-, h3⟩, -⟩
    · have ea : a = ad j := Option.some.inj (h3.symm.trans l1)
      subst ea
      have e : k' = k := had.room hk' hk
      subst e
      obtain ⟨b1, b2, b3, b4⟩ := had.blk h.1 h.2.1 hj
      rcases hu with ⟨e0, hu⟩ | ⟨hn, q, cE, aE, cap, hq, hu, c1, c2, c3⟩
      · rcases hy with ⟨-, rfl⟩ | ⟨hn, -⟩
        · exact ⟨by rw [hu]; exact h.err 0, rfl, fun _ => hx, Nat.le_succ _⟩
        · exact absurd e0 hn
      · rcases hy with ⟨e0, -⟩ | ⟨-, hg⟩
        · exact absurd e0 hn
        · have hle : v2.toInt.toNat ≤ 2048 := by omega
          have R1 : zRel (zq_make z q k' v2.toInt.toNat) (mq_make (mu_err y 0) k' v2.toInt.toNat) := zRel.make (h.err 0) hle hk hn hq
          have A1 : rl (va_up ad (m_many y) q) (zq_make z q k' v2.toInt.toNat) (mq_make (mu_err y 0) k' v2.toInt.toNat) := rl.make (y := mu_err y 0) had hle hk hn hq
          have ho8 : ∀ x, z_oct z x < 256 := h.1.2.2.1
          have R2 := R1.oct (zcpy_lt (x := z_bs z (ad j)) (q := 16 * k') (n := min (z_bz z (ad j)) v2.toInt.toNat) ho8)
          have hne : j ≠ m_many y := by omega
          have hs : va_up (m_sta y) (m_many y) 1 j = 1 := by rw [va_up_ne _ _ hne]; exact hl.2
          have hg : mgive (mq_mark (mu_oct (mq_make (mu_err y 0) k' v2.toInt.toNat) (va_cpy (z_oct z) (z_oct z) (z_bs z (ad j)) (16 * k') (min (z_bz z (ad j)) v2.toInt.toNat))) j) yu := by
            rw [b2, b3, Nat.min_comm, h.2.2.2.1]
            exact hg
          have G := zRel.give (ad := va_up ad (m_many y) q) (b := j) (cE := cE) (aE := aE) (cap := cap) R2 hbk A1 (Nat.lt_succ_of_lt hj) hs c1 c2 c3 hg
          rw [va_up_ne _ _ hne] at G
          refine ⟨by rw [hu]; exact G.1, ?_, fun _ => hx, Nat.le_of_eq G.2.2⟩
          rw [G.2.1]
          rfl
    · rcases h3 with h3 | ⟨-, h3⟩
      · exact absurd ho h3
      · rw [l0] at h3
        cases h3
    · rw [l0] at h3
      cases h3
theorem op_kind (h : zRel z y)
    (h1 : (kk = nI 0 ∧ ∃ x : Int32, uu.2 0 = x.toInt64 ∧ (fun (x : Int32) (u : ZT) => u = z ∧ ∃ y : Nat, zq_at v = some y ∧ x = nI (zq_kind z y)) x uu.1) ∨ (kk = nI 1 ∧ zq_at v = none ∧ uu = (z, f)))
    (h2 : (¬ (0 ≤ v.toInt ∧ v.toInt < 8192) ∧ yu = mu_err y 1) ∨ ((0 ≤ v.toInt ∧ v.toInt < 8192) ∧ yu = mu_err y 0 ∧ ∃ e : Nat, mkind y v e ∧ b = nI e)) : zSame y kk uu b yu := by
  obtain ⟨ad, had⟩ := h.2.2.1
  rcases h1 with ⟨rfl, x, hx, hu, p, hp, rfl⟩ | ⟨rfl, hp, rfl⟩
  · obtain ⟨p1, p2, p3⟩ := zq_at_in hp
    rcases h2 with ⟨h2, -⟩ | ⟨-, rfl, e, he, rfl⟩
    · exact absurd p1 h2
    · rw [had.kind h.1 h.2.1 p2 p3 he] at hx
      exact ⟨by rw [hu]; exact h.err 0, rfl, fun _ => hx, Nat.le_succ _⟩
  · rcases h2 with ⟨-, rfl⟩ | ⟨h2, -⟩
    · exact zSame.bad h znI10
    · exact absurd h2 (zq_at_no hp)
theorem op_block (h : zRel z y)
    (h1 : (kk = nI 0 ∧ ∃ x : Int32, uu.2 0 = x.toInt64 ∧ (fun (x : Int32) (u : ZT) => u = z ∧ (∃ y : Nat, zq_at v = some y) ∧ x = (match zq_hv z v with | none => -1 | some a => nI (z_bs z a))) x uu.1) ∨ (kk = nI 1 ∧ zq_at v = none ∧ uu = (z, f)))
    (h2 : (¬ (0 ≤ v.toInt ∧ v.toInt < 8192) ∧ yu = mu_err y 1) ∨ ((0 ≤ v.toInt ∧ v.toInt < 8192) ∧ yu = mu_err y 0 ∧ ((b = -1 ∧ ∀ k : Nat, k < m_many y → ¬ mof y v 1 k) ∨ ∃ k : Nat, k < m_many y ∧ mof y v 1 k ∧ b = nI (m_pl y k)))) : zSame y kk uu b yu := by
  obtain ⟨ad, had⟩ := h.2.2.1
  rcases h1 with ⟨rfl, x, hx, hu, ⟨p, hp⟩, rfl⟩ | ⟨rfl, hp, rfl⟩
  · obtain ⟨p1, p2, p3⟩ := zq_at_in hp
    rcases h2 with ⟨h2, -⟩ | ⟨-, rfl, hb⟩
    · exact absurd p1 h2
    · refine ⟨by rw [hu]; exact h.err 0, rfl, fun _ => ?_, Nat.le_succ _⟩
      rw [hx]
      rcases hb with ⟨rfl, hn⟩ | ⟨k, hk, hm, rfl⟩
      · cases e : zq_hv z v with
        | none => rfl
        | some a =>
          obtain ⟨k, hk, -, hm⟩ := (had.hv h.1 h.2.1).mp e
          exact absurd hm (hn k hk)
      · rw [(had.hv h.1 h.2.1).mpr ⟨k, hk, rfl, hm⟩]
        show (nI (z_bs z (ad k))).toInt64 = (nI (m_pl y k)).toInt64
        rw [(had.blk h.1 h.2.1 hk).2.1]
  · rcases h2 with ⟨-, rfl⟩ | ⟨h2, -⟩
    · exact zSame.bad h znI10
    · exact absurd h2 (zq_at_no hp)
theorem op_write (h : zRel z y)
    (h1 : (kk = nI 0 ∧ uu.2 = f ∧ (fun (u : ZT) => zq_rw z v = 0 ∧ u = zu_oct z (zq_wr (z_oct z) v.toInt.toNat v2.toBitVec.toNat)) uu.1) ∨ (kk = nI 1 ∧ zq_rw z v = 1 ∧ uu = (z, f)) ∨ (kk = nI 2 ∧ zq_rw z v = 2 ∧ uu = (z, f)))
    (h2 : ∃ e : Nat, mbad y v e ∧ ((e ≠ 0 ∧ yu = mu_err y e) ∨ (e = 0 ∧ yu = mq_wr y v.toInt.toNat v2.toBitVec.toNat))) : zRel uu.1 yu ∧ kk = nI (m_err yu) ∧ m_backs yu ≤ m_backs y + 1 := by
  obtain ⟨ad, had⟩ := h.2.2.1
  obtain ⟨e, hb, h2⟩ := h2
  have he := had.rw h.1 h.2.1 hb
  subst he
  rcases h1 with ⟨rfl, -, h3, hu⟩ | ⟨rfl, h3, rfl⟩ | ⟨rfl, h3, rfl⟩
  · rcases h2 with ⟨h2, -⟩ | ⟨-, rfl⟩
    · exact absurd h3 h2
    · refine ⟨?_, rfl, Nat.le_succ _⟩
      rw [hu, h.2.2.2.1]
      exact zRel.oct (h.err 0) (zq_wr_lt h.2.1.2.2.1)
  · rw [h3] at h2
    rcases h2 with ⟨-, rfl⟩ | ⟨h2, -⟩
    · exact ⟨h.err 1, rfl, Nat.le_succ _⟩
    · cases h2
  · rw [h3] at h2
    rcases h2 with ⟨-, rfl⟩ | ⟨h2, -⟩
    · exact ⟨h.err 2, rfl, Nat.le_succ _⟩
    · cases h2
theorem op_read (h : zRel z y)
    (h1 : (kk = nI 0 ∧ ∃ x : Int32, uu.2 0 = x.toInt64 ∧ (fun (x : Int32) (u : ZT) => u = z ∧ zq_rw z v = 0 ∧ x = nI (zwd (z_oct z) v.toInt.toNat)) x uu.1) ∨ (kk = nI 1 ∧ zq_rw z v = 1 ∧ uu = (z, f)) ∨ (kk = nI 2 ∧ zq_rw z v = 2 ∧ uu = (z, f)))
    (h2 : ∃ e : Nat, mbad y v e ∧ yu = mu_err y e ∧ (e = 0 → b = nI (zwd (m_oct y) v.toInt.toNat))) : zSame y kk uu b yu := by
  obtain ⟨ad, had⟩ := h.2.2.1
  obtain ⟨e, hb, rfl, h2⟩ := h2
  have he := had.rw h.1 h.2.1 hb
  subst he
  rcases h1 with ⟨rfl, x, hx, hu, h3, rfl⟩ | ⟨rfl, h3, rfl⟩ | ⟨rfl, h3, rfl⟩
  · rw [h3]
    exact ⟨by rw [hu]; exact h.err 0, rfl, fun _ => by rw [hx, h2 h3, h.2.2.2.1], Nat.le_succ _⟩
  · rw [h3]
    exact zSame.bad h znI10
  · rw [h3]
    exact zSame.bad h znI20
theorem op_lostAt (h : zRel z y)
    (h1 : (kk = nI 0 ∧ ∃ x : Int32, uu.2 0 = x.toInt64 ∧ (fun (x : Int32) (u : ZT) => u = z ∧ (0 ≤ v.toInt ∧ v.toInt < z_ln z) ∧ x = nI (z_lf z v.toInt.toNat)) x uu.1) ∨ (kk = nI 1 ∧ ¬ (0 ≤ v.toInt ∧ v.toInt < z_ln z) ∧ uu = (z, f)))
    (h2 : (¬ (0 ≤ v.toInt ∧ v.toInt < m_lm y) ∧ yu = mu_err y 1) ∨ ((0 ≤ v.toInt ∧ v.toInt < m_lm y) ∧ yu = mu_err y 0 ∧ b = nI (m_fnd y v.toInt.toNat))) : zSame y kk uu b yu := by
  obtain ⟨e1, e2⟩ := h.2.2.2.2.2.1
  rw [← e1] at h2
  rcases h1 with ⟨rfl, x, hx, hu, ho, rfl⟩ | ⟨rfl, ho, rfl⟩
  · rcases h2 with ⟨h2, -⟩ | ⟨-, rfl, rfl⟩
    · exact absurd ho h2
    · rw [e2 v.toInt.toNat (by omega)] at hx
      exact ⟨by rw [hu]; exact h.err 0, rfl, fun _ => hx, Nat.le_succ _⟩
  · rcases h2 with ⟨-, rfl⟩ | ⟨h2, -⟩
    · exact zSame.bad h znI10
    · exact absurd h2 ho
theorem op_count (h : zRel z y)
    (h1 : (kk = nI 0 ∧ ∃ x : Int32, uu.2 0 = x.toInt64 ∧ (fun (x : Int32) (u : ZT) => u = z ∧ (0 ≤ v.toInt ∧ v.toInt ≤ 4) ∧ x = nI (zcount z v.toInt.toNat)) x uu.1) ∨ (kk = nI 1 ∧ ¬ (0 ≤ v.toInt ∧ v.toInt ≤ 4) ∧ uu = (z, f)))
    (h2 : (¬ (0 ≤ v.toInt ∧ v.toInt ≤ 4) ∧ yu = mu_err y 1) ∨ ((0 ≤ v.toInt ∧ v.toInt ≤ 4) ∧ yu = mu_err y 0 ∧ b = nI (mcount y v.toInt.toNat))) : zSame y kk uu b yu := by
  obtain ⟨ad, had⟩ := h.2.2.1
  rcases h1 with ⟨rfl, x, hx, hu, ho, rfl⟩ | ⟨rfl, ho, rfl⟩
  · rcases h2 with ⟨h2, -⟩ | ⟨-, rfl, rfl⟩
    · exact absurd ho h2
    · rw [had.count h.2.2.2.2.1] at hx
      exact ⟨by rw [hu]; exact h.err 0, rfl, fun _ => hx, Nat.le_succ _⟩
  · rcases h2 with ⟨-, rfl⟩ | ⟨h2, -⟩
    · exact zSame.bad h znI10
    · exact absurd h2 ho
theorem op_lost (h : zRel z y) {v1 x : Int32} {u : ZT} (h1 : u = zq_lost z v1 v2 ∧ x = nI (z_ln u))
    (h2 : ∃ (rs : Nat → Bool) (n : Nat) (f : Nat → Nat), mreach y v1 v2 rs ∧ mlist (mlp y rs) 512 n f ∧ yu = mfin y rs n f ∧ b = nI n) : zRel u yu ∧ x = b ∧ m_backs yu ≤ m_backs y + 1 := by
  obtain ⟨rs, n, g, h3, h4, rfl, rfl⟩ := h2
  obtain ⟨rfl, rfl⟩ := h1
  obtain ⟨h5, h6⟩ := zRel.lost h h3 h4
  exact ⟨h5, by rw [h6], Nat.le_succ _⟩
end
theorem zRel0 : zRel z0 m0 := by
  refine ⟨⟨?_, ?_, fun _ => (show (0 : Nat) < 256 by decide), by decide, ?_, by decide, ?_, by decide, Or.inl rfl, by decide, by decide⟩, ⟨⟨?_, ?_⟩, ?_, fun _ => (show (0 : Nat) < 256 by decide), by decide, by decide⟩, ⟨fun _ => 0, ⟨?_, ?_⟩, ?_, ?_, ?_, ⟨?_, ?_, ?_, ?_⟩, rfl, rfl, rfl, rfl⟩, rfl, rfl, ⟨rfl, ?_⟩, ?_, rfl⟩
  · intro c a _ h
    have h : (none : Option Nat) = some a := h
    cases h
  · intro a h
    have h : a ∈ ([] : List Nat) := h
    exact absurd h List.not_mem_nil
  · intro j h
    exact absurd h (Nat.not_lt_zero _)
  · intro a h
    have h : a ∈ ([] : List Nat) := h
    exact absurd h List.not_mem_nil
  · intro k h
    exact absurd h (Nat.not_lt_zero _)
  · intro j k h
    exact absurd h (Nat.not_lt_zero _)
  · intro k
    exact ⟨fun h => absurd h (Nat.not_lt_zero _), Nat.le_refl _⟩
  · intro k h
    exact absurd h (Nat.not_lt_zero _)
  · intro j k h
    exact absurd h (Nat.not_lt_zero _)
  · intro j k h
    exact absurd h (Nat.not_lt_zero _)
  · intro k h
    exact absurd h (Nat.not_lt_zero _)
  · intro c _ a
    constructor
    · intro h
      have h : (none : Option Nat) = some a := h
      cases h
    · rintro ⟨k, h, -⟩
      exact absurd h (Nat.not_lt_zero _)
  · intro i a h
    have h : ([] : List Nat)[i]? = some a := h
    simp at h
  · intro k h
    exact absurd h (Nat.not_lt_zero _)
  · intro i j k k' _ h
    exact absurd h (Nat.not_lt_zero _)
  · intro k h
    exact absurd h (Nat.not_lt_zero _)
  · intro k h
    exact absurd h (Nat.not_lt_zero _)
  · intro a h
    have h : a ∈ ([] : List Nat) := h
    exact absurd h List.not_mem_nil
