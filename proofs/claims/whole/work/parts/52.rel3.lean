section
variable {ad : Nat → Nat} {z : ZT} {y : MT}
theorem zq_at_in {v : Int32} {x : Nat} (h : zq_at v = some x) : (0 ≤ v.toInt ∧ v.toInt < 8192) ∧ v.toInt = x ∧ x < 8192 := by
  obtain ⟨h1, h2⟩ := zq_at_of h
  rw [h2, nI_toInt (by omega)]
  omega
theorem zq_at_no {v : Int32} (h : zq_at v = none) : ¬ (0 ≤ v.toInt ∧ v.toInt < 8192) := fun q => by
  unfold zq_at at h
  rw [if_pos q] at h
  cases h
theorem rl.of2 (h : rl ad z y) (hz : zOK z) (hy : mOK y) {v : Int32} {x k s : Nat} (hx : v.toInt = x) (hk : k < m_many y) (hm : mof y v s k) : z_tk z (x / 16) = some (ad k) ∧ m_sta y k = s ∧ m_pl y k ≤ x ∧ x < m_pl y k + m_sz y k := by
  obtain ⟨h1, h2, h3⟩ := hm
  have hg := zc_ge (m_sz y k)
  exact ⟨h.cell hz hy hk (by omega) (by omega), h1, by omega, by omega⟩
theorem rl.kind (h : rl ad z y) (hz : zOK z) (hy : mOK y) {v : Int32} {x e : Nat} (hx : v.toInt = x) (hx8 : x < 8192) (hm : mkind y v e) : zq_kind z x = e := by
  unfold zq_kind
  cases ht : z_tk z (x / 16) with
  | none =>
    have no : ∀ (s k : Nat), k < m_many y → ¬ mof y v s k := fun s k hk q => by
      have := (h.of2 hz hy hx hk q).1
      rw [ht] at this
      cases this
    have key : ((1 ≤ x / 16 ∧ z_tk z (x / 16 - 1) ≠ none) ∨ (x / 16 + 1 < 512 ∧ z_tk z (x / 16 + 1) ≠ none)) ↔ ∃ k : Nat, k < m_many y ∧ mzone y v k := by
      constructor
      · rintro (⟨q1, q2⟩ | ⟨q1, q2⟩)
        · cases e2 : z_tk z (x / 16 - 1) with
          | none => exact absurd e2 q2
          | some a =>
            obtain ⟨k, hk, -, b1, b2⟩ := h.of hy (by omega) e2
            have := (hy.2.1 k).1 hk
            exact ⟨k, hk, by unfold mzone; omega⟩
        · cases e2 : z_tk z (x / 16 + 1) with
          | none => exact absurd e2 q2
          | some a =>
            obtain ⟨k, hk, -, b1, b2⟩ := h.of hy (by omega) e2
            have := (hy.2.1 k).1 hk
            exact ⟨k, hk, by unfold mzone; omega⟩
      · rintro ⟨k, hk, b1, b2⟩
        have hat := hy.at hk
        have hp := zc_pos (m_sz y k)
        have hd := (hy.2.1 k).1 hk
        by_cases c1 : x < m_pl y k
        · refine Or.inr ⟨by omega, fun q => ?_⟩
          have := h.cell hz hy hk (x := x + 16) (by omega) (by omega)
          rw [show (x + 16) / 16 = x / 16 + 1 by omega, q] at this
          cases this
        · by_cases c2 : x < m_pl y k + 16 * zc (m_sz y k)
          · have := h.cell hz hy hk (x := x) (by omega) c2
            rw [ht] at this
            cases this
          · refine Or.inl ⟨by omega, fun q => ?_⟩
            have := h.cell hz hy hk (x := x - 16) (by omega) (by omega)
            rw [show (x - 16) / 16 = x / 16 - 1 by omega, q] at this
            cases this
    show (if _ then 3 else 0) = e
    rcases hm with ⟨-, k, hk, q⟩ | ⟨-, ⟨-, k, hk, q⟩ | ⟨-, ⟨rfl, q⟩ | ⟨rfl, q⟩⟩⟩
    · exact absurd q (no 1 k hk)
    · exact absurd q (no 2 k hk)
    · rw [if_pos (key.mpr q)]
    · rw [if_neg (fun p => by obtain ⟨k, hk, p⟩ := key.mp p; exact q k hk p)]
  | some a =>
    obtain ⟨k, hk, ea, b1, b2⟩ := h.of hy (by omega) ht
    obtain ⟨c1, c2, c3, c4⟩ := h.blk hz hy hk
    have hat := hy.at hk
    have hd := (hy.2.1 k).1 hk
    have same : ∀ (s k' : Nat), k' < m_many y → mof y v s k' → k' = k := fun s k' hk' q => by
      have := (h.of2 hz hy hx hk' q).1
      rw [ht, ea] at this
      exact (h.inj hk hk' (Option.some.inj this)).symm
    show (if z_bs z a ≤ x ∧ x < z_bs z a + z_bz z a then (if z_kp z a = true then 2 else 1) else 3) = e
    rw [ea, c2, c3, c4]
    by_cases hin : m_pl y k ≤ x ∧ x < m_pl y k + m_sz y k
    · rw [if_pos hin]
      have mk : ∀ s, m_sta y k = s → mof y v s k := fun s hs => ⟨hs, by omega, by omega⟩
      by_cases hs : m_sta y k = 2
      · rw [if_pos (decide_eq_true hs)]
        rcases hm with ⟨-, k', hk', q⟩ | ⟨-, ⟨rfl, -⟩ | ⟨q, -⟩⟩
        · rw [same 1 k' hk' q] at q
          have := q.1
          omega
        · rfl
        · exact absurd (mk 2 hs) (q k hk)
      · rw [if_neg (by rw [decide_eq_false hs]; intro q; cases q)]
        rcases hm with ⟨rfl, -⟩ | ⟨q, -⟩
        · rfl
        · exact absurd (mk 1 (by omega)) (q k hk)
    · rw [if_neg hin]
      have no : ∀ (s k' : Nat), k' < m_many y → ¬ mof y v s k' := fun s k' hk' q => by
        have e1 := same s k' hk' q
        rw [e1] at q
        exact hin ⟨by have := q.2.1; omega, by have := q.2.2; omega⟩
      rcases hm with ⟨-, k', hk', q⟩ | ⟨-, ⟨-, k', hk', q⟩ | ⟨-, ⟨rfl, -⟩ | ⟨-, q⟩⟩⟩
      · exact absurd q (no 1 k' hk')
      · exact absurd q (no 2 k' hk')
      · rfl
      · exact absurd (show mzone y v k from ⟨by omega, by omega⟩) (q k hk)
theorem rl.apart (h : rl ad z y) (hy : mOK y) {j k : Nat} (hj : j < m_many y) (hk : k < m_many y) (e : j ≠ k) : m_pl y j + 16 * zc (m_sz y j) + 16 ≤ m_pl y k ∨ m_pl y k + 16 * zc (m_sz y k) + 16 ≤ m_pl y j := by
  have a : m_pl y j / 16 + zc (m_sz y j) + 1 ≤ m_pl y k / 16 ∨ m_pl y k / 16 + zc (m_sz y k) + 1 ≤ m_pl y j / 16 := hy.1.2 j k hj hk e
  have b := (hy.2.1 j).1 hj
  have c := (hy.2.1 k).1 hk
  omega
theorem rl.rw (h : rl ad z y) (hz : zOK z) (hy : mOK y) {v : Int32} {e : Nat} (hm : mbad y v e) : zq_rw z v = e := by
  rcases hm with ⟨h1, rfl⟩ | ⟨h1, h2⟩
  · exact zq_rw_bad h1
  · have ht : ∀ j : Nat, j < 4 → (nI (v.toInt.toNat + j)).toInt = v.toInt + j := fun j hj => by rw [nI_toInt (by omega)]; omega
    have hn0 : nI (v.toInt.toNat + 0) = v := Int32.toInt_inj.mp (by rw [ht 0 (by decide)]; omega)
    cases hv : zq_hv z v with
    | none =>
      rw [zq_rw_none h1 hv]
      rcases h2 with ⟨rfl, -⟩ | ⟨-, q⟩
      · rfl
      · obtain ⟨k, hk, q⟩ := q 0 (by decide)
        rw [hn0] at q
        rw [(h.hv hz hy).mpr ⟨k, hk, rfl, q⟩] at hv
        cases hv
    | some a =>
      obtain ⟨k, hk, ea, q1, q2, q3⟩ := (h.hv hz hy).mp hv
      obtain ⟨c1, c2, c3, c4⟩ := h.blk hz hy hk
      have hg := zc_ge (m_sz y k)
      rw [zq_rw_some h1 hv, ea, c2, c3]
      by_cases hin : m_pl y k ≤ v.toInt.toNat + 3 ∧ v.toInt.toNat + 3 < m_pl y k + m_sz y k
      · rw [if_pos hin]
        rcases h2 with ⟨-, j, hj, q⟩ | ⟨rfl, -⟩
        · exact absurd (show mof y (nI (v.toInt.toNat + j)) 1 k from ⟨q1, by rw [ht j hj]; omega, by rw [ht j hj]; omega⟩) (q k hk)
        · rfl
      · rw [if_neg hin]
        rcases h2 with ⟨rfl, -⟩ | ⟨-, q⟩
        · rfl
        · obtain ⟨k3, hk3, r1, r2, r3⟩ := q 3 (by decide)
          rw [ht 3 (by decide)] at r2 r3
          by_cases e3 : k3 = k
          · rw [e3] at r2 r3
            exact absurd ⟨by omega, by omega⟩ hin
          · have hg3 := zc_ge (m_sz y k3)
            have := h.apart hy hk3 hk e3
            omega
theorem rl.count (h : rl ad z y) (hb : z_mb z = m_made y) {x : Nat} : zcount z x = mcount y x := by
  obtain ⟨⟨o1, -⟩, -, -, -, -, e1, e2, e3, e4⟩ := h
  unfold zcount mcount mlv mlo mkept
  rw [← e1, ← e2, ← e3, hb]
  have key : z_lb z + (z_kl z).length = m_many y := by
    rw [e1, e4]
    have : ∀ n, n ≤ m_many y → zsum (fun k => if m_sta y k = 1 then 1 else 0) n + zsum (fun k => if m_sta y k = 2 then 1 else 0) n = n := by
      intro n
      induction n with
      | zero => intro _; rfl
      | succ n ih =>
        intro hn
        have h1 := ih (by omega)
        have h2 := (o1 n (by omega)).2.2.2
        rw [zsum_s, zsum_s]
        rcases h2 with q | q
        · rw [q, if_pos rfl, if_neg (by decide)]
          omega
        · rw [q, if_neg (by decide), if_pos rfl]
          omega
    exact this _ (Nat.le_refl _)
  rw [show (z_kl z).length = m_many y - z_lb z by omega]
theorem zRel.oct (h : zRel z y) {o : Nat → Nat} (ho : ∀ x, o x < 256) : zRel (zu_oct z o) (mu_oct y o) := by
  obtain ⟨h1, ⟨a1, a2, a3, a4⟩, h3, h4, h5⟩ := h
  exact ⟨h1.oct ho, ⟨a1, a2, ho, a4⟩, h3, rfl, h5⟩
theorem zq_wr_lt {o : Nat → Nat} {x n : Nat} (h : ∀ x, o x < 256) : ∀ j, zq_wr o x n j < 256 := by
  have up : ∀ {f : Nat → Nat} {e v : Nat}, (∀ x, f x < 256) → v < 256 → ∀ x, va_up f e v x < 256 := fun {f e v} hf hv x => by
    unfold va_up
    split
    · exact hv
    · exact hf x
  exact up (up (up (up h (Nat.mod_lt _ (by decide))) (Nat.mod_lt _ (by decide))) (Nat.mod_lt _ (by decide))) (Nat.mod_lt _ (by decide))
theorem zcpy_lt {o : Nat → Nat} {x q n : Nat} (h : ∀ x, o x < 256) : ∀ j, va_cpy o o x q n j < 256 := fun j => by
  unfold va_cpy
  split <;> exact h _
end
