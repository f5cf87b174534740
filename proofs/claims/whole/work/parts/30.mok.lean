-- the reference: what holds of its state, what its methods do
def mOK (z : MT) : Prop := zr_ok (m_many z) (fun k => m_pl z k / 16) (m_sz z) (m_sta z) ∧ (∀ k : Nat, (k < m_many z → m_pl z k = 16 * (m_pl z k / 16)) ∧ m_sin z k ≤ m_backs z) ∧ (∀ x : Nat, m_oct z x < 256) ∧ m_lm z ≤ 255 ∧ m_backs z < 100000
theorem mOK.many {z : MT} (h : mOK z) : m_many z ≤ 255 := h.1.many
theorem mOK.at {z : MT} (h : mOK z) {k : Nat} (hk : k < m_many z) : 16 ≤ m_pl z k ∧ m_pl z k + 16 * zc (m_sz z k) + 16 ≤ 8192 ∧ m_sz z k ≤ 2048 ∧ (m_sta z k = 1 ∨ m_sta z k = 2) ∧ m_sin z k < 100000 ∧ m_pl z k + m_sz z k ≤ 8192 := by
  obtain ⟨h1, h2, h3, h4⟩ := h.1.1 k hk
  obtain ⟨h5, h6⟩ := h.2.1 k
  have h5 := h5 hk
  have h7 := h.2.2.2.2
  have h8 := zc_ge (m_sz z k)
  have h1 : 1 ≤ m_pl z k / 16 := h1
  have h2 : m_pl z k / 16 + zc (m_sz z k) + 1 ≤ 512 := h2
  exact ⟨by omega, by omega, h3, h4, by omega, by omega⟩
def mkept (z : MT) : Nat := zsum (fun k => if m_sta z k = 2 then m_sz z k else 0) (m_many z)
def mroom (z : MT) (n k : Nat) : Prop := zr_room (fun c => zr_fit (m_many z) (fun k => m_pl z k / 16) (m_sz z) c (zc n)) (zc n) k
def mq_make (z : MT) (k n : Nat) : MT := (mmk (m_err z) (m_oct z) (va_up (m_pl z) (m_many z) (16 * k)) (va_up (m_sz z) (m_many z) n) (va_up (m_sta z) (m_many z) 1) (m_sin z) (m_rea z) (m_fnd z) (m_many z + 1) (m_made z + 1) (m_backs z) (m_lm z))
def mq_mark (z : MT) (b : Nat) : MT := (mmk (m_err z) (m_oct z) (m_pl z) (m_sz z) (va_up (m_sta z) b 2) (va_up (m_sin z) b (m_backs z + 1)) (m_rea z) (m_fnd z) (m_many z) (m_made z) (m_backs z + 1) (m_lm z))
def mq_drop (z : MT) (o : Nat) : MT := (mmk (m_err z) (m_oct z) (va_up (m_pl z) o (m_pl z (m_many z - 1))) (va_up (m_sz z) o (m_sz z (m_many z - 1))) (va_up (m_sta z) o (m_sta z (m_many z - 1))) (va_up (m_sin z) o (m_sin z (m_many z - 1))) (m_rea z) (m_fnd z) (m_many z - 1) (m_made z) (m_backs z) (m_lm z))
def mrun : Nat → MT → MT → Prop
  | 0, z, u => mkept z ≤ 512 ∧ u = z
  | n + 1, z, u => 512 < mkept z ∧ ∃ o : Nat, zr_old (m_many z) (m_sta z) (m_sin z) o ∧ mrun n (mq_drop z o) u
def mgive (z u : MT) : Prop := ∃ n : Nat, mrun n z u
theorem zr_ok.drop {L o : Nat} {pc sz sta : Nat → Nat} (h : zr_ok (L + 1) pc sz sta) (ho : o < L + 1) : zr_ok L (va_up pc o (pc L)) (va_up sz o (sz L)) (va_up sta o (sta L)) := by
  have pi : ∀ k, k < L → (if k = o then L else k) < L + 1 ∧ (if k = o then L else k) ≠ o := fun k hk => by
    split <;> omega
  have pj : ∀ j k, j < L → k < L → (if j = o then L else j) = (if k = o then L else k) → j = k := fun j k hj hk e => by
    split at e <;> split at e <;> omega
  refine ⟨fun k hk => ?_, fun j k hj hk hjk => ?_⟩
  · rw [zt_mv pc, zt_mv sz, zt_mv sta]
    exact h.1 _ (pi k hk).1
  · rw [zt_mv pc, zt_mv sz, zt_mv pc, zt_mv sz]
    exact h.2 _ _ (pi j hj).1 (pi k hk).1 (fun q => hjk (pj j k hj hk q))
theorem zdiv_up {f : Nat → Nat} {o v : Nat} : (fun k => va_up f o v k / 16) = va_up (fun k => f k / 16) o (v / 16) := by
  funext k
  by_cases e : k = o
  · subst e; rw [va_up_self, va_up_self]
  · rw [va_up_ne _ _ e, va_up_ne _ _ e]
theorem mOK.drop {z : MT} {o : Nat} (h : mOK z) (ho : o < m_many z) : mOK (mq_drop z o) := by
  obtain ⟨L, hL⟩ : ∃ L, m_many z = L + 1 := ⟨m_many z - 1, by omega⟩
  obtain ⟨h1, h2, h3, h4, h5⟩ := h
  rw [hL] at h1 h2 ho
  refine ⟨?_, ?_, h3, h4, h5⟩
  · show zr_ok (m_many z - 1) (fun k => va_up (m_pl z) o (m_pl z (m_many z - 1)) k / 16) (va_up (m_sz z) o (m_sz z (m_many z - 1))) (va_up (m_sta z) o (m_sta z (m_many z - 1)))
    rw [hL, Nat.add_sub_cancel, zdiv_up]
    exact h1.drop ho
  · show ∀ k, (k < m_many z - 1 → va_up (m_pl z) o (m_pl z (m_many z - 1)) k = 16 * (va_up (m_pl z) o (m_pl z (m_many z - 1)) k / 16)) ∧ va_up (m_sin z) o (m_sin z (m_many z - 1)) k ≤ m_backs z
    rw [hL, Nat.add_sub_cancel]
    intro k
    rw [zt_mv, zt_mv]
    exact ⟨fun hk => (h2 _).1 (by split <;> omega), (h2 _).2⟩
theorem mOK.mark {z : MT} {b : Nat} (h : mOK z) (hb : m_backs z + 1 < 100000) : mOK (mq_mark z b) := by
  obtain ⟨⟨h1, h1'⟩, h2, h3, h4, h5⟩ := h
  refine ⟨⟨fun k hk => ?_, h1'⟩, fun k => ?_, h3, h4, hb⟩
  · obtain ⟨a1, a2, a3, a4⟩ := h1 k hk
    refine ⟨a1, a2, a3, ?_⟩
    show va_up (m_sta z) b 2 k = 1 ∨ va_up (m_sta z) b 2 k = 2
    by_cases e : k = b
    · subst e; rw [va_up_self]; exact Or.inr rfl
    · rw [va_up_ne _ _ e]; exact a4
  · obtain ⟨a1, a2⟩ := h2 k
    refine ⟨a1, ?_⟩
    show va_up (m_sin z) b (m_backs z + 1) k ≤ m_backs z + 1
    by_cases e : k = b
    · subst e; rw [va_up_self]; omega
    · rw [va_up_ne _ _ e]; omega
theorem zsum_kept {f g : Nat → Nat} {n : Nat} (h : ∀ k, k < n → g k ≤ 2048) : zsum (fun k => if f k = 2 then g k else 0) n ≤ n * 2048 := by
  have := zsum_mono (f := fun k => if f k = 2 then g k else 0) (g := fun _ => 2048) (n := n) (fun k hk => by
    show (if f k = 2 then g k else 0) ≤ 2048
    have := h k hk
    split <;> omega)
  rw [zsum_const] at this
  exact this
theorem zsum_s {f : Nat → Nat} {n : Nat} : zsum f (n + 1) = zsum f n + f n := rfl
theorem zc16 {n : Nat} (h : n ≤ 2048) : n ≠ 0 → (n + 16 - 1) / 16 * 16 = 16 * zc n := by
  intro h0
  unfold zc
  rw [if_neg h0]
  omega
