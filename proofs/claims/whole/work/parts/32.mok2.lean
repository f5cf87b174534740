def mof (z : MT) (v : Int32) (y k : Nat) : Prop := m_sta z k = y ∧ (m_pl z k : Int) ≤ v.toInt ∧ v.toInt < m_pl z k + m_sz z k
def mlead (z : MT) (v : Int32) (k : Nat) : Prop := m_sta z k = 1 ∧ (v = nI (m_pl z k) ∨ ((m_pl z k : Int) ≤ v.toInt ∧ v.toInt < m_pl z k + m_sz z k))
theorem mh_word {a b c d : Nat} (ha : a < 256) (hb : b < 256) (hc : c < 256) (hd : d < 256) :
    ((nI a ||| (nI b <<< (nI 8 &&& 31))) ||| (nI c <<< (nI 16 &&& 31))) ||| (nI d <<< (nI 24 &&& 31)) = nI (a + 256 * b + 65536 * c + 16777216 * d) := by
  have s1 : nI b <<< (nI 8 &&& 31) = nI (b * 2 ^ 8) := pk_shlN _ 8 (by decide) (by omega)
  have s2 : nI c <<< (nI 16 &&& 31) = nI (c * 2 ^ 16) := pk_shlN _ 16 (by decide) (by omega)
  have s3 : nI d <<< (nI 24 &&& 31) = nI (d * 2 ^ 24) := pk_shlN _ 24 (by decide) (by omega)
  rw [s1, s2, s3, zh_or (by omega), zh_or (by omega), zh_or (by omega)]
  congr 1
  omega
theorem mh_shr {n : Nat} (hn : n < 2 ^ 32) (j : Nat) (hj : j < 4) : (nI n >>> (nI (8 * j) &&& 31)) &&& nI 255 = nI (n / 2 ^ (8 * j) % 256) := by
  have hs : ∀ k, k < 32 → ((nI k &&& 31).toBitVec.smod 32).toNat = k := by decide +kernel
  have h1 : ((nI n >>> (nI (8 * j) &&& 31)) &&& nI 255) = nI ((nI n >>> (nI (8 * j) &&& 31)).toBitVec.toNat % 2 ^ 8) := pk_and _ 8 (by decide)
  rw [h1]
  refine congrArg nI ?_
  have e : ((nI n >>> (nI (8 * j) &&& 31)).toBitVec) = BitVec.sshiftRight (BitVec.ofNat 32 n) (8 * j) := by
    show (BitVec.sshiftRight' (BitVec.ofNat 32 n) ((nI (8 * j) &&& 31).toBitVec.smod 32)) = _
    rw [BitVec.sshiftRight', hs _ (by omega)]
  rw [e]
  apply Nat.eq_of_testBit_eq
  intro i
  rw [Nat.testBit_mod_two_pow, show (256 : Nat) = 2 ^ 8 from rfl, Nat.testBit_mod_two_pow, Nat.testBit_div_two_pow]
  by_cases hi : i < 8
  · simp only [hi, decide_true, Bool.true_and]
    rw [BitVec.testBit_toNat, BitVec.getLsbD_sshiftRight]
    have h32 : i < 32 := by omega
    have h33 : i + 8 * j < 32 := by omega
    simp only [BitVec.getLsbD_ofNat]
    simp [h32, h33, Nat.not_le.mpr h32, Nat.add_comm]
  · simp [hi]
theorem mlead_in {z : MT} {v : Int32} {k : Nat} (hz : mOK z) (hk : k < m_many z) (h : mlead z v k) : (m_pl z k : Int) ≤ v.toInt ∧ v.toInt < m_pl z k + 16 * zc (m_sz z k) := by
  have hat := hz.at hk
  have h1 := zc_ge (m_sz z k)
  have h2 := zc_pos (m_sz z k)
  rcases h.2 with e | ⟨e1, e2⟩
  · rw [e, nI_toInt (by omega)]
    omega
  · omega
theorem mlead_one {z : MT} {v : Int32} {j k : Nat} (hz : mOK z) (hj : j < m_many z) (hk : k < m_many z) (h1 : mlead z v j) (h2 : mlead z v k) : j = k := by
  by_cases e : j = k
  · exact e
  · have a := mlead_in hz hj h1
    have b := mlead_in hz hk h2
    have c := hz.1.2 j k hj hk e
    have d1 := (hz.2.1 j).1 hj
    have d2 := (hz.2.1 k).1 hk
    have c : m_pl z j / 16 + zc (m_sz z j) + 1 ≤ m_pl z k / 16 ∨ m_pl z k / 16 + zc (m_sz z k) + 1 ≤ m_pl z j / 16 := c
    omega
