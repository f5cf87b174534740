abbrev ZT : Type := ((((((Nat → Nat) × (Nat → Option Nat)) × Nat) × (Nat × Nat)) × (((Nat × (Nat → Option Nat)) × Nat) × ((Nat → Nat) × Nat))) × ((((Int32 × ClassId) × Nat) × (Nat × (List Nat))) × ((((List Nat) × (Nat → Nat)) × (Nat → Nat)) × ((Nat → Bool) × (Nat → Bool)))))
def z_oct (z : ZT) : Nat → Nat := z.1.1.1.1.1
def z_tk (z : ZT) : Nat → Option Nat := z.1.1.1.1.2
def z_ko (z : ZT) : Nat := z.1.1.1.2
def z_lb (z : ZT) : Nat := z.1.1.2.1
def z_lo (z : ZT) : Nat := z.1.1.2.2
def z_mb (z : ZT) : Nat := z.1.2.1.1.1
def z_rb (z : ZT) : Nat → Option Nat := z.1.2.1.1.2
def z_rn (z : ZT) : Nat := z.1.2.1.2
def z_lf (z : ZT) : Nat → Nat := z.1.2.2.1
def z_ln (z : ZT) : Nat := z.1.2.2.2
def z_md (z : ZT) : Int32 := z.2.1.1.1.1
def z_cE (z : ZT) : ClassId := z.2.1.1.1.2
def z_aE (z : ZT) : Nat := z.2.1.1.2
def z_cap (z : ZT) : Nat := z.2.1.2.1
def z_kl (z : ZT) : List Nat := z.2.1.2.2
def z_LB (z : ZT) : List Nat := z.2.2.1.1.1
def z_bs (z : ZT) : Nat → Nat := z.2.2.1.1.2
def z_bz (z : ZT) : Nat → Nat := z.2.2.1.2
def z_kp (z : ZT) : Nat → Bool := z.2.2.2.1
def z_rc (z : ZT) : Nat → Bool := z.2.2.2.2
def zu_oct (z : ZT) (v : Nat → Nat) : ZT := (((((v, z_tk z), z_ko z), (z_lb z, z_lo z)), (((z_mb z, z_rb z), z_rn z), (z_lf z, z_ln z))), ((((z_md z, z_cE z), z_aE z), (z_cap z, z_kl z)), (((z_LB z, z_bs z), z_bz z), (z_kp z, z_rc z))))
def zu_tk (z : ZT) (v : Nat → Option Nat) : ZT := (((((z_oct z, v), z_ko z), (z_lb z, z_lo z)), (((z_mb z, z_rb z), z_rn z), (z_lf z, z_ln z))), ((((z_md z, z_cE z), z_aE z), (z_cap z, z_kl z)), (((z_LB z, z_bs z), z_bz z), (z_kp z, z_rc z))))
def zu_ko (z : ZT) (v : Nat) : ZT := (((((z_oct z, z_tk z), v), (z_lb z, z_lo z)), (((z_mb z, z_rb z), z_rn z), (z_lf z, z_ln z))), ((((z_md z, z_cE z), z_aE z), (z_cap z, z_kl z)), (((z_LB z, z_bs z), z_bz z), (z_kp z, z_rc z))))
def zu_lb (z : ZT) (v : Nat) : ZT := (((((z_oct z, z_tk z), z_ko z), (v, z_lo z)), (((z_mb z, z_rb z), z_rn z), (z_lf z, z_ln z))), ((((z_md z, z_cE z), z_aE z), (z_cap z, z_kl z)), (((z_LB z, z_bs z), z_bz z), (z_kp z, z_rc z))))
def zu_lo (z : ZT) (v : Nat) : ZT := (((((z_oct z, z_tk z), z_ko z), (z_lb z, v)), (((z_mb z, z_rb z), z_rn z), (z_lf z, z_ln z))), ((((z_md z, z_cE z), z_aE z), (z_cap z, z_kl z)), (((z_LB z, z_bs z), z_bz z), (z_kp z, z_rc z))))
def zu_mb (z : ZT) (v : Nat) : ZT := (((((z_oct z, z_tk z), z_ko z), (z_lb z, z_lo z)), (((v, z_rb z), z_rn z), (z_lf z, z_ln z))), ((((z_md z, z_cE z), z_aE z), (z_cap z, z_kl z)), (((z_LB z, z_bs z), z_bz z), (z_kp z, z_rc z))))
def zu_rb (z : ZT) (v : Nat → Option Nat) : ZT := (((((z_oct z, z_tk z), z_ko z), (z_lb z, z_lo z)), (((z_mb z, v), z_rn z), (z_lf z, z_ln z))), ((((z_md z, z_cE z), z_aE z), (z_cap z, z_kl z)), (((z_LB z, z_bs z), z_bz z), (z_kp z, z_rc z))))
def zu_rn (z : ZT) (v : Nat) : ZT := (((((z_oct z, z_tk z), z_ko z), (z_lb z, z_lo z)), (((z_mb z, z_rb z), v), (z_lf z, z_ln z))), ((((z_md z, z_cE z), z_aE z), (z_cap z, z_kl z)), (((z_LB z, z_bs z), z_bz z), (z_kp z, z_rc z))))
def zu_lf (z : ZT) (v : Nat → Nat) : ZT := (((((z_oct z, z_tk z), z_ko z), (z_lb z, z_lo z)), (((z_mb z, z_rb z), z_rn z), (v, z_ln z))), ((((z_md z, z_cE z), z_aE z), (z_cap z, z_kl z)), (((z_LB z, z_bs z), z_bz z), (z_kp z, z_rc z))))
def zu_ln (z : ZT) (v : Nat) : ZT := (((((z_oct z, z_tk z), z_ko z), (z_lb z, z_lo z)), (((z_mb z, z_rb z), z_rn z), (z_lf z, v))), ((((z_md z, z_cE z), z_aE z), (z_cap z, z_kl z)), (((z_LB z, z_bs z), z_bz z), (z_kp z, z_rc z))))
def zu_md (z : ZT) (v : Int32) : ZT := (((((z_oct z, z_tk z), z_ko z), (z_lb z, z_lo z)), (((z_mb z, z_rb z), z_rn z), (z_lf z, z_ln z))), ((((v, z_cE z), z_aE z), (z_cap z, z_kl z)), (((z_LB z, z_bs z), z_bz z), (z_kp z, z_rc z))))
def zu_cE (z : ZT) (v : ClassId) : ZT := (((((z_oct z, z_tk z), z_ko z), (z_lb z, z_lo z)), (((z_mb z, z_rb z), z_rn z), (z_lf z, z_ln z))), ((((z_md z, v), z_aE z), (z_cap z, z_kl z)), (((z_LB z, z_bs z), z_bz z), (z_kp z, z_rc z))))
def zu_aE (z : ZT) (v : Nat) : ZT := (((((z_oct z, z_tk z), z_ko z), (z_lb z, z_lo z)), (((z_mb z, z_rb z), z_rn z), (z_lf z, z_ln z))), ((((z_md z, z_cE z), v), (z_cap z, z_kl z)), (((z_LB z, z_bs z), z_bz z), (z_kp z, z_rc z))))
def zu_cap (z : ZT) (v : Nat) : ZT := (((((z_oct z, z_tk z), z_ko z), (z_lb z, z_lo z)), (((z_mb z, z_rb z), z_rn z), (z_lf z, z_ln z))), ((((z_md z, z_cE z), z_aE z), (v, z_kl z)), (((z_LB z, z_bs z), z_bz z), (z_kp z, z_rc z))))
def zu_kl (z : ZT) (v : List Nat) : ZT := (((((z_oct z, z_tk z), z_ko z), (z_lb z, z_lo z)), (((z_mb z, z_rb z), z_rn z), (z_lf z, z_ln z))), ((((z_md z, z_cE z), z_aE z), (z_cap z, v)), (((z_LB z, z_bs z), z_bz z), (z_kp z, z_rc z))))
def zu_LB (z : ZT) (v : List Nat) : ZT := (((((z_oct z, z_tk z), z_ko z), (z_lb z, z_lo z)), (((z_mb z, z_rb z), z_rn z), (z_lf z, z_ln z))), ((((z_md z, z_cE z), z_aE z), (z_cap z, z_kl z)), (((v, z_bs z), z_bz z), (z_kp z, z_rc z))))
def zu_bs (z : ZT) (v : Nat → Nat) : ZT := (((((z_oct z, z_tk z), z_ko z), (z_lb z, z_lo z)), (((z_mb z, z_rb z), z_rn z), (z_lf z, z_ln z))), ((((z_md z, z_cE z), z_aE z), (z_cap z, z_kl z)), (((z_LB z, v), z_bz z), (z_kp z, z_rc z))))
def zu_bz (z : ZT) (v : Nat → Nat) : ZT := (((((z_oct z, z_tk z), z_ko z), (z_lb z, z_lo z)), (((z_mb z, z_rb z), z_rn z), (z_lf z, z_ln z))), ((((z_md z, z_cE z), z_aE z), (z_cap z, z_kl z)), (((z_LB z, z_bs z), v), (z_kp z, z_rc z))))
def zu_kp (z : ZT) (v : Nat → Bool) : ZT := (((((z_oct z, z_tk z), z_ko z), (z_lb z, z_lo z)), (((z_mb z, z_rb z), z_rn z), (z_lf z, z_ln z))), ((((z_md z, z_cE z), z_aE z), (z_cap z, z_kl z)), (((z_LB z, z_bs z), z_bz z), (v, z_rc z))))
def zu_rc (z : ZT) (v : Nat → Bool) : ZT := (((((z_oct z, z_tk z), z_ko z), (z_lb z, z_lo z)), (((z_mb z, z_rb z), z_rn z), (z_lf z, z_ln z))), ((((z_md z, z_cE z), z_aE z), (z_cap z, z_kl z)), (((z_LB z, z_bs z), z_bz z), (z_kp z, v))))
def zmk (oct : Nat → Nat) (tk : Nat → Option Nat) (ko : Nat) (lb : Nat) (lo : Nat) (mb : Nat) (rb : Nat → Option Nat) (rn : Nat) (lf : Nat → Nat) (ln : Nat) (md : Int32) (cE : ClassId) (aE : Nat) (cap : Nat) (kl : List Nat) (LB : List Nat) (bs : Nat → Nat) (bz : Nat → Nat) (kp : Nat → Bool) (rc : Nat → Bool) : ZT := (((((oct, tk), ko), (lb, lo)), (((mb, rb), rn), (lf, ln))), ((((md, cE), aE), (cap, kl)), (((LB, bs), bz), (kp, rc))))
abbrev MT : Type := ((((Nat × (Nat → Nat)) × (Nat → Nat)) × (((Nat → Nat) × (Nat → Nat)) × (Nat → Nat))) × ((((Nat → Bool) × (Nat → Nat)) × Nat) × ((Nat × Nat) × Nat)))
def m_err (z : MT) : Nat := z.1.1.1.1
def m_oct (z : MT) : Nat → Nat := z.1.1.1.2
def m_pl (z : MT) : Nat → Nat := z.1.1.2
def m_sz (z : MT) : Nat → Nat := z.1.2.1.1
def m_sta (z : MT) : Nat → Nat := z.1.2.1.2
def m_sin (z : MT) : Nat → Nat := z.1.2.2
def m_rea (z : MT) : Nat → Bool := z.2.1.1.1
def m_fnd (z : MT) : Nat → Nat := z.2.1.1.2
def m_many (z : MT) : Nat := z.2.1.2
def m_made (z : MT) : Nat := z.2.2.1.1
def m_backs (z : MT) : Nat := z.2.2.1.2
def m_lm (z : MT) : Nat := z.2.2.2
def mu_err (z : MT) (v : Nat) : MT := ((((v, m_oct z), m_pl z), ((m_sz z, m_sta z), m_sin z)), (((m_rea z, m_fnd z), m_many z), ((m_made z, m_backs z), m_lm z)))
def mu_oct (z : MT) (v : Nat → Nat) : MT := ((((m_err z, v), m_pl z), ((m_sz z, m_sta z), m_sin z)), (((m_rea z, m_fnd z), m_many z), ((m_made z, m_backs z), m_lm z)))
def mu_pl (z : MT) (v : Nat → Nat) : MT := ((((m_err z, m_oct z), v), ((m_sz z, m_sta z), m_sin z)), (((m_rea z, m_fnd z), m_many z), ((m_made z, m_backs z), m_lm z)))
def mu_sz (z : MT) (v : Nat → Nat) : MT := ((((m_err z, m_oct z), m_pl z), ((v, m_sta z), m_sin z)), (((m_rea z, m_fnd z), m_many z), ((m_made z, m_backs z), m_lm z)))
def mu_sta (z : MT) (v : Nat → Nat) : MT := ((((m_err z, m_oct z), m_pl z), ((m_sz z, v), m_sin z)), (((m_rea z, m_fnd z), m_many z), ((m_made z, m_backs z), m_lm z)))
def mu_sin (z : MT) (v : Nat → Nat) : MT := ((((m_err z, m_oct z), m_pl z), ((m_sz z, m_sta z), v)), (((m_rea z, m_fnd z), m_many z), ((m_made z, m_backs z), m_lm z)))
def mu_rea (z : MT) (v : Nat → Bool) : MT := ((((m_err z, m_oct z), m_pl z), ((m_sz z, m_sta z), m_sin z)), (((v, m_fnd z), m_many z), ((m_made z, m_backs z), m_lm z)))
def mu_fnd (z : MT) (v : Nat → Nat) : MT := ((((m_err z, m_oct z), m_pl z), ((m_sz z, m_sta z), m_sin z)), (((m_rea z, v), m_many z), ((m_made z, m_backs z), m_lm z)))
def mu_many (z : MT) (v : Nat) : MT := ((((m_err z, m_oct z), m_pl z), ((m_sz z, m_sta z), m_sin z)), (((m_rea z, m_fnd z), v), ((m_made z, m_backs z), m_lm z)))
def mu_made (z : MT) (v : Nat) : MT := ((((m_err z, m_oct z), m_pl z), ((m_sz z, m_sta z), m_sin z)), (((m_rea z, m_fnd z), m_many z), ((v, m_backs z), m_lm z)))
def mu_backs (z : MT) (v : Nat) : MT := ((((m_err z, m_oct z), m_pl z), ((m_sz z, m_sta z), m_sin z)), (((m_rea z, m_fnd z), m_many z), ((m_made z, v), m_lm z)))
def mu_lm (z : MT) (v : Nat) : MT := ((((m_err z, m_oct z), m_pl z), ((m_sz z, m_sta z), m_sin z)), (((m_rea z, m_fnd z), m_many z), ((m_made z, m_backs z), v)))
def mmk (err : Nat) (oct : Nat → Nat) (pl : Nat → Nat) (sz : Nat → Nat) (sta : Nat → Nat) (sin : Nat → Nat) (rea : Nat → Bool) (fnd : Nat → Nat) (many : Nat) (made : Nat) (backs : Nat) (lm : Nat) : MT := ((((err, oct), pl), ((sz, sta), sin)), (((rea, fnd), many), ((made, backs), lm)))
abbrev ZG : Type := ((((Nat × Nat) × Nat) × (Nat × Nat)) × (((Nat × ClassId) × ClassId) × (ClassId × ClassId)))
def g_h (z : ZG) : Nat := z.1.1.1.1
def g_aO (z : ZG) : Nat := z.1.1.1.2
def g_aT (z : ZG) : Nat := z.1.1.2
def g_aK (z : ZG) : Nat := z.1.2.1
def g_aR (z : ZG) : Nat := z.1.2.2
def g_aL (z : ZG) : Nat := z.2.1.1.1
def g_cB (z : ZG) : ClassId := z.2.1.1.2
def g_cT (z : ZG) : ClassId := z.2.1.2
def g_cR (z : ZG) : ClassId := z.2.2.1
def g_cI (z : ZG) : ClassId := z.2.2.2
def gmk (h : Nat) (aO : Nat) (aT : Nat) (aK : Nat) (aR : Nat) (aL : Nat) (cB : ClassId) (cT : ClassId) (cR : ClassId) (cI : ClassId) : ZG := ((((h, aO), aT), (aK, aR)), (((aL, cB), cT), (cR, cI)))
abbrev MG : Type := ((((Nat × Nat) × (Nat × Nat)) × ((Nat × Nat) × (Nat × Nat))) × (((ClassId × ClassId) × (ClassId × ClassId)) × ((ClassId × ClassId) × ClassId)))
def n_h (z : MG) : Nat := z.1.1.1.1
def n_aO (z : MG) : Nat := z.1.1.1.2
def n_aP (z : MG) : Nat := z.1.1.2.1
def n_aS (z : MG) : Nat := z.1.1.2.2
def n_aT (z : MG) : Nat := z.1.2.1.1
def n_aN (z : MG) : Nat := z.1.2.1.2
def n_aR (z : MG) : Nat := z.1.2.2.1
def n_aF (z : MG) : Nat := z.1.2.2.2
def n_c1 (z : MG) : ClassId := z.2.1.1.1
def n_c2 (z : MG) : ClassId := z.2.1.1.2
def n_c3 (z : MG) : ClassId := z.2.1.2.1
def n_c4 (z : MG) : ClassId := z.2.1.2.2
def n_c5 (z : MG) : ClassId := z.2.2.1.1
def n_c6 (z : MG) : ClassId := z.2.2.1.2
def n_c7 (z : MG) : ClassId := z.2.2.2
def nmk (h : Nat) (aO : Nat) (aP : Nat) (aS : Nat) (aT : Nat) (aN : Nat) (aR : Nat) (aF : Nat) (c1 : ClassId) (c2 : ClassId) (c3 : ClassId) (c4 : ClassId) (c5 : ClassId) (c6 : ClassId) (c7 : ClassId) : MG := ((((h, aO), (aP, aS)), ((aT, aN), (aR, aF))), (((c1, c2), (c3, c4)), ((c5, c6), c7)))
theorem z_eta (z : ZT) : zmk (z_oct z) (z_tk z) (z_ko z) (z_lb z) (z_lo z) (z_mb z) (z_rb z) (z_rn z) (z_lf z) (z_ln z) (z_md z) (z_cE z) (z_aE z) (z_cap z) (z_kl z) (z_LB z) (z_bs z) (z_bz z) (z_kp z) (z_rc z) = z := rfl
theorem m_eta (z : MT) : mmk (m_err z) (m_oct z) (m_pl z) (m_sz z) (m_sta z) (m_sin z) (m_rea z) (m_fnd z) (m_many z) (m_made z) (m_backs z) (m_lm z) = z := rfl
def zb (b : Bool) : Int32 := match b with | true => 1 | false => 0
/-- a block's cell -/
def zF (z : ZT) (a : Nat) : va_E := .inr (1, [.int (nI (z_bs z a)), .int (nI (z_bz z a)), .int (zb (z_kp z a)), .int (zb (z_rc z a))])
/-- the list's own array, once it has one -/
def zwe (z : ZT) : va_W := match z_cap z with
  | 0 => []
  | n + 1 => [(z_aE z, .inl (z_cE z, n + 1, .inr (.inr (.inr (.inr (fun j => (z_kl z)[j]?))))))]
def zwt (z : ZT) : List (ClassId × FieldType) := match z_cap z with
  | 0 => []
  | _ + 1 => [(z_cE z, .object "java/lang/Object")]
def zeR (t0 : Nat) (z : ZT) : Nat := match z_cap z with
  | 0 => t0
  | _ + 1 => z_aE z
def zX (t0 : Nat) (g : ZG) (z : ZT) : va_W := [(g_h g, .inr (0, [.ref (g_aO g), .ref (g_aT g), .ref (g_aK g), .int (nI (z_ko z)), .int (nI (z_lb z)), .int (nI (z_lo z)), .int (nI (z_mb z)), .ref (g_aR g), .int (nI (z_rn z)), .ref (g_aL g), .int (nI (z_ln z))])), (g_aO g, .inl (g_cB g, 8192, .inl (fun j => sb_b (z_oct z j)))), (g_aT g, .inl (g_cT g, 512, .inr (.inr (.inr (.inr (z_tk z)))))), (g_aK g, .inr (3, [.int (z_md z), .ref (zeR t0 z), .int (nI (z_kl z).length)])), (g_aR g, .inl (g_cR g, 255, .inr (.inr (.inr (.inr (z_rb z)))))), (g_aL g, .inl (g_cI g, 255, .inl (fun j => nI (z_lf z j))))]
def zW (t0 : Nat) (g : ZG) (z : ZT) : va_W := (zX t0 g z ++ zwe z) ++ va_pl (z_LB z) (zF z)
def zT (g : ZG) (z : ZT) : List (ClassId × FieldType) := [(g_cB g, .byte), (g_cT g, .object RB), (g_cR g, .object RB), (g_cI g, .int)] ++ zwt z
theorem zpool {t0 : Nat} {g : ZG} {z : ZT} {a : Nat} (h : a ∈ z_LB z) : ∃ k : Nat, (zW t0 g z)[k]? = some (a, zF z a) := va_pl_get h
def mW (g : MG) (z : MT) : va_W := [(n_h g, .inr (2, [.int (nI (m_err z)), .ref (n_aO g), .ref (n_aP g), .ref (n_aS g), .ref (n_aT g), .ref (n_aN g), .ref (n_aR g), .ref (n_aF g), .int (nI (m_many z)), .int (nI (m_made z)), .int (nI (m_backs z)), .int (nI (m_lm z))])), (n_aO g, .inl (n_c1 g, 8192, .inl (fun j => nI (m_oct z j)))), (n_aP g, .inl (n_c2 g, 300, .inl (fun j => nI (m_pl z j)))), (n_aS g, .inl (n_c3 g, 300, .inl (fun j => nI (m_sz z j)))), (n_aT g, .inl (n_c4 g, 300, .inl (fun j => nI (m_sta z j)))), (n_aN g, .inl (n_c5 g, 300, .inl (fun j => nI (m_sin z j)))), (n_aR g, .inl (n_c6 g, 300, .inl (fun j => zb (m_rea z j)))), (n_aF g, .inl (n_c7 g, 300, .inl (fun j => nI (m_fnd z j))))]
def mT (g : MG) : List (ClassId × FieldType) := [(n_c1 g, .int), (n_c2 g, .int), (n_c3 g, .int), (n_c4 g, .int), (n_c5 g, .int), (n_c6 g, .boolean), (n_c7 g, .int)]
theorem zh_upd {e v : Nat} {f : Nat → Nat} (h : e < 2 ^ 31) : upd (fun j => nI (f j)) (nI e).toNatClampNeg (nI v) = fun j => nI (va_up f e v j) := by
  funext j
  rw [nI_clamp h]
  unfold upd va_up
  split <;> rfl
theorem zh_updB {e : Nat} {v : Bool} {f : Nat → Bool} (h : e < 2 ^ 31) : upd (fun j => zb (f j)) (nI e).toNatClampNeg (zb v) = fun j => zb (va_up f e v j) := by
  funext j
  rw [nI_clamp h]
  unfold upd va_up
  split <;> rfl
theorem zh_zb (b : Bool) : zb b = 0 ↔ b = false := by cases b <;> decide
theorem zh_nar (b : Bool) : narrow .boolean (.int (zb b)) = .int (zb b) := by cases b <;> rfl
theorem zh_fit (b : Bool) : fits .boolean (.int (zb b)) = true := by cases b <;> rfl
theorem zh_vnar (b : Bool) : vp_nar .boolean (zb b) = zb b := by cases b <;> rfl
-- what the class's methods answer and do, over its state
def zwd (oct : Nat → Nat) (x : Nat) : Nat := oct x + 256 * oct (x + 1) + 65536 * oct (x + 2) + 16777216 * oct (x + 3)
/-- an octet's number, if it is one -/
def zq_at (v : Int32) : Option Nat := if 0 ≤ v.toInt ∧ v.toInt < 8192 then some v.toInt.toNat else none
theorem zq_at_some {x : Nat} (h : x < 8192) : zq_at (nI x) = some x := by
  unfold zq_at
  rw [nI_toInt (by omega), if_pos ⟨by omega, by omega⟩]
  rfl
theorem zq_at_none {v : Int32} (h : ¬ (0 ≤ v.toInt ∧ v.toInt < 8192)) : zq_at v = none := if_neg h
/-- the block, live or kept, that stands there -/
def zq_st (z : ZT) (v : Int32) : Option Nat := (zq_at v).bind (fun x => (z_tk z (x / 16)).bind (fun a => if z_bs z a = x then some a else none))
/-- the live block that has this octet -/
def zq_hv (z : ZT) (v : Int32) : Option Nat := (zq_at v).bind (fun x => (z_tk z (x / 16)).bind (fun a => if z_kp z a = false ∧ z_bs z a ≤ x ∧ x < z_bs z a + z_bz z a then some a else none))
/-- the live block to which this number leads -/
def zq_led (z : ZT) (v : Int32) : Option Nat := match zq_st z v with
  | some a => if z_kp z a = false then some a else zq_hv z v
  | none => zq_hv z v
/-- what a lost() writes on its way: reached, the blocks reached, how many -/
abbrev T3 : Type := (Nat → Bool) × (Nat → Option Nat) × Nat
def z3 (z : ZT) (t : T3) : ZT := (zmk (z_oct z) (z_tk z) (z_ko z) (z_lb z) (z_lo z) (z_mb z) t.2.1 t.2.2 (z_lf z) (z_ln z) (z_md z) (z_cE z) (z_aE z) (z_cap z) (z_kl z) (z_LB z) (z_bs z) (z_bz z) (z_kp z) t.1)
theorem z3_self (z : ZT) : z3 z (z_rc z, z_rb z, z_rn z) = z := rfl
def zr3 (z : ZT) (v : Int32) (t : T3) : T3 := match zq_led z v with
  | none => t
  | some a => if t.1 a = true ∨ 255 ≤ t.2.2 then t else (va_up t.1 a true, va_up t.2.1 t.2.2 (some a), t.2.2 + 1)
/-- the first n words of the block at a -/
def zw3 (z : ZT) (a : Nat) (t : T3) : Nat → T3
  | 0 => t
  | n + 1 => zr3 z (nI (zwd (z_oct z) (z_bs z a + 4 * n))) (zw3 z a t n)
def zs3 (z : ZT) : Nat → Nat → T3 → T3
  | 0, _, t => t
  | f + 1, i, t => if i < t.2.2 ∧ i < 255 then zs3 z f (i + 1) (match t.2.1 i with | some a => zw3 z a t (z_bz z a / 4) | none => t) else t
def zq_frc (z : ZT) : Nat → Nat → Bool
  | 0 => z_rc z
  | n + 1 => match z_rb z n with
    | some a => va_up (zq_frc z n) a false
    | none => zq_frc z n
def zq_lostP (z : ZT) (c : Nat) : Bool := match zq_st z (nI (16 * c)) with
  | some a => !z_kp z a && !z_rc z a
  | none => false
def zq_nl (z : ZT) : Nat → Nat × (Nat → Nat)
  | 0 => (0, z_lf z)
  | c + 1 => if zq_lostP z c = true ∧ (zq_nl z c).1 < 255 then ((zq_nl z c).1 + 1, va_up (zq_nl z c).2 (zq_nl z c).1 (16 * c)) else zq_nl z c
def zq_note (z : ZT) (c : Nat) : ZT := (zmk (z_oct z) (z_tk z) (z_ko z) (z_lb z) (z_lo z) (z_mb z) (z_rb z) (z_rn z) ((zq_nl z c).2) ((zq_nl z c).1) (z_md z) (z_cE z) (z_aE z) (z_cap z) (z_kl z) (z_LB z) (z_bs z) (z_bz z) (z_kp z) (z_rc z))
