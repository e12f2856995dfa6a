/-! PURE: small numbers -/
theorem z_lt {a b : Nat} (ha : a < 2 ^ 31) (hb : b < 2 ^ 31) : (nI a < nI b) ↔ a < b :=
  ⟨fun h => Decidable.byContradiction fun k => nI_nlt (Nat.le_of_not_lt k) ha h, fun h => nI_lt h hb⟩
theorem z_le {a b : Nat} (ha : a < 2 ^ 31) (hb : b < 2 ^ 31) : (nI a ≤ nI b) ↔ a ≤ b :=
  ⟨fun h => Decidable.byContradiction fun k => nI_ge (Nat.lt_of_not_le k) ha h, fun h => nI_le h hb⟩
theorem z_eq {a b : Nat} (ha : a < 2 ^ 31) (hb : b < 2 ^ 31) : (nI a = nI b) ↔ a = b :=
  ⟨fun h => by have := congrArg Int32.toNatClampNeg h; rwa [nI_clamp ha, nI_clamp hb] at this, fun h => by rw [h]⟩
theorem z_cl {a : Nat} (ha : a < 2 ^ 31) : (nI a).toNatClampNeg = a := nI_clamp ha
theorem z_ad (a b : Nat) : nI a + nI b = nI (a + b) := (Int32.ofNat_add a b).symm
theorem z_mu (a b : Nat) : nI a * nI b = nI (a * b) := (Int32.ofNat_mul a b).symm
theorem z_sb {a b : Nat} (h : b ≤ a) : nI a - nI b = nI (a - b) := pk_sub h
theorem z_m2 : ∀ a : Nat, a < 256 → nI a - nI a / nI 2 * nI 2 = nI (a % 2) := by decide +kernel
theorem z_an : ∀ a : Nat, a < 256 → nI a &&& nI 255 = nI a := by decide +kernel
def mI : Int32 := -1
theorem z_n1 : -(nI 1) = mI := by decide +kernel
theorem z_mi : mI.toInt = -1 := by decide +kernel
theorem z_em {a : Nat} (h : a < 2 ^ 31) : (nI a = mI) ↔ False :=
  ⟨fun e => by have := congrArg Int32.toInt e; rw [nI_toInt h, z_mi] at this; omega, False.elim⟩
theorem z_me {a : Nat} (h : a < 2 ^ 31) : (mI = nI a) ↔ False :=
  ⟨fun e => (z_em h).mp e.symm, False.elim⟩
theorem z_lm {a : Nat} (h : a < 2 ^ 31) : (nI a < mI) ↔ False :=
  ⟨fun e => by rw [Int32.lt_iff_toInt_lt, nI_toInt h, z_mi] at e; omega, False.elim⟩
theorem z_ml {a : Nat} (h : a < 2 ^ 31) : (mI < nI a) ↔ True :=
  ⟨fun _ => trivial, fun _ => by rw [Int32.lt_iff_toInt_lt, nI_toInt h, z_mi]; omega⟩
theorem z_mle {a : Nat} (h : a < 2 ^ 31) : (nI a ≤ mI) ↔ False :=
  ⟨fun e => by rw [Int32.le_iff_toInt_le, nI_toInt h, z_mi] at e; omega, False.elim⟩
theorem z_lme {a : Nat} (h : a < 2 ^ 31) : (mI ≤ nI a) ↔ True :=
  ⟨fun _ => trivial, fun _ => by rw [Int32.le_iff_toInt_le, nI_toInt h, z_mi]; omega⟩
theorem z_ma : mI + nI 1 = nI 0 := by decide +kernel
theorem z_am {a : Nat} (h : 1 ≤ a) : nI a + mI = nI (a - 1) := by
  obtain ⟨b, rfl⟩ : ∃ b, a = b + 1 := ⟨a - 1, by omega⟩
  show nI (b + 1) + -1 = nI b
  rw [← Int32.sub_eq_add_neg]
  exact nI_pred b
theorem z_l0 : (0 : Int32) = nI 0 := rfl
theorem z_l1 : (1 : Int32) = nI 1 := rfl
theorem z_l2 : (2 : Int32) = nI 2 := rfl
theorem z_l3 : (3 : Int32) = nI 3 := rfl
theorem z_l4 : (4 : Int32) = nI 4 := rfl
theorem z_l5 : (5 : Int32) = nI 5 := rfl
theorem z_l6 : (6 : Int32) = nI 6 := rfl
theorem z_l7 : (7 : Int32) = nI 7 := rfl
theorem z_l8 : (8 : Int32) = nI 8 := rfl
theorem z_l10 : (10 : Int32) = nI 10 := rfl
theorem z_l14 : (14 : Int32) = nI 14 := rfl
theorem z_l15 : (15 : Int32) = nI 15 := rfl
theorem z_l16 : (16 : Int32) = nI 16 := rfl
theorem z_l32 : (32 : Int32) = nI 32 := rfl
theorem z_l80 : (80 : Int32) = nI 80 := rfl
theorem z_l101 : (101 : Int32) = nI 101 := rfl
theorem z_l120 : (120 : Int32) = nI 120 := rfl
theorem z_l126 : (126 : Int32) = nI 126 := rfl
theorem z_l127 : (127 : Int32) = nI 127 := rfl
theorem z_l130 : (130 : Int32) = nI 130 := rfl
theorem z_l160 : (160 : Int32) = nI 160 := rfl
theorem z_l198 : (198 : Int32) = nI 198 := rfl
theorem z_l200 : (200 : Int32) = nI 200 := rfl
theorem z_l202 : (202 : Int32) = nI 202 := rfl
theorem z_l240 : (240 : Int32) = nI 240 := rfl
theorem z_l252 : (252 : Int32) = nI 252 := rfl
theorem z_l253 : (253 : Int32) = nI 253 := rfl
theorem z_l254 : (254 : Int32) = nI 254 := rfl
theorem z_l255 : (255 : Int32) = nI 255 := rfl
theorem z_l260 : (260 : Int32) = nI 260 := rfl
theorem z_l480 : (480 : Int32) = nI 480 := rfl
theorem z_l900 : (900 : Int32) = nI 900 := rfl
/-! rows -/
theorem gA {α : Type} {l : List α} {x d : α} {k : Nat} (h : k < l.length) : (l ++ [x]).getD k d = l.getD k d := by
  simp [List.getD, List.getElem?_append_left h]
theorem gB {α : Type} {l : List α} {x d : α} : (l ++ [x]).getD l.length d = x := by
  simp [List.getD]
theorem gM {l : List Nat} {i : Nat} (hi : i < l.length) : (l.map nI).getD i 0 = nI (l.getD i 0) := by
  simp [List.getD, List.getElem?_map, hi]
/-- b holds the bytes l, in a row of n places -/
def rn (b : S_Bs) (n : Nat) (l : List Nat) : Prop := rb b n (l.map nI) ∧ ∀ i, l.getD i 0 < 256
theorem rn_cap {b : S_Bs} {n : Nat} {l : List Nat} (h : rn b n l) : l.length ≤ n ∧ n ≤ 1000 := ⟨by simpa using h.1.2.2.2.1, h.1.2.1⟩
theorem rn_count {b : S_Bs} {n : Nat} {l : List Nat} (h : rn b n l) : F_Bs_count b = some (nI l.length) := by
  rw [rb_count h.1, List.length_map]
theorem rn_get {b : S_Bs} {n : Nat} {l : List Nat} (h : rn b n l) {i : Nat} (hi : i < l.length) : F_Bs_get b (nI i) = some (nI (l.getD i 0)) := by
  rw [rb_get h.1 (by simpa using hi), gM hi]
theorem rn_reset {b : S_Bs} {n : Nat} {l : List Nat} (h : rn b n l) : ∃ b', F_Bs_reset b = some b' ∧ rn b' n [] := by
  obtain ⟨b', e, h'⟩ := rb_reset h.1
  exact ⟨b', e, h', fun i => by simp⟩
theorem rn_append {b : S_Bs} {n : Nat} {l : List Nat} (h : rn b n l) (hl : l.length < n) {v : Int32} {x : Nat} (hx : x < 256) (hv : v &&& 255 = nI x) : ∃ b', F_Bs_append b v = some b' ∧ rn b' n (l ++ [x]) := by
  obtain ⟨b', e, h'⟩ := rb_append h.1 (by simpa using hl) v
  refine ⟨b', e, ?_, fun i => ?_⟩
  · rw [List.map_append]
    rw [hv] at h'
    exact h'
  · by_cases e1 : i < l.length
    · rw [gA e1]; exact h.2 i
    · by_cases e2 : i = l.length
      · rw [e2, gB]; exact hx
      · rw [show (l ++ [x]).getD i 0 = 0 by simp [List.getD]; rw [List.getElem?_eq_none (by simp; omega)]; rfl]
        omega
theorem rn_append' {b : S_Bs} {n : Nat} {l : List Nat} (h : rn b n l) (hl : l.length < n) {x : Nat} (hx : x < 256) : ∃ b', F_Bs_append b (nI x) = some b' ∧ rn b' n (l ++ [x]) :=
  rn_append h hl hx (z_an x hx)
theorem rn_room {b : S_Bs} {n : Nat} {l : List Nat} (h : rn b n l) {k : Nat} (hk : k < 2 ^ 30) : F_Bs_hasRoom b (nI k) = some (if k + l.length ≤ n then 1 else 0) := by
  rw [rb_room h.1 hk, List.length_map]
/-! what a set is: its nodes in the order of their bytes: level, tag, number, text -/
abbrev Nd : Type := Nat × Nat × Int32 × List Nat
def nz : Nd := (0, 0, 0, [])
def nG (nd : List Nd) (k : Nat) : Nd := nd.getD k nz
def nL (nd : List Nd) (k : Nat) : Nat := (nG nd k).1
def nT (nd : List Nd) (k : Nat) : Nat := (nG nd k).2.1
def nV (nd : List Nd) (k : Nat) : Int32 := (nG nd k).2.2.1
def nX (nd : List Nd) (k : Nat) : List Nat := (nG nd k).2.2.2
def kd (g : Nat) : Nat := if g < 80 then 1 else if g < 160 then 2 else if g ≤ 200 then 3 else 4
def nb (v : Int32) : Nat := if v.toInt < -128 ∨ 128 ≤ v.toInt then (if v.toInt < -32768 ∨ 32768 ≤ v.toInt then (if v.toInt < -8388608 ∨ 8388608 ≤ v.toInt then 4 else 3) else 2) else 1
def ch (nd : List Nd) : List Nat := nd.flatMap (fun x => x.2.2.2)
def xv (nd : List Nd) (k : Nat) : Int32 := if kd (nT nd k) = 1 then nV nd k else if kd (nT nd k) = 2 then nI (ch (nd.take k)).length else nI 0
def xl (nd : List Nd) (k : Nat) : Nat := if kd (nT nd k) = 1 then nb (nV nd k) else if kd (nT nd k) = 2 then (nX nd k).length else 0
/-- b is the first node behind k that is not inside k -/
def isB (nd : List Nd) (k b : Nat) : Prop := k < b ∧ b ≤ nd.length ∧ (∀ j, k < j → j < b → nL nd k < nL nd j) ∧ (b < nd.length → nL nd b ≤ nL nd k)
theorem isB_uniq {nd : List Nd} {k b c : Nat} (h1 : isB nd k b) (h2 : isB nd k c) : b = c := by
  obtain ⟨a1, a2, a3, a4⟩ := h1
  obtain ⟨b1, b2, b3, b4⟩ := h2
  rcases Nat.lt_trichotomy b c with h | h | h
  · have h5 := b3 b a1 h
    have h6 := a4 (by omega)
    omega
  · exact h
  · have h5 := a3 c b1 h
    have h6 := b4 (by omega)
    omega
section NDA
variable {nd : List Nd} {x : Nd} {k : Nat}
theorem nG_a (h : k < nd.length) : nG (nd ++ [x]) k = nG nd k := gA h
theorem nG_n : nG (nd ++ [x]) nd.length = x := gB
theorem nL_a (h : k < nd.length) : nL (nd ++ [x]) k = nL nd k := by unfold nL; rw [nG_a h]
theorem nL_n : nL (nd ++ [x]) nd.length = x.1 := by unfold nL; rw [nG_n]
theorem nT_a (h : k < nd.length) : nT (nd ++ [x]) k = nT nd k := by unfold nT; rw [nG_a h]
theorem nT_n : nT (nd ++ [x]) nd.length = x.2.1 := by unfold nT; rw [nG_n]
theorem nV_a (h : k < nd.length) : nV (nd ++ [x]) k = nV nd k := by unfold nV; rw [nG_a h]
theorem nV_n : nV (nd ++ [x]) nd.length = x.2.2.1 := by unfold nV; rw [nG_n]
theorem nX_a (h : k < nd.length) : nX (nd ++ [x]) k = nX nd k := by unfold nX; rw [nG_a h]
theorem nX_n : nX (nd ++ [x]) nd.length = x.2.2.2 := by unfold nX; rw [nG_n]
theorem ch_a : ch (nd ++ [x]) = ch nd ++ x.2.2.2 := by unfold ch; rw [List.flatMap_append]; simp
theorem tk_a (h : k ≤ nd.length) : (nd ++ [x]).take k = nd.take k := List.take_append_of_le_length h
theorem xv_a (h : k < nd.length) : xv (nd ++ [x]) k = xv nd k := by unfold xv; rw [nT_a h, nV_a h, tk_a (by omega)]
theorem xv_n : xv (nd ++ [x]) nd.length = if kd x.2.1 = 1 then x.2.2.1 else if kd x.2.1 = 2 then nI (ch nd).length else nI 0 := by
  unfold xv; rw [nT_n, nV_n, tk_a (Nat.le_refl _), List.take_length]
theorem xl_a (h : k < nd.length) : xl (nd ++ [x]) k = xl nd k := by unfold xl; rw [nT_a h, nV_a h, nX_a h]
theorem xl_n : xl (nd ++ [x]) nd.length = if kd x.2.1 = 1 then nb x.2.2.1 else if kd x.2.1 = 2 then x.2.2.2.length else 0 := by
  unfold xl; rw [nT_n, nV_n, nX_n]
theorem isB_a {b : Nat} (h : isB nd k b) (hb : b < nd.length ∨ x.1 ≤ nL nd k) : isB (nd ++ [x]) k b := by
  obtain ⟨h1, h2, h3, h4⟩ := h
  have hk : k < nd.length := by omega
  refine ⟨h1, by simp; omega, fun j hj hjb => ?_, fun h5 => ?_⟩
  · rw [nL_a hk, nL_a (by omega)]
    exact h3 j hj hjb
  · rw [nL_a hk]
    by_cases e : b < nd.length
    · rw [nL_a e]; exact h4 e
    · have : b = nd.length := by omega
      subst this
      rw [nL_n]
      rcases hb with hb | hb
      · omega
      · exact hb
theorem isB_n : isB (nd ++ [x]) nd.length (nd.length + 1) := by
  refine ⟨by omega, by simp, fun j hj hjb => by omega, fun h => ?_⟩
  simp at h
end NDA
/-! what is read as a length -/
def okL (k n : Nat) : Bool := if k = 1 then decide (1 ≤ n ∧ n ≤ 4) else if k = 2 then decide (n ≤ 16 ∧ n % 2 = 0) else decide (n ≤ 240 ∨ n = 255)
theorem kd_le (g : Nat) : 1 ≤ kd g ∧ kd g ≤ 4 := by unfold kd; split <;> (try split) <;> (try split) <;> omega
theorem c_kindOf : ∀ g : Nat, g < 256 → F_Rn_kindOf (nI g) = some (nI (kd g)) := by decide +kernel
theorem c_isL1 : ∀ n : Nat, n < 256 → F_Rd_isLength (nI 1) (nI n) = some (if okL 1 n then nI 1 else nI 0) := by decide +kernel
theorem c_isL2 : ∀ n : Nat, n < 256 → F_Rd_isLength (nI 2) (nI n) = some (if okL 2 n then nI 1 else nI 0) := by decide +kernel
theorem c_isL3 : ∀ n : Nat, n < 256 → F_Rd_isLength (nI 3) (nI n) = some (if okL 3 n then nI 1 else nI 0) := by decide +kernel
theorem c_isL4 : ∀ n : Nat, n < 256 → F_Rd_isLength (nI 4) (nI n) = some (if okL 4 n then nI 1 else nI 0) := by decide +kernel
theorem c_isLength {k n : Nat} (h1 : 1 ≤ k) (h2 : k ≤ 4) (hn : n < 256) : F_Rd_isLength (nI k) (nI n) = some (if okL k n then nI 1 else nI 0) := by
  obtain rfl | rfl | rfl | rfl : k = 1 ∨ k = 2 ∨ k = 3 ∨ k = 4 := by omega
  · exact c_isL1 n hn
  · exact c_isL2 n hn
  · exact c_isL3 n hn
  · exact c_isL4 n hn
