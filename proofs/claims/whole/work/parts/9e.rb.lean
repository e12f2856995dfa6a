/-! PURE: what is written reads back: what a node that was read is like; numbers -/
def okX (x : Nd) : Prop := (kd x.2.1 ≠ 1 → x.2.2.1 = 0) ∧ (x.2.2.2 ≠ [] → x.2.2.2.getD (x.2.2.2.length - 1) 0 ≠ 32) ∧ 1 ≤ x.2.1 ∧ (kd x.2.1 = 3 → x.1 ≠ 5)
theorem rLn_kx {src : List Nat} {p g : Nat} {f' : Fr} {st : List Fr} {nd : List Nd} {τ : RS} (hg : 1 ≤ g) (h3 : kd g = 3 → st.length ≠ 4) (h : ∀ x ∈ nd, okX x) (e : rLn src g p f' st nd = .inr τ) : ∀ x ∈ τ.2.2, okX x := by
  have ap : ∀ y : Nd, okX y → ∀ x ∈ nd ++ [y], okX x := by
    intro y hy x hx
    rcases List.mem_append.mp hx with hx | hx
    · exact h x hx
    · rw [List.mem_singleton.mp hx]
      exact hy
  unfold rLn at e
  split at e
  · cases e
  · split at e
    · split at e
      · rename_i k1
        cases e
        exact ap _ ⟨fun hk => absurd k1 hk, fun hk => absurd rfl hk, hg, fun q => by have := h3 q; dsimp only; omega⟩
      · split at e
        · split at e
          · cases e
          · rename_i k1 k2 k3
            cases e
            refine ap _ ⟨fun _ => rfl, fun hk => ?_, hg, fun q => by have := h3 q; dsimp only; omega⟩
            dsimp only at hk ⊢
            rw [tx_len]
            have h0 : 0 < kp src (p + 1) (src.getD p 0) := by
              rcases Nat.eq_zero_or_pos (kp src (p + 1) (src.getD p 0)) with z | z
              · rw [z] at hk
                exact absurd rfl hk
              · exact z
            rw [tx_get (by omega)]
            intro h32
            apply k3
            unfold badT
            rw [decide_eq_true ⟨h0, by rw [← h32]; congr 1; omega⟩, Bool.true_or]
        · cases e
          exact ap _ ⟨fun _ => rfl, fun hk => absurd rfl hk, hg, fun q => by have := h3 q; dsimp only; omega⟩
    · cases e
theorem rSt_kx {syn : Nat} {src : List Nat} {ps : Nat} {f : Fr} {st : List Fr} {nd : List Nd} {τ : RS} (h : ∀ x ∈ nd, okX x) (e : rSt syn src ps f st nd = .inr τ) : ∀ x ∈ τ.2.2, okX x := by
  rcases rSt_c syn src ps f st nd with ⟨c1, ⟨c2, c3⟩ | ⟨c2, c3⟩⟩ | ⟨c1, c3⟩ | ⟨c1, hev, c3⟩ | ⟨c1, hodd, c3⟩
  · rw [c3] at e
    cases e
  · rw [c3] at e
    cases e
    exact h
  · rw [c3] at e
    cases e
    exact h
  · rw [c3] at e
    unfold rEl at e
    split at e
    · cases e
    · rename_i b1
      split at e
      · cases e
      · split at e
        · cases e
        · split at e
          · cases e
          · split at e
            · cases e
            · exact rLn_kx (by omega) (fun q q' => by simp_all) h e
  · rw [c3] at e
    unfold rIt at e
    split at e
    · cases e
    · split at e
      · cases e
      · exact rLn_kx (by omega) (fun q => absurd q (by decide)) h e
theorem rGo_kx {syn : Nat} {src : List Nat} : ∀ (k : Nat) (σ : RS), (∀ x ∈ σ.2.2, okX x) → ∀ x ∈ (rGo syn src k σ).2, okX x
  | 0, σ, h => h
  | k + 1, (ps, [], nd), h => h
  | k + 1, (ps, f :: st, nd), h => by
    show ∀ x ∈ (match rSt syn src ps f st nd with | .inl e => (e, nd) | .inr τ => rGo syn src k τ).2, okX x
    cases e : rSt syn src ps f st nd with
    | inl e => exact h
    | inr τ => exact rGo_kx k τ (rSt_kx h e)
theorem rD_kx {syn : Nat} {src : List Nat} : ∀ x ∈ (rD syn src).2, okX x := by
  refine rGo_kx _ _ (fun x hx => ?_)
  rw [List.mem_singleton.mp hx]
  exact ⟨fun _ => rfl, fun h => absurd rfl h, by decide, by decide⟩
/-! the bytes of a number -/
theorem nuv_c {src src' : List Nat} {q q' : Nat} : ∀ n, (∀ i, i < n → src.getD (q + i) 0 = src'.getD (q' + i) 0) → nuv src q n = nuv src' q' n
  | 0, _ => rfl
  | n + 1, h => by
    show nuv src q n ||| _ = nuv src' q' n ||| _
    rw [nuv_c n (fun i hi => h i (by omega)), h n (by omega)]
theorem by8_i {v b : Int32} {k : Nat} (hb : (b.toBitVec.smod 32#32).toNat = k) : (((v >>> b) &&& 255).toBitVec.toNat : Int) = (v.toInt / 2 ^ k) % 256 := by
  have h := sar_toInt v k b hb
  have h2 := nN_toInt (v >>> b)
  have h3 : ((v >>> b) &&& 255).toBitVec.toNat = nN (v >>> b) % 256 := by
    rw [Int32.toBitVec_and, BitVec.toNat_and]
    exact Nat.and_two_pow_sub_one_eq_mod (nN (v >>> b)) 8
  rw [h3, ← h]
  split at h2 <;> omega
theorem ar_1 {z : Int} {a : Nat} (ha : (a : Int) = z % 256) (r1 : -128 ≤ z) (r2 : z < 128) : (if a * 16777216 % 4294967296 < 2147483648 then ((a * 16777216 % 4294967296 : Nat) : Int) else ((a * 16777216 % 4294967296 : Nat) : Int) - 4294967296) / 16777216 = z := by
  have e : a * 16777216 % 4294967296 = a * 16777216 := by omega
  rw [e]
  split <;> omega
theorem ar_2 {z : Int} {a : Nat} (ha : (a : Int) = z % 65536) (r1 : -32768 ≤ z) (r2 : z < 32768) : (if a * 65536 % 4294967296 < 2147483648 then ((a * 65536 % 4294967296 : Nat) : Int) else ((a * 65536 % 4294967296 : Nat) : Int) - 4294967296) / 65536 = z := by
  have e : a * 65536 % 4294967296 = a * 65536 := by omega
  rw [e]
  split <;> omega
theorem ar_3 {z : Int} {a : Nat} (ha : (a : Int) = z % 16777216) (r1 : -8388608 ≤ z) (r2 : z < 8388608) : (if a * 256 % 4294967296 < 2147483648 then ((a * 256 % 4294967296 : Nat) : Int) else ((a * 256 % 4294967296 : Nat) : Int) - 4294967296) / 256 = z := by
  have e : a * 256 % 4294967296 = a * 256 := by omega
  rw [e]
  split <;> omega
theorem ar_4 {z : Int} {a : Nat} (ha : (a : Int) = z % 4294967296) (r1 : -2147483648 ≤ z) (r2 : z < 2147483648) : (if a * 1 % 4294967296 < 2147483648 then ((a * 1 % 4294967296 : Nat) : Int) else ((a * 1 % 4294967296 : Nat) : Int) - 4294967296) / 1 = z := by
  have e : a * 1 % 4294967296 = a := by omega
  rw [e]
  split <;> omega
theorem ar_s2 (z : Int) : z % 256 + 256 * (z / 256 % 256) = z % 65536 := by omega
theorem ar_s3 (z : Int) : z % 65536 + 65536 * (z / 65536 % 256) = z % 16777216 := by omega
theorem ar_s4 (z : Int) : z % 16777216 + 16777216 * (z / 16777216 % 256) = z % 4294967296 := by omega
theorem cs_2 {z : Int} {a b : Nat} (ha : (a : Int) = z % 256) (hb : (b : Int) = z / 256 % 256) : ((a + 256 * b : Nat) : Int) = z % 65536 := by
  have := ar_s2 z
  omega
theorem cs_3 {z : Int} {a b c : Nat} (ha : (a : Int) = z % 256) (hb : (b : Int) = z / 256 % 256) (hc : (c : Int) = z / 65536 % 256) : ((a + 256 * b + 65536 * c : Nat) : Int) = z % 16777216 := by
  have := ar_s3 z
  have := cs_2 ha hb
  omega
theorem cs_4 {z : Int} {a b c d : Nat} (ha : (a : Int) = z % 256) (hb : (b : Int) = z / 256 % 256) (hc : (c : Int) = z / 65536 % 256) (hd : (d : Int) = z / 16777216 % 256) : ((a + 256 * b + 65536 * c + 16777216 * d : Nat) : Int) = z % 4294967296 := by
  have := ar_s4 z
  have := cs_3 ha hb hc
  omega
theorem nu_by8 {src : List Nat} {q : Nat} {v : Int32} (h : ∀ i, i < nb v → src.getD (q + i) 0 = by8 v i) : nu src q (nb v) = v := by
  have hc : ∀ n, n = nb v → nu src q n = nu ((List.range n).map (by8 v)) 0 n := by
    intro n hn
    unfold nu
    rw [nuv_c n (src' := (List.range n).map (by8 v)) (q' := 0) (fun i hi => by rw [h i (by omega)]; simp [List.getD, hi])]
  have h8 : ∀ n i, ((List.range n).map (by8 v)).getD i 0 < 256 := by
    intro n i
    by_cases hi : i < n
    · have : ((List.range n).map (by8 v)).getD i 0 = by8 v i := by simp [List.getD, hi]
      rw [this]
      exact (z_byte _).1
    · have : ((List.range n).map (by8 v)).getD i 0 = 0 := by simp [List.getD, hi]
      omega
  have a0 : ((by8 v 0 : Nat) : Int) = v.toInt % 256 := by
    have := by8_i (v := v) (b := ((8 : Int32) * nI 0) &&& 31) (k := 0) (by decide +kernel)
    rw [show (2 : Int) ^ 0 = 1 from rfl, Int.ediv_one] at this
    exact this
  have a1 : ((by8 v 1 : Nat) : Int) = v.toInt / 256 % 256 := by
    have := by8_i (v := v) (b := ((8 : Int32) * nI 1) &&& 31) (k := 8) (by decide +kernel)
    rw [show (2 : Int) ^ 8 = 256 by simp] at this
    exact this
  have a2 : ((by8 v 2 : Nat) : Int) = v.toInt / 65536 % 256 := by
    have := by8_i (v := v) (b := ((8 : Int32) * nI 2) &&& 31) (k := 16) (by decide +kernel)
    rw [show (2 : Int) ^ 16 = 65536 by simp] at this
    exact this
  have a3 : ((by8 v 3 : Nat) : Int) = v.toInt / 16777216 % 256 := by
    have := by8_i (v := v) (b := ((8 : Int32) * nI 3) &&& 31) (k := 24) (by decide +kernel)
    rw [show (2 : Int) ^ 24 = 16777216 by simp] at this
    exact this
  have lo := Int32.le_toInt v
  have hi := Int32.toInt_lt v
  have hr : (nb v = 1 ∧ -128 ≤ v.toInt ∧ v.toInt < 128) ∨ (nb v = 2 ∧ -32768 ≤ v.toInt ∧ v.toInt < 32768) ∨ (nb v = 3 ∧ -8388608 ≤ v.toInt ∧ v.toInt < 8388608) ∨ nb v = 4 := by
    unfold nb
    split
    · split
      · split
        · exact .inr (.inr (.inr rfl))
        · exact .inr (.inr (.inl ⟨rfl, by omega, by omega⟩))
      · exact .inr (.inl ⟨rfl, by omega, by omega⟩)
    · exact .inl ⟨rfl, by omega, by omega⟩
  apply Int32.toInt_inj.mp
  rcases hr with ⟨e, r1, r2⟩ | ⟨e, r1, r2⟩ | ⟨e, r1, r2⟩ | e
  · rw [e, hc 1 e.symm]
    have n1 := nuv_1 (q := 0) (h8 1)
    rw [show ((List.range 1).map (by8 v)).getD 0 0 = by8 v 0 from rfl] at n1
    unfold nu
    rw [sar_toInt _ 24 _ (by decide +kernel), nN_toInt, nN_shl _ _ 24 (by decide +kernel), n1, show (2 : Nat) ^ 24 = 16777216 by simp, show (2 : Int) ^ 24 = 16777216 by simp]
    exact ar_1 a0 r1 r2
  · rw [e, hc 2 e.symm]
    have n1 := nuv_2 (q := 0) (h8 2)
    rw [show ((List.range 2).map (by8 v)).getD 0 0 = by8 v 0 from rfl, show ((List.range 2).map (by8 v)).getD (0 + 1) 0 = by8 v 1 from rfl] at n1
    unfold nu
    rw [sar_toInt _ 16 _ (by decide +kernel), nN_toInt, nN_shl _ _ 16 (by decide +kernel), n1, show (2 : Nat) ^ 16 = 65536 by simp, show (2 : Int) ^ 16 = 65536 by simp]
    exact ar_2 (cs_2 a0 a1) r1 r2
  · rw [e, hc 3 e.symm]
    have n1 := nuv_3 (q := 0) (h8 3)
    rw [show ((List.range 3).map (by8 v)).getD 0 0 = by8 v 0 from rfl, show ((List.range 3).map (by8 v)).getD (0 + 1) 0 = by8 v 1 from rfl, show ((List.range 3).map (by8 v)).getD (0 + 2) 0 = by8 v 2 from rfl] at n1
    unfold nu
    rw [sar_toInt _ 8 _ (by decide +kernel), nN_toInt, nN_shl _ _ 8 (by decide +kernel), n1, show (2 : Nat) ^ 8 = 256 by simp, show (2 : Int) ^ 8 = 256 by simp]
    exact ar_3 (cs_3 a0 a1 a2) r1 r2
  · rw [e, hc 4 e.symm]
    have n1 := nuv_4 (q := 0) (h8 4)
    rw [show ((List.range 4).map (by8 v)).getD 0 0 = by8 v 0 from rfl, show ((List.range 4).map (by8 v)).getD (0 + 1) 0 = by8 v 1 from rfl, show ((List.range 4).map (by8 v)).getD (0 + 2) 0 = by8 v 2 from rfl, show ((List.range 4).map (by8 v)).getD (0 + 3) 0 = by8 v 3 from rfl] at n1
    unfold nu
    rw [sar_toInt _ 0 _ (by decide +kernel), nN_toInt, nN_shl _ _ 0 (by decide +kernel), n1, show (2 : Nat) ^ 0 = 1 by simp, show (2 : Int) ^ 0 = 1 by simp]
    exact ar_4 (cs_4 a0 a1 a2 a3) (by simpa using lo) (by simpa using hi)
