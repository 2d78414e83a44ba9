/-! PURE 9: cast. -/
theorem e_begin {k : Nat} (hc : isC layC k 3 = true) (a b c d : Int32) (M : Mm) : fX3_begin k a b c d M = some ((), wr (wr (wr (wr (wr (wr (wr M k 0 a) k 1 b) k 2 c) k 3 d) k 4 0) k 5 (-1)) k 6 0) := by
  unfold fX3_begin; rw [hc]; rfl
theorem r_cast {C C' D D' : Mm} {n kd2 m g ic w sl : Nat} (h : Rel C D) (hn : nL (D 1) = n) (hn24 : n < 24) (hk : kd2 < 7) (hm : m < 10) (hg1 : 1 ≤ g) (hg : g ≤ 26) (hi : ic ≤ 999) (hw : w ≤ 99999) (hsl : sl ≤ 9999)
    (c1 : C' 0 1 = nI w) (c2 : C' 0 2 = nI sl) (c3 : C' 0 3 = C 0 3) (c4 : C' 0 4 = C 0 4) (c6 : C' 0 6 = nI (n + 1)) (c12 : C' 0 12 = C 0 12)
    (l0 : C' (4 + 1 * n) 0 = nI kd2) (l1 : C' (4 + 1 * n) 1 = nI m) (l2 : C' (4 + 1 * n) 2 = nI g) (l3 : C' (4 + 1 * n) 3 = nI ic) (l4 : C' (4 + 1 * n) 4 = 0) (l5 : C' (4 + 1 * n) 5 = -1) (l6 : C' (4 + 1 * n) 6 = 0) (hCC : ∀ k, k ≠ 0 → k ≠ 4 + 1 * n → C' k = C k)
    (d2 : D' 1 2 = nI w) (d3 : D' 1 3 = nI sl) (d0 : D' 1 0 = nI (n + 1)) (m0 : D' 1 (12 + 7 * n) = nI kd2) (m1 : D' 1 (12 + 7 * n + 1) = nI m) (m2 : D' 1 (12 + 7 * n + 2) = nI g) (m3 : D' 1 (12 + 7 * n + 3) = nI ic) (m4 : D' 1 (12 + 7 * n + 4) = 0) (m5 : D' 1 (12 + 7 * n + 5) = -1) (m6 : D' 1 (12 + 7 * n + 6) = 0)
    (hE : ∀ i, i ≠ 0 → i ≠ 2 → i ≠ 3 → ¬ (12 + 7 * n ≤ i ∧ i < 19 + 7 * n) → D' 1 i = D 1 i) (hmf : MF D D') : Rel C' D' := by
  obtain ⟨a, b, c, d, e, f, g7⟩ := id h.si
  obtain ⟨r1, r2, r3, r4, r5, r6, r7, r8, r9⟩ := id h.rs
  obtain ⟨z1, z2, z3, z4, z5, z6, z7⟩ := h.si.sz
  have eL : nL (D' 1) = n + 1 := by unfold nL; rw [d0, ix_nI (by omega)]
  have g1 := hE 1 (by omega) (by omega) (by omega) (by omega)
  have g5 := hE 5 (by omega) (by omega) (by omega) (by omega)
  have g6 := hE 6 (by omega) (by omega) (by omega) (by omega)
  have hne : ∀ p : Nat, p < 4 → ¬ (-1 : Int32) = nI p := fun p hp e => by
    have h1 : ¬ nI p < 0 := nI_pos (by omega)
    rw [← e] at h1; exact h1 (by decide)
  refine Rel_now h ⟨⟨by rw [eL, d0]; exact ⟨rfl, by omega⟩, by unfold nW at *; rw [g1]; exact a.2.1, by unfold nT at *; rw [g5]; exact a.2.2.1, by unfold nQ at *; rw [g6]; exact a.2.2.2⟩, ⟨by rw [d2]; exact ⟨nI_pos' (by omega), nI_le (b := 99999) hw (by omega)⟩, by rw [d3]; exact ⟨nI_pos' (by omega), nI_le (b := 9999) hsl (by omega)⟩, fun r hr => by rw [hE _ (by omega) (by omega) (by omega) (by omega)]; exact b.2.2 r hr⟩, fun l hl => ?_, ⟨fun p hp => ?_, fun l p hl hp he => ?_⟩, kE g1 z2 (fun i h1 h2 => hE i (by omega) (by omega) (by omega) (by omega)) e, kF (fun i h1 h2 => hE i (by omega) (by omega) (by omega) (by omega)) f, kG g5 z3 (fun i h1 h2 => hE i (by omega) (by omega) (by omega) (by omega)) g7⟩ ⟨⟨by rw [c1, d2], by rw [c2, d3], by rw [c3, hE 4 (by omega) (by omega) (by omega) (by omega)]; exact r1.2.2.1, by rw [c4, hE 7 (by omega) (by omega) (by omega) (by omega)]; exact r1.2.2.2.1, by rw [c6, d0], by rw [c12, g1]; exact r1.2.2.2.2.2⟩, kk (hCC 1 (by omega) (by omega)) (fun i h1 h2 => hE i (by omega) (by omega) (by omega) (by omega)) r2, kh (hCC 2 (by omega) (by omega)) (fun p hp => hE _ (by omega) (by omega) (by omega) (by omega)) r3, fun i f hi hf => ?_, kp z5 (fun k h1 h2 => hCC k (by omega) (by omega)) (fun p j h1 h2 h3 => hE _ (by omega) (by omega) (by omega) (by omega)) r5, kw g1 z2 z6 (fun k h1 h2 => hCC k (by omega) (by omega)) (fun i h1 h2 => hE i (by omega) (by omega) (by omega) (by omega)) r6, kt z7 (fun k h1 => hCC k (by omega) (by omega)) (fun i h1 h2 => hE i (by omega) (by omega) (by omega) (by omega)) r7, ka g5 z3 (hCC 64 (by omega) (by omega)) (hCC 65 (by omega) (by omega)) (fun i h1 h2 => hE i (by omega) (by omega) (by omega) (by omega)) r8, kq g6 z4 (hCC 66 (by omega) (by omega)) (hCC 67 (by omega) (by omega)) (fun i h1 h2 => hE i (by omega) (by omega) (by omega) (by omega)) r9⟩ (fun k hk2 => hCC k (by omega) (by omega)) hmf
  · rw [eL] at hl
    by_cases el : l = n
    · subst el
      exact ⟨⟨kd2, hk, m0⟩, ⟨m, hm, m1⟩, ⟨g, hg1, hg, m2⟩, ⟨ic, hi, m3⟩, ⟨0, by omega, m4⟩, Or.inl m5, ⟨0, by omega, m6⟩⟩
    · exact LOK_congr (fun f hf => (hE _ (by omega) (by omega) (by omega) (by omega)).symm) (c l (by omega))
  · obtain ⟨a1, a2, a3, a4⟩ := d.1 p hp
    have eP : nP (D' 1) p = nP (D 1) p := by unfold nP; rw [hE _ (by omega) (by omega) (by omega) (by omega)]
    refine ⟨by rw [hE _ (by omega) (by omega) (by omega) (by omega), eP]; exact a1, by rw [eP]; exact a2, fun j hj => ?_, fun i j hi2 hj he => ?_⟩
    · rw [eP] at hj
      obtain ⟨l, b1, b2, b3⟩ := a3 j hj
      exact ⟨l, by omega, by rw [hE _ (by omega) (by omega) (by omega) (by omega)]; exact b2, by rw [hE _ (by omega) (by omega) (by omega) (by omega)]; exact b3⟩
    · rw [eP] at hi2 hj
      rw [hE _ (by omega) (by omega) (by omega) (by omega), hE _ (by omega) (by omega) (by omega) (by omega)] at he
      exact a4 i j hi2 hj he
  · rw [eL] at hl
    by_cases el : l = n
    · subst el
      rw [m5] at he
      exact absurd he (hne p hp)
    · rw [hE _ (by omega) (by omega) (by omega) (by omega)] at he
      obtain ⟨j, b1, b2⟩ := d.2 l p (by omega) hp he
      have := (d.1 p hp).2.1
      exact ⟨j, by unfold nP at *; rw [hE _ (by omega) (by omega) (by omega) (by omega)]; exact b1, by rw [hE _ (by omega) (by omega) (by omega) (by omega)]; exact b2⟩
  · rw [eL] at hi
    rw [show 0 + 4 + i = 4 + 1 * i by omega]
    by_cases el : i = n
    · subst el
      rcases (show f = 0 ∨ f = 1 ∨ f = 2 ∨ f = 3 ∨ f = 4 ∨ f = 5 ∨ f = 6 by omega) with rfl | rfl | rfl | rfl | rfl | rfl | rfl
      · rw [l0, Nat.add_zero, m0]
      · rw [l1, m1]
      · rw [l2, m2]
      · rw [l3, m3]
      · rw [l4, m4]
      · rw [l5, m5]
      · rw [l6, m6]
    · rw [hCC _ (by omega) (by omega), hE _ (by omega) (by omega) (by omega) (by omega)]
      exact h.rs.let (by omega) hf
theorem lN_div {x c : Nat} (hx : x < 2 ^ 31) (hc0 : 0 < c) (hc : c < 2 ^ 31) : lN x / lN c = lN (x / c) := by
  apply Int64.toInt_inj.mp
  have e1 := lN_toInt hx
  have e2 := lN_toInt hc
  have e3 := lN_toInt (n := x / c) (Nat.lt_of_le_of_lt (Nat.div_le_self x c) hx)
  rw [Int64.toInt_div, e1, e2, e3]
  have h4 : (x : Int).tdiv (c : Int) = ((x / c : Nat) : Int) := (Int.ofNat_tdiv x c).symm
  have h5 : x / c ≤ x := Nat.div_le_self x c
  rw [h4]
  generalize x / c = q at *
  rw [Int.bmod_eq_of_le] <;> omega
def grn (sl i w : Nat) : Nat := if w = 0 then 0 else sl * i / w
theorem grn_le {sl i w : Nat} (h : i ≤ w) : grn sl i w ≤ sl := by
  unfold grn
  by_cases hw : w = 0
  · rw [if_pos hw]; omega
  · rw [if_neg hw]
    have : sl * i ≤ sl * w := Nat.mul_le_mul_left sl h
    exact Nat.le_trans (Nat.div_le_div_right this) (by rw [Nat.mul_div_cancel _ (by omega)]; exact Nat.le_refl _)
theorem mul_lt {sl i : Nat} (h1 : sl ≤ 9999) (h2 : i ≤ 999) : sl * i ≤ 9989001 := by
  have := Nat.mul_le_mul h1 h2
  omega
def cwr (C : Mm) (n kd2 m g i w sl : Nat) : Mm := wr (wr (wr (wr (wr (wr (wr (wr (wr (wr C (4 + 1 * n) 0 (nI kd2)) (4 + 1 * n) 1 (nI m)) (4 + 1 * n) 2 (nI g)) (4 + 1 * n) 3 (nI i)) (4 + 1 * n) 4 0) (4 + 1 * n) 5 (-1)) (4 + 1 * n) 6 0) 0 1 (nI w)) 0 2 (nI sl)) 0 6 (nI (n + 1))
def dwr (D : Mm) (n kd2 m g i w sl : Nat) : Mm := wr (wr (wr (wr (wr (wr (wr (wr (wr (wr D 1 2 (nI w)) 1 3 (nI sl)) 1 (12 + 7 * n) (nI kd2)) 1 (12 + 7 * n + 1) (nI m)) 1 (12 + 7 * n + 2) (nI g)) 1 (12 + 7 * n + 3) (nI i)) 1 (12 + 7 * n + 4) 0) 1 (12 + 7 * n + 5) (-1)) 1 (12 + 7 * n + 6) 0) 1 0 (nI (n + 1))
theorem cdwr {C D : Mm} (h : Rel C D) {n kd2 m g i w sl : Nat} (hn : nL (D 1) = n) (hn24 : n < 24) (hk7 : kd2 < 7) (hm10 : m < 10) (hg1 : 1 ≤ g) (hg : g ≤ 26) (hi : i ≤ 999) (hw : w ≤ 99999) (hsl : sl ≤ 9999) : Rel (cwr C n kd2 m g i w sl) (dwr D n kd2 m g i w sl) := by
  unfold cwr dwr
  refine r_cast (n := n) (kd2 := kd2) (m := m) (g := g) (ic := i) (w := w) (sl := sl) h hn hn24 hk7 hm10 hg1 hg hi hw hsl (by rw [wr_at, if_neg (by omega), wr_at, if_neg (by omega), wr_at, if_pos (by omega)]) (by rw [wr_at, if_neg (by omega), wr_at, if_pos (by omega)]) (by rw [wr_at, if_neg (by omega), wr_at, if_neg (by omega), wr_at, if_neg (by omega), wr_at, if_neg (by omega), wr_at, if_neg (by omega), wr_at, if_neg (by omega), wr_at, if_neg (by omega), wr_at, if_neg (by omega), wr_at, if_neg (by omega), wr_at, if_neg (by omega)]) (by rw [wr_at, if_neg (by omega), wr_at, if_neg (by omega), wr_at, if_neg (by omega), wr_at, if_neg (by omega), wr_at, if_neg (by omega), wr_at, if_neg (by omega), wr_at, if_neg (by omega), wr_at, if_neg (by omega), wr_at, if_neg (by omega), wr_at, if_neg (by omega)]) (by rw [wr_at, if_pos (by omega)]) (by rw [wr_at, if_neg (by omega), wr_at, if_neg (by omega), wr_at, if_neg (by omega), wr_at, if_neg (by omega), wr_at, if_neg (by omega), wr_at, if_neg (by omega), wr_at, if_neg (by omega), wr_at, if_neg (by omega), wr_at, if_neg (by omega), wr_at, if_neg (by omega)]) (by rw [wr_at, if_neg (by omega), wr_at, if_neg (by omega), wr_at, if_neg (by omega), wr_at, if_neg (by omega), wr_at, if_neg (by omega), wr_at, if_neg (by omega), wr_at, if_neg (by omega), wr_at, if_neg (by omega), wr_at, if_neg (by omega), wr_at, if_pos (by omega)]) (by rw [wr_at, if_neg (by omega), wr_at, if_neg (by omega), wr_at, if_neg (by omega), wr_at, if_neg (by omega), wr_at, if_neg (by omega), wr_at, if_neg (by omega), wr_at, if_neg (by omega), wr_at, if_neg (by omega), wr_at, if_pos (by omega)]) (by rw [wr_at, if_neg (by omega), wr_at, if_neg (by omega), wr_at, if_neg (by omega), wr_at, if_neg (by omega), wr_at, if_neg (by omega), wr_at, if_neg (by omega), wr_at, if_neg (by omega), wr_at, if_pos (by omega)]) (by rw [wr_at, if_neg (by omega), wr_at, if_neg (by omega), wr_at, if_neg (by omega), wr_at, if_neg (by omega), wr_at, if_neg (by omega), wr_at, if_neg (by omega), wr_at, if_pos (by omega)]) (by rw [wr_at, if_neg (by omega), wr_at, if_neg (by omega), wr_at, if_neg (by omega), wr_at, if_neg (by omega), wr_at, if_neg (by omega), wr_at, if_pos (by omega)]) (by rw [wr_at, if_neg (by omega), wr_at, if_neg (by omega), wr_at, if_neg (by omega), wr_at, if_neg (by omega), wr_at, if_pos (by omega)]) (by rw [wr_at, if_neg (by omega), wr_at, if_neg (by omega), wr_at, if_neg (by omega), wr_at, if_pos (by omega)]) (fun k h1 h2 => by rw [wr_c h1, wr_c h1, wr_c h1, wr_c h2, wr_c h2, wr_c h2, wr_c h2, wr_c h2, wr_c h2, wr_c h2]) (by rw [wr_at, if_neg (by omega), wr_at, if_neg (by omega), wr_at, if_neg (by omega), wr_at, if_neg (by omega), wr_at, if_neg (by omega), wr_at, if_neg (by omega), wr_at, if_neg (by omega), wr_at, if_neg (by omega), wr_at, if_neg (by omega), wr_at, if_pos (by omega)]) (by rw [wr_at, if_neg (by omega), wr_at, if_neg (by omega), wr_at, if_neg (by omega), wr_at, if_neg (by omega), wr_at, if_neg (by omega), wr_at, if_neg (by omega), wr_at, if_neg (by omega), wr_at, if_neg (by omega), wr_at, if_pos (by omega)]) (by rw [wr_at, if_pos (by omega)]) (by rw [wr_at, if_neg (by omega), wr_at, if_neg (by omega), wr_at, if_neg (by omega), wr_at, if_neg (by omega), wr_at, if_neg (by omega), wr_at, if_neg (by omega), wr_at, if_neg (by omega), wr_at, if_pos (by omega)]) (by rw [wr_at, if_neg (by omega), wr_at, if_neg (by omega), wr_at, if_neg (by omega), wr_at, if_neg (by omega), wr_at, if_neg (by omega), wr_at, if_neg (by omega), wr_at, if_pos (by omega)]) (by rw [wr_at, if_neg (by omega), wr_at, if_neg (by omega), wr_at, if_neg (by omega), wr_at, if_neg (by omega), wr_at, if_neg (by omega), wr_at, if_pos (by omega)]) (by rw [wr_at, if_neg (by omega), wr_at, if_neg (by omega), wr_at, if_neg (by omega), wr_at, if_neg (by omega), wr_at, if_pos (by omega)]) (by rw [wr_at, if_neg (by omega), wr_at, if_neg (by omega), wr_at, if_neg (by omega), wr_at, if_pos (by omega)]) (by rw [wr_at, if_neg (by omega), wr_at, if_neg (by omega), wr_at, if_pos (by omega)]) (by rw [wr_at, if_neg (by omega), wr_at, if_pos (by omega)]) (fun j h0 h2 h3 h4 => by rw [wr_at, if_neg (by omega), wr_at, if_neg (by omega), wr_at, if_neg (by omega), wr_at, if_neg (by omega), wr_at, if_neg (by omega), wr_at, if_neg (by omega), wr_at, if_neg (by omega), wr_at, if_neg (by omega), wr_at, if_neg (by omega), wr_at, if_neg (by omega)]) (((((((((MF_1.tr MF_1).tr MF_1).tr MF_1).tr MF_1).tr MF_1).tr MF_1).tr MF_1).tr MF_1).tr MF_1)
def ckd (km gr : Nat) : Nat := if km / 10 = 1 ∧ 0 < gr then 3 else km / 10
def ckm (km gr : Nat) : Nat := if km / 10 = 1 ∧ 0 < gr then min gr 9 else km % 10
theorem e_B89 {M : Mm} {n i w sl gr : Nat} (x : Int32) (h1 : M 0 1 = nI w) (h2 : M 0 2 = nI sl) (h6 : M 0 6 = nI n) (hiw : i ≤ w) (hgs : gr ≤ sl) : fX7_castLetter_B89 (nI gr) x (nI i) M = some (x, wr (wr (wr M 0 1 (nI (w - i))) 0 2 (nI (sl - gr))) 0 6 (nI (n + 1))) := by
  unfold fX7_castLetter_B89
  simp only [lt_e]
  have e1 : M 0 1 - nI i = nI (w - i) := by rw [h1, pk_sub hiw]
  rw [e1]
  have e2 : wr M 0 1 (nI (w - i)) 0 2 - nI gr = nI (sl - gr) := by rw [wr_at, if_neg (by omega), h2, pk_sub hgs]
  rw [e2]
  have e3 : wr (wr M 0 1 (nI (w - i))) 0 2 (nI (sl - gr)) 0 6 + 1 = nI (n + 1) := by rw [wr_at, if_neg (by omega), wr_at, if_neg (by omega), h6, nI_1]
  rw [e3]
theorem e_castC {C : Mm} {n km g i w sl : Nat} (hkm : km < 70) (hi : i ≤ 999) (h1 : C 0 1 = nI w) (hw : w ≤ 99999) (hiw : i ≤ w) (h2 : C 0 2 = nI sl) (hsl : sl ≤ 9999) (h6 : C 0 6 = nI n) (hn24 : n < 24) : fX7_castLetter (nI km) (nI g) (nI i) C = some (nI n, cwr C n (ckd km (grn sl i w)) (ckm km (grn sl i w)) g i (w - i) (sl - grn sl i w)) := by
  have hm := mul_lt hsl hi
  have hgl := grn_le (sl := sl) hiw
  have hq : (if C 0 1 = 0 then (0 : Int32) else C 0 2 * nI i / C 0 1) = nI (grn sl i w) := by
    rw [h1, h2]
    unfold grn
    by_cases hz : w = 0
    · rw [if_pos (by rw [hz]; rfl), if_pos hz]; rfl
    · rw [if_neg (by rw [show (0 : Int32) = nI 0 from rfl, eq_nI (by omega) (by omega)]; exact hz), if_neg hz, pk_mul, pk_div (by omega) (by omega) (by omega)]
  have hkd : nI km / 10 = nI (km / 10) := pk_div (d := 10) (by omega) (by omega) (by omega)
  have hkr : nI km - nI km / 10 * 10 = nI (km % 10) := pk_rem (d := 10) (by omega) (by omega) (by omega)
  have lt24 : nI n < (24 : Int32) := nI_lt (b := 24) hn24 (by omega)
  unfold fX7_castLetter
  rw [lt_e, h6, if_pos lt24, lt_e, e_quotient, hq, bd_s, hkd]
  generalize hgr : grn sl i w = gr at *
  have hB71 : fX7_castLetter_B71 (nI gr) (nI (km / 10)) (nI n) (nI km) (nI g) (nI i) C = some (nI n, cwr C n (km / 10) (km % 10) g i (w - i) (sl - gr)) := by
    unfold fX7_castLetter_B71
    rw [inb_nI hn24 (by omega), ix_nI (by omega), gd_t, c_let n hn24, gd_t, e_begin (c_let n hn24), bd_s, e_B89 (n := n) (w := w) (sl := sl) _ (by rw [wr_at, if_neg (by omega), wr_at, if_neg (by omega), wr_at, if_neg (by omega), wr_at, if_neg (by omega), wr_at, if_neg (by omega), wr_at, if_neg (by omega), wr_at, if_neg (by omega)]; exact h1) (by rw [wr_at, if_neg (by omega), wr_at, if_neg (by omega), wr_at, if_neg (by omega), wr_at, if_neg (by omega), wr_at, if_neg (by omega), wr_at, if_neg (by omega), wr_at, if_neg (by omega)]; exact h2) (by rw [wr_at, if_neg (by omega), wr_at, if_neg (by omega), wr_at, if_neg (by omega), wr_at, if_neg (by omega), wr_at, if_neg (by omega), wr_at, if_neg (by omega), wr_at, if_neg (by omega)]; exact h6) hiw hgl, hkr]
    rfl
  by_cases hk1 : km / 10 = 1
  · rw [if_pos (by rw [hk1]; rfl)]
    by_cases hg0 : 0 < gr
    · rw [if_neg (show ¬ nI gr ≤ 0 from nI_nle hg0 (by omega)), inb_nI hn24 (by omega), ix_nI (by omega), gd_t, c_let n hn24, gd_t, e_begin (c_let n hn24), bd_s]
      have hmin : (if (9 : Int32) < nI gr then (9 : Int32) else nI gr) = nI (min gr 9) := by
        by_cases h9 : 9 < gr
        · rw [if_pos (show (9 : Int32) < nI gr from nI_lt (a := 9) h9 (by omega)), Nat.min_eq_right (by omega)]; rfl
        · rw [if_neg (show ¬ (9 : Int32) < nI gr from nI_nlt (b := gr) (a := 9) (by omega) (by omega)), Nat.min_eq_left (by omega)]
      rw [hmin, e_B89 (n := n) (w := w) (sl := sl) _ (by rw [wr_at, if_neg (by omega), wr_at, if_neg (by omega), wr_at, if_neg (by omega), wr_at, if_neg (by omega), wr_at, if_neg (by omega), wr_at, if_neg (by omega), wr_at, if_neg (by omega)]; exact h1) (by rw [wr_at, if_neg (by omega), wr_at, if_neg (by omega), wr_at, if_neg (by omega), wr_at, if_neg (by omega), wr_at, if_neg (by omega), wr_at, if_neg (by omega), wr_at, if_neg (by omega)]; exact h2) (by rw [wr_at, if_neg (by omega), wr_at, if_neg (by omega), wr_at, if_neg (by omega), wr_at, if_neg (by omega), wr_at, if_neg (by omega), wr_at, if_neg (by omega), wr_at, if_neg (by omega)]; exact h6) hiw hgl]
      unfold ckd ckm
      rw [if_pos ⟨hk1, hg0⟩, if_pos ⟨hk1, hg0⟩]
      rfl
    · have : gr = 0 := by omega
      rw [if_pos (show nI gr ≤ 0 by rw [this]; decide), hB71]
      unfold ckd ckm
      rw [if_neg (by omega), if_neg (by omega)]
  · rw [if_neg (by rw [show (1 : Int32) = nI 1 from rfl, eq_nI (by omega) (by omega)]; exact hk1), hB71]
    unfold ckd ckm
    rw [if_neg (by omega), if_neg (by omega)]
theorem e_B127 {M : Mm} {n : Nat} (hn24 : n < 24) (h0 : M 1 0 = nI n) (v2 v3 w0 : Int32) : fX10_casts1_B127 (nI n) v2 v3 w0 1 (nI n) M = some (nI n, wr (wr (wr (wr (wr (wr (wr M 1 (12 + 7 * n + 1) w0) 1 (12 + 7 * n + 2) v2) 1 (12 + 7 * n + 3) v3) 1 (12 + 7 * n + 4) 0) 1 (12 + 7 * n + 5) (-1)) 1 (12 + 7 * n + 6) 0) 1 0 (nI (n + 1))) := by
  unfold fX10_casts1_B127
  simp only [e_lays1 hn24, e_lays2 hn24, e_lays3 hn24, e_lays4 hn24, e_lays5 hn24, e_lays6 hn24, bd_s, lt_e, ix_lit0]
  rw [wr_at, if_neg (by omega), wr_at, if_neg (by omega), wr_at, if_neg (by omega), wr_at, if_neg (by omega), wr_at, if_neg (by omega), wr_at, if_neg (by omega), h0, nI_1]
theorem e_castM {D : Mm} {n km g i w sl : Nat} (hkm : km < 70) (hi : i ≤ 999) (h1 : D 1 2 = nI w) (hw : w ≤ 99999) (hiw : i ≤ w) (h2 : D 1 3 = nI sl) (hsl : sl ≤ 9999) (h6 : D 1 0 = nI n) (hn24 : n < 24) : fX10_casts1 (nI km) (nI g) (nI i) D = some (nI n, dwr D n (ckd km (grn sl i w)) (ckm km (grn sl i w)) g i (w - i) (sl - grn sl i w)) := by
  have hm := mul_lt hsl hi
  have hgl := grn_le (sl := sl) hiw
  have hkd : nI km / 10 = nI (km / 10) := pk_div (d := 10) (by omega) (by omega) (by omega)
  have hkr : nI km - nI km / 10 * 10 = nI (km % 10) := pk_rem (d := 10) (by omega) (by omega) (by omega)
  have n10 : ¬ (1 : Int32) = 0 := by decide
  have main : fX10_casts1_B40 (nI n) (nI km) (nI g) (nI i) (nI (grn sl i w)) D = some (nI n, dwr D n (ckd km (grn sl i w)) (ckm km (grn sl i w)) g i (w - i) (sl - grn sl i w)) := by
    generalize hgr : grn sl i w = gr at *
    have e60 : ∀ w0 : Int32, fX10_casts1_B60 (nI gr) (nI n) (nI km) (nI g) (nI i) w0 D = if w0 = 0 then fX10_casts1_B100 w0 (nI gr) (nI n) (nI km) (nI g) (nI i) (nI (km / 10)) 0 (nI n) (wr (wr D 1 2 (nI (w - i))) 1 3 (nI (sl - gr))) else fX10_casts1_B100 w0 (nI gr) (nI n) (nI km) (nI g) (nI i) 3 0 (nI n) (wr (wr D 1 2 (nI (w - i))) 1 3 (nI (sl - gr))) := fun w0 => by
      unfold fX10_casts1_B60
      have e3 : wr D 1 2 (nI (w - i)) 1 3 - nI gr = nI (sl - gr) := by rw [wr_at, if_neg (by omega), h2, pk_sub hgl]
      rw [lt_e, lt_e, ix_lit2, ix_lit3, h1, pk_sub hiw, e3, hkd]
    have e0 : fX10_casts1_B60 (nI gr) (nI n) (nI km) (nI g) (nI i) 0 D = some (nI n, dwr D n (km / 10) (km % 10) g i (w - i) (sl - gr)) := by
      rw [e60, if_pos rfl]
      unfold fX10_casts1_B100
      rw [e_lays0 hn24, bd_s, if_pos rfl, hkr, e_B127 hn24 (by rw [wr_at, if_neg (by omega), wr_at, if_neg (by omega), wr_at, if_neg (by omega)]; exact h6)]
      rfl
    unfold fX10_casts1_B40 fX10_casts1_B59
    rw [hkd]
    by_cases hk1 : km / 10 = 1
    · rw [if_pos (by rw [hk1]; rfl)]
      by_cases hg0 : 0 < gr
      · rw [if_neg (show ¬ nI gr ≤ 0 from nI_nle hg0 (by omega)), e60, if_neg n10]
        unfold fX10_casts1_B100
        have hmin : hd (nI gr) 0 9 = nI (min gr 9) := hd_nI (hi := 9) (by omega) (by omega)
        rw [e_lays0 hn24, bd_s, if_neg n10, e_held, bd_s, hmin, e_B127 hn24 (by rw [wr_at, if_neg (by omega), wr_at, if_neg (by omega), wr_at, if_neg (by omega)]; exact h6)]
        unfold ckd ckm
        rw [if_pos ⟨hk1, hg0⟩, if_pos ⟨hk1, hg0⟩]
        rfl
      · have : gr = 0 := by omega
        rw [if_pos (show nI gr ≤ 0 by rw [this]; decide), e0]
        unfold ckd ckm
        rw [if_neg (by omega), if_neg (by omega)]
    · rw [if_neg (by rw [show (1 : Int32) = nI 1 from rfl, eq_nI (by omega) (by omega)]; exact hk1), e0]
      unfold ckd ckm
      rw [if_neg (by omega), if_neg (by omega)]
  unfold fX10_casts1
  rw [lt_e, ix_lit0, ix_lit2, ix_lit3, h6, h1, h2]
  by_cases hz : w = 0
  · rw [if_pos (by rw [hz]; rfl)]
    have e : (0 : Int32) = nI (grn sl i w) := by unfold grn; rw [if_pos hz]; rfl
    rw [e]; exact main
  · rw [if_neg (by rw [show (0 : Int32) = nI 0 from rfl, eq_nI (by omega) (by omega)]; exact hz), nI_l (by omega), nI_l (by omega), nI_l (by omega)]
    have hnz : ¬ lN w = 0 := fun e => by
      have := lN_toInt (n := w) (by omega)
      rw [e] at this
      have e0 : (0 : Int64).toInt = 0 := by decide
      omega
    rw [show (!(decide (lN w = 0))) = true by simp [hnz], gd_t, lN_mul, lN_div (by omega) (by omega) (by omega), lN_i]
    have e : nI (sl * i / w) = nI (grn sl i w) := by unfold grn; rw [if_neg hz]
    rw [e]; exact main
theorem kdm_lt {km gr : Nat} (h : km < 70) : ckd km gr < 7 ∧ ckm km gr < 10 := by
  unfold ckd ckm
  by_cases hc : km / 10 = 1 ∧ 0 < gr
  · rw [if_pos hc, if_pos hc]; omega
  · rw [if_neg hc, if_neg hc]; omega
/-- both would cast, or both say the same ERROR -/
theorem two_cast {C D : Mm} (h : Rel C D) (a b c : Int32) : (fX7_castError a b c C = some (0, C) ∧ fX10_whyNotCast a b c D = some (0, D) ∧ ∃ r C' D', fX7_castLetter a b c C = some (r, C') ∧ fX10_casts1 a b c D = some (r, D') ∧ Rel C' D') ∨ ∃ k : Nat, 1 ≤ k ∧ k ≤ 6 ∧ fX7_castError a b c C = some (-1000000000 - nI k, C) ∧ fX10_whyNotCast a b c D = some (nI k, D) := by
  unfold fX7_castError fX10_whyNotCast fX7_castError_B31 fX7_castError_B60 fX10_whyNotCast_B31 fX10_whyNotCast_B63
  obtain ⟨w, hw, ew⟩ := h.si.water
  obtain ⟨sl, hsl, esl⟩ := h.si.salt
  obtain ⟨q1, q2, q3, q4, q5, q6⟩ := id h.rs.1
  have e0 := h.si.l0
  have hL := h.si.l24
  simp only [lt_e, bd_s, gd_t, e_isWithin, e_in, e_hold, e_held, e_isPageC, e_isPage, eq_self, if_true, if_false, Bool.false_eq_true, bi_t, bi_f, ix_lit0, ix_lit1, ix_lit2, ix_lit3, ix_lit4, ix_lit5, ix_lit6, ix_lit7]
  by_cases h1 : wi a 0 69 = true
  · by_cases h2 : wi b 1 26 = true
    · by_cases h3 : wi c 0 999 = true
      · obtain ⟨km, hkm, rfl⟩ := wi_in (n := 69) (by omega) h1
        obtain ⟨g, hg1, hg, rfl⟩ := wiR (lo := 1) (hi := 26) (by omega) h2 (by omega)
        obtain ⟨i, hi, rfl⟩ := wi_in (n := 999) (by omega) h3
        simp only [h1, h2, h3, if_true, q1, q5, ew, e0]
        by_cases hiw : i ≤ w
        · rw [if_pos (nI_le hiw (by omega)), if_pos (nI_le hiw (by omega))]
          by_cases hn : nL (D 1) < 24
          · left
            rw [if_pos (show nI (nL (D 1)) < (24 : Int32) from nI_lt (b := 24) hn (by omega)), if_neg (show ¬ nI (nL (D 1)) = (24 : Int32) by rw [show (24 : Int32) = nI 24 from rfl, eq_nI (by omega) (by omega)]; omega)]
            refine ⟨rfl, rfl, _, _, _, e_castC (by omega) hi (q1.trans ew) hw hiw (q2.trans esl) hsl (q5.trans e0) hn, e_castM (by omega) hi ew hw hiw esl hsl e0 hn, ?_⟩
            have hlt := kdm_lt (km := km) (gr := grn sl i w) (by omega)
            exact cdwr h rfl hn hlt.1 hlt.2 hg1 hg hi (by omega) (by omega)
          · right
            have : nL (D 1) = 24 := by omega
            rw [this, if_neg (show ¬ nI 24 < (24 : Int32) by decide), if_pos (show nI 24 = (24 : Int32) from rfl)]
            exact ⟨4, by omega, by omega, rfl, rfl⟩
        · right
          rw [if_neg (nI_ge (by omega) (by omega)), if_neg (nI_ge (by omega) (by omega))]
          exact ⟨3, by omega, by omega, rfl, rfl⟩
      · right
        simp only [h1, h2, h3, if_true, if_false, Bool.false_eq_true]
        exact ⟨1, by omega, by omega, rfl, rfl⟩
    · right
      simp only [h1, h2, if_true, if_false, Bool.false_eq_true]
      exact ⟨1, by omega, by omega, rfl, rfl⟩
  · right
    simp only [h1, if_false, Bool.false_eq_true]
    exact ⟨1, by omega, by omega, rfl, rfl⟩
theorem e_errN {k : Nat} (h1 : 1 ≤ k) (h6 : k ≤ 6) (M : Mm) : fX10_error (nI k) M = some (-1000000000 - nI k, wr M 4 k (M 4 k + 1)) := by
  unfold fX10_error
  rw [inb_nI (by omega) (by omega), ix_nI (by omega)]
  rfl
theorem lowk : ∀ k : Fin 7, (-1000000000 : Int32) - (-1000000000 - nI k.val) = nI k.val ∧ (1 ≤ k.val → ¬ (-1000000000 : Int32) - nI k.val = 0) ∧ (1 ≤ k.val → ¬ nI k.val ≤ 0) := by decide
theorem op_cast {C D : Mm} (h : Rel C D) (a b c : Int32) : Op (fX9_cast a b c C) (fX10_cast a b c D) := by
  unfold fX9_cast fX10_cast fX9_cast_B36 fX10_cast_B30
  rcases two_cast h a b c with ⟨e1, e2, r, C', D', e3, e4, hr⟩ | ⟨k, k1, k6, e1, e2⟩
  · rw [e1, e2, bd_s, bd_s, if_pos rfl, if_pos (by decide), e3, e4]
    exact ⟨_, _, _, rfl, rfl, hr⟩
  · have hk := lowk ⟨k, by omega⟩
    dsimp only at hk
    rw [e1, e2, bd_s, bd_s, if_neg (hk.2.1 k1), if_neg (hk.2.2 k1), e_refuse (k := k) _ k1 k6 hk.1, e_errN k1 k6]
    exact op_err h k1 k6
