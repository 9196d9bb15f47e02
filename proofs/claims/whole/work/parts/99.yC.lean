/-- what was read and what was made agree -/
theorem g_IB {B : Nat → Nat} {sz zA bA : Nat} {td : Int32} {fb gb2 : Nat → Int32} (hc : UB B (zA + 8) 2 ≤ 16) (htd : td = nI (B (zA + 10))) (h : BtN B sz zA bA td fb) (hg : ∀ k, k < UB B (zA + 8) 2 → gb2 k = if bA = 0 then nI (B (zA + 10)) else nI (B (bA + k))) : IB (UB B (zA + 8) 2) fb gb2 := by
  refine ⟨hc, fun k hk => ?_⟩
  rw [hg k hk]
  by_cases z : bA = 0
  · rw [if_pos z, h.1 z k (by omega), htd]
  · rw [if_neg z, (h.2 z).2 k hk]
theorem g_IL {B : Nat → Nat} {sz hA n : Nat} {li : Int32} {lf lg2 : Nat → Int32} (h0 : hA = 0 → li = nI 0) (h : hA ≠ 0 → ChN B sz hA li lf) (hn : n = if hA = 0 then 0 else UB B hA 2) (hl : ∀ i, i < n → lg2 (3 * i) = nI (UB B (hA + 2 + 6 * i) 2) ∧ lg2 (3 * i + 1) = nI (UB B (hA + 2 + 6 * i + 2) 2) ∧ lg2 (3 * i + 2) = nI (UB B (hA + 2 + 6 * i + 4) 2)) : li = nI n ∧ IL n lf lg2 := by
  by_cases z : hA = 0
  · rw [if_pos z] at hn
    subst hn
    exact ⟨h0 z, by omega, fun k hk => by omega⟩
  · rw [if_neg z] at hn
    subst hn
    obtain ⟨c1, c2, c3, c4⟩ := h z
    refine ⟨c3, c2, fun k hk => ?_⟩
    have a := c4 (k / 3) (by omega)
    have b := hl (k / 3) (by omega)
    rw [Nat.zero_add] at a
    have m : k % 3 = 0 ∨ k % 3 = 1 ∨ k % 3 = 2 := by omega
    rcases m with m | m | m
    · have e : 3 * (k / 3) = k := by omega
      rw [e] at a b
      rw [a.1, b.1]
    · have e : 3 * (k / 3) + 1 = k := by omega
      rw [e] at a b
      rw [a.2.1, b.2.1]
    · have e : 3 * (k / 3) + 2 = k := by omega
      rw [e] at a b
      rw [a.2.2, b.2.2]
theorem g_ln {B : Nat → Nat} {mA d : Nat} {mf mg2 : Nat → Int32} (a0 : LnM B mA d 0 mf) (b0 : LnM B mA d 0 mg2) : ∀ k, k < 3 * d → mf k = mg2 k := fun k hk => by
  have a := a0 (k / 3) (by omega)
  have b := b0 (k / 3) (by omega)
  rw [Nat.zero_add] at a b
  have m : k % 3 = 0 ∨ k % 3 = 1 ∨ k % 3 = 2 := by omega
  rcases m with m | m | m
  · have e : 3 * (k / 3) = k := by omega
    rw [e] at a b
    rw [a.1, b.1]
  · have e : 3 * (k / 3) + 1 = k := by omega
    rw [e] at a b
    rw [a.2.1, b.2.1]
  · have e : 3 * (k / 3) + 2 = k := by omega
    rw [e] at a b
    rw [a.2.2, b.2.2]
theorem g_IR {B : Nat → Nat} (hB : ∀ k, B k < 256) {sz kA dA : Nat} {fc fd rs2 : Nat → Int32} (hk : RatR B sz kA fc) (hd : RatR B sz dA fd) (h : RsN B kA dA rs2) : IR fc fd rs2 := by
  have p : ∀ x : Nat, (0 : Int32) ≤ nI (UB B x 2) := fun x => by rw [q_0l (by have := UB_2lt hB x; omega)]; trivial
  refine ⟨fun k hk6 => ⟨?_, ?_⟩, ?_, ?_⟩
  · by_cases z : kA = 0
    · rw [hk.2.1 z k hk6, h.1 z k hk6]
    · obtain ⟨r1, r2, r3, r4⟩ := hk.2.2 z
      by_cases y : k < 4
      · rw [(r2 k y).1, (h.2.1 z).1 k y]
      · have m : k = 4 ∨ k = 5 := by omega
        rcases m with rfl | rfl
        · rw [r3]; exact ((h.2.1 z).2 0 (by omega)).symm
        · rw [r4]; exact ((h.2.1 z).2 1 (by omega)).symm
  · by_cases z : dA = 0
    · rw [hd.2.1 z k hk6, h.2.2.1 z k hk6]
    · obtain ⟨r1, r2, r3, r4⟩ := hd.2.2 z
      by_cases y : k < 4
      · rw [(r2 k y).1, (h.2.2.2 z).1 k y]
      · have m : k = 4 ∨ k = 5 := by omega
        rcases m with rfl | rfl
        · rw [r3]; exact ((h.2.2.2 z).2 0 (by omega)).symm
        · rw [r4]; exact ((h.2.2.2 z).2 1 (by omega)).symm
  · by_cases z : kA = 0
    · rw [h.1 z 0 (by omega)]; decide
    · rw [(h.2.1 z).1 0 (by omega)]; exact p _
  · by_cases z : dA = 0
    · have t := h.2.2.1 z 0 (by omega)
      rw [show 6 + 0 = 6 from rfl] at t
      rw [t]; decide
    · have t := (h.2.2.2 z).1 0 (by omega)
      rw [show 6 + 0 = 6 from rfl] at t
      rw [t]; exact p _
theorem g_IQ {B : Nat → Nat} (hB : ∀ k, B k < 256) {pA pe nn : Nat} {en cl : Int32} {pb cb2 : Nat → Int32} {nf ng2 : Nat → Int64} (hn : 8 ≤ nn ∧ nn ≤ 4096) (h : PalN B pA pe en cl pb nn nf) (hcb : ∀ t, t < B (pA + 2) → cb2 t = nI (B (pA + 3 + t))) (hng : ∀ x, x < UB B pA 2 * B (pA + 2) → ng2 x = numV B (pA + 3) (pA + 3 + B (pA + 2) + x / B (pA + 2) * sbw B (B (pA + 2)) (pA + 3)) (x % B (pA + 2))) : IQ (UB B pA 2) (B (pA + 2)) pb nn nf cb2 ng2 := by
  obtain ⟨p1, p2, p3, p4, p5, p6, p7, p8, p9, p10⟩ := h
  refine ⟨p2, p4, ⟨fun q => by omega, fun q => by omega⟩, p8, hn.1, hn.2, fun k hk => ⟨?_, B (pA + 3 + k), (p9 k hk).1, hB _, (p9 k hk).2⟩, fun k hk => ?_⟩
  · rw [(p9 k hk).1, hcb k hk]
  · have hm := Nat.mod_lt k (show B (pA + 2) > 0 by omega)
    have hd : k / B (pA + 2) < UB B pA 2 := Nat.div_lt_of_lt_mul (by rw [Nat.mul_comm]; exact hk)
    have t := p10 (k / B (pA + 2)) (k % B (pA + 2)) hd hm
    have e : k / B (pA + 2) * B (pA + 2) + k % B (pA + 2) = k := by rw [Nat.mul_comm]; exact Nat.div_add_mod k _
    rw [e] at t
    rw [t, hng k hk]
theorem g_IM {B : Nat → Nat} (hB : ∀ k, B k < 256) {co pA mA d e : Nat} {mf mg2 : Nat → Int32} (he : e ≠ 0) (hd : d ≤ 16) (a0 : LnM B mA d 0 mf) (b0 : LnM B mA d 0 mg2) (ho : ∀ k, k < d → ¬ okl B co (B (pA + 2)) (mA + 4 * k) = 0) : IM e (B (pA + 2)) d mf mg2 := by
  refine ⟨hd, fun _ => he, g_ln a0 b0, fun k hk hn => ?_⟩
  have a := a0 k hk
  rw [Nat.zero_add] at a
  have t2 := hB (mA + 4 * k + 2)
  have o := ho k hk
  unfold okl at o
  rw [a.2.1] at hn
  have b2 : ¬ B (mA + 4 * k + 2) = 0 := fun q => hn (by rw [q]; rfl)
  refine ⟨B (mA + 4 * k + 3), a.2.2, ?_⟩
  by_cases x : co ≤ UB B (mA + 4 * k) 2
  · rw [if_pos x] at o; exact absurd rfl o
  · rw [if_neg x, if_neg b2] at o
    by_cases y : B (mA + 4 * k + 2) = 1
    · rw [if_pos y] at o
      by_cases w : B (pA + 2) ≤ B (mA + 4 * k + 3)
      · rw [if_pos w] at o; exact absurd rfl o
      · omega
    · rw [if_neg y] at o; exact absurd rfl o
