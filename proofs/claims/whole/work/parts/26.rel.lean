/-! ===== the class's cells against the reference's ===== -/
def RelN (c r : bM) : Prop := (r 133 0 = c 1 7) ∧ (r 133 1 = c 1 8) ∧ (r 133 2 = c 1 9) ∧ (r 133 3 = c 79 9) ∧ (r 133 4 = c 79 8) ∧ (r 133 5 = c 1 10) ∧ (r 133 6 = c 17 9) ∧ (r 133 7 = c 37 12) ∧ (r 133 8 = c 37 13) ∧ (r 133 9 = c 37 14) ∧ (r 133 10 = c 37 15) ∧ (r 133 11 = c 63 7) ∧ (r 133 12 = c 79 6) ∧ (r 133 13 = c 79 7)
theorem RelN_water {c r : bM} (h : RelN c r) : r 133 0 = c 1 7 := h.1
theorem RelN_gate {c r : bM} (h : RelN c r) : r 133 1 = c 1 8 := h.2.1
theorem RelN_gon {c r : bM} (h : RelN c r) : r 133 2 = c 1 9 := h.2.2.1
theorem RelN_today {c r : bM} (h : RelN c r) : r 133 3 = c 79 9 := h.2.2.2.1
theorem RelN_fund {c r : bM} (h : RelN c r) : r 133 4 = c 79 8 := h.2.2.2.2.1
theorem RelN_houses {c r : bM} (h : RelN c r) : r 133 5 = c 1 10 := h.2.2.2.2.2.1
theorem RelN_rows {c r : bM} (h : RelN c r) : r 133 6 = c 17 9 := h.2.2.2.2.2.2.1
theorem RelN_persons {c r : bM} (h : RelN c r) : r 133 7 = c 37 12 := h.2.2.2.2.2.2.2.1
theorem RelN_names {c r : bM} (h : RelN c r) : r 133 8 = c 37 13 := h.2.2.2.2.2.2.2.2.1
theorem RelN_things {c r : bM} (h : RelN c r) : r 133 9 = c 37 14 := h.2.2.2.2.2.2.2.2.2.1
theorem RelN_finds {c r : bM} (h : RelN c r) : r 133 10 = c 37 15 := h.2.2.2.2.2.2.2.2.2.2.1
theorem RelN_versions {c r : bM} (h : RelN c r) : r 133 11 = c 63 7 := h.2.2.2.2.2.2.2.2.2.2.2.1
theorem RelN_count {c r : bM} (h : RelN c r) : r 133 12 = c 79 6 := h.2.2.2.2.2.2.2.2.2.2.2.2.1
theorem RelN_proofs {c r : bM} (h : RelN c r) : r 133 13 = c 79 7 := h.2.2.2.2.2.2.2.2.2.2.2.2.2
theorem RelN_congr {c r c1 r1 : bM} (h : RelN c r) (e1 : c1 1 = c 1) (e2 : c1 17 = c 17) (e3 : c1 37 = c 37) (e4 : c1 63 = c 63) (e5 : c1 79 = c 79) (e6 : r1 133 = r 133) : RelN c1 r1 := by
  unfold RelN at h ⊢
  simp only [e1, e2, e3, e4, e5, e6]
  exact h
def RelV (c r : bM) : Prop := (∀ k, k < 12 → r 134 k = c 2 k) ∧ (∀ k, k < 12 → r 135 k = c 3 k) ∧ (∀ k, k < 3 → r 136 k = c 5 k) ∧ (∀ k, k < 24 → r 137 k = c 4 k) ∧ (∀ k, k < 10 → r 138 k = c 6 k) ∧ (∀ k, k < 10 → r 139 k = c 7 k) ∧ (∀ k, k < 10 → r 140 k = c 8 k) ∧ (∀ k, k < 12 → 1 ≤ c 2 k ∧ c 2 k ≤ 50) ∧ (∀ k, k < 12 → 2 ≤ c 3 k ∧ c 3 k ≤ 9) ∧ (∀ k, k < 3 → 1 ≤ c 5 k ∧ c 5 k ≤ 8) ∧ (∀ k, k < 24 → 0 ≤ c 4 k ∧ c 4 k ≤ 999) ∧ (∀ k, k < 10 → 0 ≤ c 6 k ∧ c 6 k ≤ 11) ∧ (∀ k, k < 10 → 0 ≤ c 7 k ∧ c 7 k ≤ 99) ∧ (∀ k : Nat, k < 10 → (k : Int) < c 1 10 → 1 ≤ c 7 k) ∧ (∀ k, k < 10 → 0 ≤ c 8 k ∧ c 8 k ≤ 999) ∧ (0 ≤ c 1 7 ∧ c 1 7 ≤ 9999) ∧ (0 ≤ c 1 8 ∧ c 1 8 ≤ 99) ∧ (0 ≤ c 1 9 ∧ c 1 9 ≤ 179) ∧ (0 ≤ c 1 10 ∧ c 1 10 ≤ 10)
theorem RelV_width {c r : bM} (h : RelV c r) : ∀ k, k < 12 → r 134 k = c 2 k := h.1
theorem RelV_rough {c r : bM} (h : RelV c r) : ∀ k, k < 12 → r 135 k = c 3 k := h.2.1
theorem RelV_tabl {c r : bM} (h : RelV c r) : ∀ k, k < 3 → r 136 k = c 5 k := h.2.2.1
theorem RelV_table {c r : bM} (h : RelV c r) : ∀ k, k < 24 → r 137 k = c 4 k := h.2.2.2.1
theorem RelV_hAt {c r : bM} (h : RelV c r) : ∀ k, k < 10 → r 138 k = c 6 k := h.2.2.2.2.1
theorem RelV_str {c r : bM} (h : RelV c r) : ∀ k, k < 10 → r 139 k = c 7 k := h.2.2.2.2.2.1
theorem RelV_room {c r : bM} (h : RelV c r) : ∀ k, k < 10 → r 140 k = c 8 k := h.2.2.2.2.2.2.1
theorem RelV_rwidth {c r : bM} (h : RelV c r) : ∀ k, k < 12 → 1 ≤ c 2 k ∧ c 2 k ≤ 50 := h.2.2.2.2.2.2.2.1
theorem RelV_rrough {c r : bM} (h : RelV c r) : ∀ k, k < 12 → 2 ≤ c 3 k ∧ c 3 k ≤ 9 := h.2.2.2.2.2.2.2.2.1
theorem RelV_rtabl {c r : bM} (h : RelV c r) : ∀ k, k < 3 → 1 ≤ c 5 k ∧ c 5 k ≤ 8 := h.2.2.2.2.2.2.2.2.2.1
theorem RelV_rtable {c r : bM} (h : RelV c r) : ∀ k, k < 24 → 0 ≤ c 4 k ∧ c 4 k ≤ 999 := h.2.2.2.2.2.2.2.2.2.2.1
theorem RelV_rhAt {c r : bM} (h : RelV c r) : ∀ k, k < 10 → 0 ≤ c 6 k ∧ c 6 k ≤ 11 := h.2.2.2.2.2.2.2.2.2.2.2.1
theorem RelV_rstr {c r : bM} (h : RelV c r) : ∀ k, k < 10 → 0 ≤ c 7 k ∧ c 7 k ≤ 99 := h.2.2.2.2.2.2.2.2.2.2.2.2.1
theorem RelV_rstr1 {c r : bM} (h : RelV c r) : ∀ k : Nat, k < 10 → (k : Int) < c 1 10 → 1 ≤ c 7 k := h.2.2.2.2.2.2.2.2.2.2.2.2.2.1
theorem RelV_rroom {c r : bM} (h : RelV c r) : ∀ k, k < 10 → 0 ≤ c 8 k ∧ c 8 k ≤ 999 := h.2.2.2.2.2.2.2.2.2.2.2.2.2.2.1
theorem RelV_rwater {c r : bM} (h : RelV c r) : 0 ≤ c 1 7 ∧ c 1 7 ≤ 9999 := h.2.2.2.2.2.2.2.2.2.2.2.2.2.2.2.1
theorem RelV_rgate {c r : bM} (h : RelV c r) : 0 ≤ c 1 8 ∧ c 1 8 ≤ 99 := h.2.2.2.2.2.2.2.2.2.2.2.2.2.2.2.2.1
theorem RelV_rgon {c r : bM} (h : RelV c r) : 0 ≤ c 1 9 ∧ c 1 9 ≤ 179 := h.2.2.2.2.2.2.2.2.2.2.2.2.2.2.2.2.2.1
theorem RelV_rhouses {c r : bM} (h : RelV c r) : 0 ≤ c 1 10 ∧ c 1 10 ≤ 10 := h.2.2.2.2.2.2.2.2.2.2.2.2.2.2.2.2.2.2
theorem RelV_congr {c r c1 r1 : bM} (h : RelV c r) (hc : ∀ i, 1 ≤ i → i ≤ 8 → c1 i = c i) (hr : ∀ i, 134 ≤ i → i ≤ 140 → r1 i = r i) : RelV c1 r1 := by
  have e1 := hc 1 (by decide) (by decide)
  have e2 := hc 2 (by decide) (by decide)
  have e3 := hc 3 (by decide) (by decide)
  have e4 := hc 4 (by decide) (by decide)
  have e5 := hc 5 (by decide) (by decide)
  have e6 := hc 6 (by decide) (by decide)
  have e7 := hc 7 (by decide) (by decide)
  have e8 := hc 8 (by decide) (by decide)
  have e134 := hr 134 (by decide) (by decide)
  have e135 := hr 135 (by decide) (by decide)
  have e136 := hr 136 (by decide) (by decide)
  have e137 := hr 137 (by decide) (by decide)
  have e138 := hr 138 (by decide) (by decide)
  have e139 := hr 139 (by decide) (by decide)
  have e140 := hr 140 (by decide) (by decide)
  unfold RelV at h ⊢
  simp only [e1, e2, e3, e4, e5, e6, e7, e8, e134, e135, e136, e137, e138, e139, e140]
  exact h
def RelS (c r : bM) : Prop := (∀ k, k < 16 → r 141 k = c 18 k) ∧ (∀ k, k < 16 → r 142 k = c 19 k) ∧ (∀ k, k < 16 → r 143 k = c 20 k) ∧ (∀ k, k < 16 → r 147 k = c 24 k) ∧ (∀ k, k < 4 → r 148 k = c 25 k) ∧ (∀ k, k < 4 → r 149 k = c 26 k) ∧ (∀ k, k < 16 → 0 ≤ c 18 k ∧ c 18 k ≤ 3) ∧ (∀ k : Nat, k < 16 → (k : Int) < c 17 9 → 1 ≤ c 18 k) ∧ (∀ k, k < 16 → 0 ≤ c 19 k ∧ c 19 k ≤ 11) ∧ (∀ k, k < 16 → c 18 k = 3 → c 19 k ≤ 3) ∧ (∀ k, k < 16 → 0 ≤ c 20 k ∧ c 20 k ≤ 999) ∧ (∀ k, k < 16 → c 18 k = 1 → 1 ≤ c 23 k ∧ c 23 k ≤ 99 ∧ r 144 k = c 23 k ∧ -9 ≤ r 145 k ∧ r 145 k ≤ 9 ∧ 0 ≤ r 146 k ∧ r 146 k ≤ 9 ∧ c 21 k = c 20 k - r 145 k - r 146 k ∧ c 22 k = c 20 k - r 145 k + r 146 k) ∧ (∀ k, k < 16 → c 18 k = 2 → c 21 k = c 20 k ∧ r 144 k = c 22 k) ∧ (∀ k, k < 16 → c 18 k = 3 → r 144 k = c 21 k ∧ r 145 k = c 22 k) ∧ (0 ≤ c 17 9 ∧ c 17 9 ≤ 16) ∧ (∀ k, k < 16 → c 24 k = 0 ∨ c 24 k = 1) ∧ (∀ k, k < 4 → c 26 k = 0 ∨ c 26 k = 1) ∧ (c 17 10 = (bst (fun k => decide (c 18 k = 3)) (nRw c) : Int))
theorem RelS_kind {c r : bM} (h : RelS c r) : ∀ k, k < 16 → r 141 k = c 18 k := h.1
theorem RelS_place {c r : bM} (h : RelS c r) : ∀ k, k < 16 → r 142 k = c 19 k := h.2.1
theorem RelS_main {c r : bM} (h : RelS c r) : ∀ k, k < 16 → r 143 k = c 20 k := h.2.2.1
theorem RelS_torn {c r : bM} (h : RelS c r) : ∀ k, k < 16 → r 147 k = c 24 k := h.2.2.2.1
theorem RelS_side {c r : bM} (h : RelS c r) : ∀ k, k < 4 → r 148 k = c 25 k := h.2.2.2.2.1
theorem RelS_doub {c r : bM} (h : RelS c r) : ∀ k, k < 4 → r 149 k = c 26 k := h.2.2.2.2.2.1
theorem RelS_rkind {c r : bM} (h : RelS c r) : ∀ k, k < 16 → 0 ≤ c 18 k ∧ c 18 k ≤ 3 := h.2.2.2.2.2.2.1
theorem RelS_rkind1 {c r : bM} (h : RelS c r) : ∀ k : Nat, k < 16 → (k : Int) < c 17 9 → 1 ≤ c 18 k := h.2.2.2.2.2.2.2.1
theorem RelS_rplace {c r : bM} (h : RelS c r) : ∀ k, k < 16 → 0 ≤ c 19 k ∧ c 19 k ≤ 11 := h.2.2.2.2.2.2.2.2.1
theorem RelS_rplace3 {c r : bM} (h : RelS c r) : ∀ k, k < 16 → c 18 k = 3 → c 19 k ≤ 3 := h.2.2.2.2.2.2.2.2.2.1
theorem RelS_rmain {c r : bM} (h : RelS c r) : ∀ k, k < 16 → 0 ≤ c 20 k ∧ c 20 k ≤ 999 := h.2.2.2.2.2.2.2.2.2.2.1
theorem RelS_rclk {c r : bM} (h : RelS c r) : ∀ k, k < 16 → c 18 k = 1 → 1 ≤ c 23 k ∧ c 23 k ≤ 99 ∧ r 144 k = c 23 k ∧ -9 ≤ r 145 k ∧ r 145 k ≤ 9 ∧ 0 ≤ r 146 k ∧ r 146 k ≤ 9 ∧ c 21 k = c 20 k - r 145 k - r 146 k ∧ c 22 k = c 20 k - r 145 k + r 146 k := h.2.2.2.2.2.2.2.2.2.2.2.1
theorem RelS_rmrk {c r : bM} (h : RelS c r) : ∀ k, k < 16 → c 18 k = 2 → c 21 k = c 20 k ∧ r 144 k = c 22 k := h.2.2.2.2.2.2.2.2.2.2.2.2.1
theorem RelS_rwrd {c r : bM} (h : RelS c r) : ∀ k, k < 16 → c 18 k = 3 → r 144 k = c 21 k ∧ r 145 k = c 22 k := h.2.2.2.2.2.2.2.2.2.2.2.2.2.1
theorem RelS_rrows {c r : bM} (h : RelS c r) : 0 ≤ c 17 9 ∧ c 17 9 ≤ 16 := h.2.2.2.2.2.2.2.2.2.2.2.2.2.2.1
theorem RelS_rtorn {c r : bM} (h : RelS c r) : ∀ k, k < 16 → c 24 k = 0 ∨ c 24 k = 1 := h.2.2.2.2.2.2.2.2.2.2.2.2.2.2.2.1
theorem RelS_rdoub {c r : bM} (h : RelS c r) : ∀ k, k < 4 → c 26 k = 0 ∨ c 26 k = 1 := h.2.2.2.2.2.2.2.2.2.2.2.2.2.2.2.2.1
theorem RelS_words {c r : bM} (h : RelS c r) : c 17 10 = (bst (fun k => decide (c 18 k = 3)) (nRw c) : Int) := h.2.2.2.2.2.2.2.2.2.2.2.2.2.2.2.2.2
theorem RelS_congr {c r c1 r1 : bM} (h : RelS c r) (hc : ∀ i, 17 ≤ i → i ≤ 26 → c1 i = c i) (hr : ∀ i, 141 ≤ i → i ≤ 149 → r1 i = r i) : RelS c1 r1 := by
  have e17 := hc 17 (by decide) (by decide)
  have e18 := hc 18 (by decide) (by decide)
  have e19 := hc 19 (by decide) (by decide)
  have e20 := hc 20 (by decide) (by decide)
  have e21 := hc 21 (by decide) (by decide)
  have e22 := hc 22 (by decide) (by decide)
  have e23 := hc 23 (by decide) (by decide)
  have e24 := hc 24 (by decide) (by decide)
  have e25 := hc 25 (by decide) (by decide)
  have e26 := hc 26 (by decide) (by decide)
  have f1 := hr 141 (by decide) (by decide)
  have f2 := hr 142 (by decide) (by decide)
  have f3 := hr 143 (by decide) (by decide)
  have f4 := hr 144 (by decide) (by decide)
  have f5 := hr 145 (by decide) (by decide)
  have f6 := hr 146 (by decide) (by decide)
  have f7 := hr 147 (by decide) (by decide)
  have f8 := hr 148 (by decide) (by decide)
  have f9 := hr 149 (by decide) (by decide)
  unfold RelS nRw at h ⊢
  simp only [e17, e18, e19, e20, e21, e22, e23, e24, e25, e26, f1, f2, f3, f4, f5, f6, f7, f8, f9]
  exact h
def RelF (c r : bM) : Prop := (∀ k, k < 16 → r 150 k = c 38 k) ∧ (∀ k, k < 16 → r 151 k = c 39 k) ∧ (∀ k, k < 16 → r 152 k = c 40 k) ∧ (∀ k, k < 16 → r 153 k = c 41 k) ∧ (∀ k, k < 16 → r 154 k = c 42 k) ∧ (∀ k, k < 16 → r 155 k = c 43 k) ∧ (∀ k, k < 12 → r 156 k = c 44 k) ∧ (∀ k, k < 12 → r 157 k = c 45 k) ∧ (∀ k, k < 12 → r 158 k = c 46 k) ∧ (∀ k, k < 12 → r 159 k = c 47 k) ∧ (∀ k, k < 12 → r 160 k = c 48 k) ∧ (∀ k, k < 12 → r 161 k = c 49 k) ∧ (∀ k, k < 16 → 0 ≤ c 38 k ∧ c 38 k ≤ 9) ∧ (∀ k, k < 16 → 0 ≤ c 39 k ∧ c 39 k ≤ 9) ∧ (∀ k, k < 16 → 0 ≤ c 40 k ∧ c 40 k ≤ 5) ∧ (∀ k, k < 16 → c 41 k = 0 ∨ c 41 k = 1) ∧ (∀ k, k < 16 → 0 ≤ c 42 k ∧ c 42 k ≤ 9) ∧ (∀ k, k < 16 → -1 ≤ c 43 k ∧ c 43 k ≤ 9) ∧ (∀ k, k < 12 → 0 ≤ c 44 k ∧ c 44 k ≤ 9) ∧ (∀ k, k < 12 → 0 ≤ c 45 k ∧ c 45 k ≤ 7) ∧ (∀ k, k < 12 → 0 ≤ c 46 k ∧ c 46 k ≤ 99) ∧ (∀ k : Nat, k < 12 → (k : Int) < c 37 14 → 1 ≤ c 46 k) ∧ (∀ k, k < 12 → 0 ≤ c 47 k ∧ c 47 k ≤ 999) ∧ (∀ k, k < 12 → 0 ≤ c 48 k ∧ c 48 k ≤ 7) ∧ (∀ k, k < 12 → 0 ≤ c 49 k ∧ c 49 k ≤ 11) ∧ (0 ≤ c 37 12 ∧ c 37 12 ≤ 16) ∧ (0 ≤ c 37 13 ∧ c 37 13 ≤ 16) ∧ (0 ≤ c 37 14 ∧ c 37 14 ≤ 12) ∧ (0 ≤ c 37 15 ∧ c 37 15 ≤ 12)
theorem RelF_kin {c r : bM} (h : RelF c r) : ∀ k, k < 16 → r 150 k = c 38 k := h.1
theorem RelF_home {c r : bM} (h : RelF c r) : ∀ k, k < 16 → r 151 k = c 39 k := h.2.1
theorem RelF_trade {c r : bM} (h : RelF c r) : ∀ k, k < 16 → r 152 k = c 40 k := h.2.2.1
theorem RelF_safe {c r : bM} (h : RelF c r) : ∀ k, k < 16 → r 153 k = c 41 k := h.2.2.2.1
theorem RelF_nkin {c r : bM} (h : RelF c r) : ∀ k, k < 16 → r 154 k = c 42 k := h.2.2.2.2.1
theorem RelF_nhome {c r : bM} (h : RelF c r) : ∀ k, k < 16 → r 155 k = c 43 k := h.2.2.2.2.2.1
theorem RelF_tof {c r : bM} (h : RelF c r) : ∀ k, k < 12 → r 156 k = c 44 k := h.2.2.2.2.2.2.1
theorem RelF_sort {c r : bM} (h : RelF c r) : ∀ k, k < 12 → r 157 k = c 45 k := h.2.2.2.2.2.2.2.1
theorem RelF_wgt {c r : bM} (h : RelF c r) : ∀ k, k < 12 → r 158 k = c 46 k := h.2.2.2.2.2.2.2.2.1
theorem RelF_worth {c r : bM} (h : RelF c r) : ∀ k, k < 12 → r 159 k = c 47 k := h.2.2.2.2.2.2.2.2.2.1
theorem RelF_fsort {c r : bM} (h : RelF c r) : ∀ k, k < 12 → r 160 k = c 48 k := h.2.2.2.2.2.2.2.2.2.2.1
theorem RelF_fat {c r : bM} (h : RelF c r) : ∀ k, k < 12 → r 161 k = c 49 k := h.2.2.2.2.2.2.2.2.2.2.2.1
theorem RelF_rkin {c r : bM} (h : RelF c r) : ∀ k, k < 16 → 0 ≤ c 38 k ∧ c 38 k ≤ 9 := h.2.2.2.2.2.2.2.2.2.2.2.2.1
theorem RelF_rhome {c r : bM} (h : RelF c r) : ∀ k, k < 16 → 0 ≤ c 39 k ∧ c 39 k ≤ 9 := h.2.2.2.2.2.2.2.2.2.2.2.2.2.1
theorem RelF_rtrade {c r : bM} (h : RelF c r) : ∀ k, k < 16 → 0 ≤ c 40 k ∧ c 40 k ≤ 5 := h.2.2.2.2.2.2.2.2.2.2.2.2.2.2.1
theorem RelF_rsafe {c r : bM} (h : RelF c r) : ∀ k, k < 16 → c 41 k = 0 ∨ c 41 k = 1 := h.2.2.2.2.2.2.2.2.2.2.2.2.2.2.2.1
theorem RelF_rnkin {c r : bM} (h : RelF c r) : ∀ k, k < 16 → 0 ≤ c 42 k ∧ c 42 k ≤ 9 := h.2.2.2.2.2.2.2.2.2.2.2.2.2.2.2.2.1
theorem RelF_rnhome {c r : bM} (h : RelF c r) : ∀ k, k < 16 → -1 ≤ c 43 k ∧ c 43 k ≤ 9 := h.2.2.2.2.2.2.2.2.2.2.2.2.2.2.2.2.2.1
theorem RelF_rtof {c r : bM} (h : RelF c r) : ∀ k, k < 12 → 0 ≤ c 44 k ∧ c 44 k ≤ 9 := h.2.2.2.2.2.2.2.2.2.2.2.2.2.2.2.2.2.2.1
theorem RelF_rsort {c r : bM} (h : RelF c r) : ∀ k, k < 12 → 0 ≤ c 45 k ∧ c 45 k ≤ 7 := h.2.2.2.2.2.2.2.2.2.2.2.2.2.2.2.2.2.2.2.1
theorem RelF_rwgt {c r : bM} (h : RelF c r) : ∀ k, k < 12 → 0 ≤ c 46 k ∧ c 46 k ≤ 99 := h.2.2.2.2.2.2.2.2.2.2.2.2.2.2.2.2.2.2.2.2.1
theorem RelF_rwgt1 {c r : bM} (h : RelF c r) : ∀ k : Nat, k < 12 → (k : Int) < c 37 14 → 1 ≤ c 46 k := h.2.2.2.2.2.2.2.2.2.2.2.2.2.2.2.2.2.2.2.2.2.1
theorem RelF_rworth {c r : bM} (h : RelF c r) : ∀ k, k < 12 → 0 ≤ c 47 k ∧ c 47 k ≤ 999 := h.2.2.2.2.2.2.2.2.2.2.2.2.2.2.2.2.2.2.2.2.2.2.1
theorem RelF_rfsort {c r : bM} (h : RelF c r) : ∀ k, k < 12 → 0 ≤ c 48 k ∧ c 48 k ≤ 7 := h.2.2.2.2.2.2.2.2.2.2.2.2.2.2.2.2.2.2.2.2.2.2.2.1
theorem RelF_rfat {c r : bM} (h : RelF c r) : ∀ k, k < 12 → 0 ≤ c 49 k ∧ c 49 k ≤ 11 := h.2.2.2.2.2.2.2.2.2.2.2.2.2.2.2.2.2.2.2.2.2.2.2.2.1
theorem RelF_rpersons {c r : bM} (h : RelF c r) : 0 ≤ c 37 12 ∧ c 37 12 ≤ 16 := h.2.2.2.2.2.2.2.2.2.2.2.2.2.2.2.2.2.2.2.2.2.2.2.2.2.1
theorem RelF_rnames {c r : bM} (h : RelF c r) : 0 ≤ c 37 13 ∧ c 37 13 ≤ 16 := h.2.2.2.2.2.2.2.2.2.2.2.2.2.2.2.2.2.2.2.2.2.2.2.2.2.2.1
theorem RelF_rthings {c r : bM} (h : RelF c r) : 0 ≤ c 37 14 ∧ c 37 14 ≤ 12 := h.2.2.2.2.2.2.2.2.2.2.2.2.2.2.2.2.2.2.2.2.2.2.2.2.2.2.2.1
theorem RelF_rfinds {c r : bM} (h : RelF c r) : 0 ≤ c 37 15 ∧ c 37 15 ≤ 12 := h.2.2.2.2.2.2.2.2.2.2.2.2.2.2.2.2.2.2.2.2.2.2.2.2.2.2.2.2
theorem RelF_congr {c r c1 r1 : bM} (h : RelF c r) (hc : ∀ i, 37 ≤ i → i ≤ 49 → c1 i = c i) (hr : ∀ i, 150 ≤ i → i ≤ 161 → r1 i = r i) : RelF c1 r1 := by
  have e37 := hc 37 (by decide) (by decide)
  have e38 := hc 38 (by decide) (by decide)
  have e39 := hc 39 (by decide) (by decide)
  have e40 := hc 40 (by decide) (by decide)
  have e41 := hc 41 (by decide) (by decide)
  have e42 := hc 42 (by decide) (by decide)
  have e43 := hc 43 (by decide) (by decide)
  have e44 := hc 44 (by decide) (by decide)
  have e45 := hc 45 (by decide) (by decide)
  have e46 := hc 46 (by decide) (by decide)
  have e47 := hc 47 (by decide) (by decide)
  have e48 := hc 48 (by decide) (by decide)
  have e49 := hc 49 (by decide) (by decide)
  have e150 := hr 150 (by decide) (by decide)
  have e151 := hr 151 (by decide) (by decide)
  have e152 := hr 152 (by decide) (by decide)
  have e153 := hr 153 (by decide) (by decide)
  have e154 := hr 154 (by decide) (by decide)
  have e155 := hr 155 (by decide) (by decide)
  have e156 := hr 156 (by decide) (by decide)
  have e157 := hr 157 (by decide) (by decide)
  have e158 := hr 158 (by decide) (by decide)
  have e159 := hr 159 (by decide) (by decide)
  have e160 := hr 160 (by decide) (by decide)
  have e161 := hr 161 (by decide) (by decide)
  unfold RelF at h ⊢
  simp only [e37, e38, e39, e40, e41, e42, e43, e44, e45, e46, e47, e48, e49, e150, e151, e152, e153, e154, e155, e156, e157, e158, e159, e160, e161]
  exact h
def RelC (c r : bM) : Prop := (∀ k, k < 16 → r 172 k = c 80 k) ∧ (∀ k, k < 16 → r 173 k = c 81 k) ∧ (∀ k, k < 16 → r 174 k = c 82 k) ∧ (∀ k, k < 16 → (c 83 k = -3 ∧ r 175 k = -1) ∨ (0 ≤ c 83 k ∧ c 83 k ≤ 999 ∧ r 175 k = c 83 k)) ∧ (∀ k, k < 24 → r 176 k = c 84 k) ∧ (∀ k, k < 24 → r 177 k = c 85 k) ∧ (∀ k, k < 16 → 0 ≤ c 80 k ∧ c 80 k ≤ 15) ∧ (∀ k, k < 16 → 0 ≤ c 81 k ∧ c 81 k ≤ 11) ∧ (∀ k, k < 16 → 0 ≤ c 82 k ∧ c 82 k ≤ 999) ∧ (∀ k, k < 24 → 0 ≤ c 84 k ∧ c 84 k ≤ 15) ∧ (∀ k, k < 24 → -1 ≤ c 85 k ∧ c 85 k ≤ 15) ∧ (0 ≤ c 79 6 ∧ c 79 6 ≤ 16) ∧ (0 ≤ c 79 7 ∧ c 79 7 ≤ 24) ∧ (0 ≤ c 79 8 ∧ c 79 8 ≤ 99999) ∧ (0 ≤ c 79 9 ∧ c 79 9 ≤ 999)
theorem RelC_person {c r : bM} (h : RelC c r) : ∀ k, k < 16 → r 172 k = c 80 k := h.1
theorem RelC_thing {c r : bM} (h : RelC c r) : ∀ k, k < 16 → r 173 k = c 81 k := h.2.1
theorem RelC_made {c r : bM} (h : RelC c r) : ∀ k, k < 16 → r 174 k = c 82 k := h.2.2.1
theorem RelC_paid {c r : bM} (h : RelC c r) : ∀ k, k < 16 → (c 83 k = -3 ∧ r 175 k = -1) ∨ (0 ≤ c 83 k ∧ c 83 k ≤ 999 ∧ r 175 k = c 83 k) := h.2.2.2.1
theorem RelC_pclaim {c r : bM} (h : RelC c r) : ∀ k, k < 24 → r 176 k = c 84 k := h.2.2.2.2.1
theorem RelC_pby {c r : bM} (h : RelC c r) : ∀ k, k < 24 → r 177 k = c 85 k := h.2.2.2.2.2.1
theorem RelC_rperson {c r : bM} (h : RelC c r) : ∀ k, k < 16 → 0 ≤ c 80 k ∧ c 80 k ≤ 15 := h.2.2.2.2.2.2.1
theorem RelC_rthing {c r : bM} (h : RelC c r) : ∀ k, k < 16 → 0 ≤ c 81 k ∧ c 81 k ≤ 11 := h.2.2.2.2.2.2.2.1
theorem RelC_rmade {c r : bM} (h : RelC c r) : ∀ k, k < 16 → 0 ≤ c 82 k ∧ c 82 k ≤ 999 := h.2.2.2.2.2.2.2.2.1
theorem RelC_rpclaim {c r : bM} (h : RelC c r) : ∀ k, k < 24 → 0 ≤ c 84 k ∧ c 84 k ≤ 15 := h.2.2.2.2.2.2.2.2.2.1
theorem RelC_rpby {c r : bM} (h : RelC c r) : ∀ k, k < 24 → -1 ≤ c 85 k ∧ c 85 k ≤ 15 := h.2.2.2.2.2.2.2.2.2.2.1
theorem RelC_rcount {c r : bM} (h : RelC c r) : 0 ≤ c 79 6 ∧ c 79 6 ≤ 16 := h.2.2.2.2.2.2.2.2.2.2.2.1
theorem RelC_rproofs {c r : bM} (h : RelC c r) : 0 ≤ c 79 7 ∧ c 79 7 ≤ 24 := h.2.2.2.2.2.2.2.2.2.2.2.2.1
theorem RelC_rfund {c r : bM} (h : RelC c r) : 0 ≤ c 79 8 ∧ c 79 8 ≤ 99999 := h.2.2.2.2.2.2.2.2.2.2.2.2.2.1
theorem RelC_rtoday {c r : bM} (h : RelC c r) : 0 ≤ c 79 9 ∧ c 79 9 ≤ 999 := h.2.2.2.2.2.2.2.2.2.2.2.2.2.2
theorem RelC_congr {c r c1 r1 : bM} (h : RelC c r) (hc : ∀ i, 79 ≤ i → i ≤ 85 → c1 i = c i) (hr : ∀ i, 172 ≤ i → i ≤ 177 → r1 i = r i) : RelC c1 r1 := by
  have e79 := hc 79 (by decide) (by decide)
  have e80 := hc 80 (by decide) (by decide)
  have e81 := hc 81 (by decide) (by decide)
  have e82 := hc 82 (by decide) (by decide)
  have e83 := hc 83 (by decide) (by decide)
  have e84 := hc 84 (by decide) (by decide)
  have e85 := hc 85 (by decide) (by decide)
  have e172 := hr 172 (by decide) (by decide)
  have e173 := hr 173 (by decide) (by decide)
  have e174 := hr 174 (by decide) (by decide)
  have e175 := hr 175 (by decide) (by decide)
  have e176 := hr 176 (by decide) (by decide)
  have e177 := hr 177 (by decide) (by decide)
  unfold RelC at h ⊢
  simp only [e79, e80, e81, e82, e83, e84, e85, e172, e173, e174, e175, e176, e177]
  exact h
/-- one code of the class against the three of the reference -/
def opRel (x is sg n : Int) : Prop := (x = 9 ∧ is = 10) ∨ (x = 8 ∧ is = 9) ∨ (x = 7 ∧ is = 8) ∨ (x = 10 ∧ is = 6) ∨ (x = 11 ∧ is = 7) ∨ (0 ≤ is ∧ is ≤ 5 ∧ (sg = 60 ∨ sg = 61 ∨ sg = 62) ∧ 0 ≤ n ∧ n ≤ 999 ∧ x = (12 + is) + 256 * sg + 65536 * n)
/-- how many truths wait behind the codes from a on, j of them -/
def cDep (f : Nat → Int) (a : Nat) : Nat → Int
  | 0 => 0
  | j + 1 => cDep f a j + (if f (a + j) = 9 then 0 else if f (a + j) = 8 ∨ f (a + j) = 7 then -1 else 1)
/-- a line: v a version, i a line of it -/
def lineOK (c r : bM) (v i : Nat) : Prop :=
  0 ≤ r 165 (9 * v + i) ∧ r 165 (9 * v + i) ≤ 4 ∧ c 66 (9 * v + i) = r 165 (9 * v + i) + 1 ∧ (r 165 (9 * v + i) ≠ 2 → c 67 (9 * v + i) = r 166 (9 * v + i) ∧ 0 ≤ c 67 (9 * v + i) ∧ c 67 (9 * v + i) ≤ 999) ∧ (r 165 (9 * v + i) = 0 → c 67 (9 * v + i) ≤ 100) ∧ (r 165 (9 * v + i) = 1 → c 67 (9 * v + i) ≤ 9) ∧ c 68 (9 * v + i) = r 167 (9 * v + i) ∧ c 69 (9 * v + i) = r 168 (9 * v + i) ∧ 0 ≤ c 68 (9 * v + i) ∧ c 68 (9 * v + i) ≤ c 69 (9 * v + i) ∧ c 69 (9 * v + i) ≤ 80 ∧
  (∀ j : Nat, c 68 (9 * v + i) ≤ (j : Int) → (j : Int) < c 69 (9 * v + i) → opRel (c 70 (80 * v + j)) (r 169 (80 * v + j)) (r 170 (80 * v + j)) (r 171 (80 * v + j))) ∧
  (∀ j : Nat, (j : Int) ≤ c 69 (9 * v + i) - c 68 (9 * v + i) → 0 ≤ cDep (c 70) (80 * v + (c 68 (9 * v + i)).toNat) j ∧ cDep (c 70) (80 * v + (c 68 (9 * v + i)).toNat) j ≤ 24)
def RelA (c r : bM) : Prop := (0 ≤ c 63 7 ∧ c 63 7 ≤ 8) ∧ (∀ v : Nat, (v : Int) < c 63 7 → r 162 v = c 64 v) ∧ (∀ v : Nat, (v : Int) < c 63 7 → r 163 v = c 65 v ∧ 0 ≤ c 65 v ∧ c 65 v ≤ 9) ∧ (∀ v i : Nat, (v : Int) < c 63 7 → (i : Int) < c 65 v → lineOK c r v i)
theorem RelA_rversions {c r : bM} (h : RelA c r) : 0 ≤ c 63 7 ∧ c 63 7 ≤ 8 := h.1
theorem RelA_day {c r : bM} (h : RelA c r) : ∀ v : Nat, (v : Int) < c 63 7 → r 162 v = c 64 v := h.2.1
theorem RelA_lines {c r : bM} (h : RelA c r) : ∀ v : Nat, (v : Int) < c 63 7 → r 163 v = c 65 v ∧ 0 ≤ c 65 v ∧ c 65 v ≤ 9 := h.2.2.1
theorem RelA_line {c r : bM} (h : RelA c r) : ∀ v i : Nat, (v : Int) < c 63 7 → (i : Int) < c 65 v → lineOK c r v i := h.2.2.2
theorem RelA_congr {c r c1 r1 : bM} (h : RelA c r) (hc : ∀ i, 63 ≤ i → i ≤ 70 → c1 i = c i) (hr : ∀ i, 162 ≤ i → i ≤ 171 → r1 i = r i) : RelA c1 r1 := by
  have e63 := hc 63 (by decide) (by decide)
  have e64 := hc 64 (by decide) (by decide)
  have e65 := hc 65 (by decide) (by decide)
  have e66 := hc 66 (by decide) (by decide)
  have e67 := hc 67 (by decide) (by decide)
  have e68 := hc 68 (by decide) (by decide)
  have e69 := hc 69 (by decide) (by decide)
  have e70 := hc 70 (by decide) (by decide)
  have f2 := hr 162 (by decide) (by decide)
  have f3 := hr 163 (by decide) (by decide)
  have f5 := hr 165 (by decide) (by decide)
  have f6 := hr 166 (by decide) (by decide)
  have f7 := hr 167 (by decide) (by decide)
  have f8 := hr 168 (by decide) (by decide)
  have f9 := hr 169 (by decide) (by decide)
  have f10 := hr 170 (by decide) (by decide)
  have f11 := hr 171 (by decide) (by decide)
  unfold RelA lineOK at h ⊢
  simp only [e63, e64, e65, e66, e67, e68, e69, e70, f2, f3, f5, f6, f7, f8, f9, f10, f11]
  exact h
def Rel (c r : bM) : Prop := (RelN c r) ∧ (RelV c r) ∧ (RelS c r) ∧ (RelF c r) ∧ (RelA c r) ∧ (RelC c r)
theorem Rel_n {c r : bM} (h : Rel c r) : RelN c r := h.1
theorem Rel_v {c r : bM} (h : Rel c r) : RelV c r := h.2.1
theorem Rel_s {c r : bM} (h : Rel c r) : RelS c r := h.2.2.1
theorem Rel_f {c r : bM} (h : Rel c r) : RelF c r := h.2.2.2.1
theorem Rel_a {c r : bM} (h : Rel c r) : RelA c r := h.2.2.2.2.1
theorem Rel_c {c r : bM} (h : Rel c r) : RelC c r := h.2.2.2.2.2
theorem Rel_congr {c r c1 r1 : bM} (h : Rel c r) (hc : ∀ i, 1 ≤ i → i ≤ 92 → c1 i = c i) (hr : ∀ i, 133 ≤ i → i ≤ 177 → r1 i = r i) : Rel c1 r1 := by
  obtain ⟨h1, h2, h3, h4, h5, h6⟩ := h
  exact ⟨RelN_congr h1 (hc 1 (by decide) (by decide)) (hc 17 (by decide) (by decide)) (hc 37 (by decide) (by decide)) (hc 63 (by decide) (by decide)) (hc 79 (by decide) (by decide)) (hr 133 (by decide) (by decide)),
    RelV_congr h2 (fun i a b => hc i (by omega) (by omega)) (fun i a b => hr i (by omega) (by omega)),
    RelS_congr h3 (fun i a b => hc i (by omega) (by omega)) (fun i a b => hr i (by omega) (by omega)),
    RelF_congr h4 (fun i a b => hc i (by omega) (by omega)) (fun i a b => hr i (by omega) (by omega)),
    RelA_congr h5 (fun i a b => hc i (by omega) (by omega)) (fun i a b => hr i (by omega) (by omega)),
    RelC_congr h6 (fun i a b => hc i (by omega) (by omega)) (fun i a b => hr i (by omega) (by omega))⟩
