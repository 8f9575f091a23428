/-! the reference reads a text (X7) -/
theorem gT_at {bs : Nat → Int} {n i : Int} (h : 0 ≤ i ∧ i < n) : gT bs n i = bs i.toNat := if_pos h
theorem gT_out {bs : Nat → Int} {n i : Int} (h : ¬ i < n) : gT bs n i = -1 := if_neg (fun o => h o.2)
theorem kN_rng {g : Int → Int} {p k v : Int} (h : kN g p k v) : 0 ≤ v ∧ v ≤ 99 ∧ 0 ≤ k ∧ k ≤ 2 := by
  rcases h with ⟨h1, h2⟩ | ⟨h1, h2, h3⟩ | ⟨h1, h2, h3, h4⟩
  · omega
  · have := h2.1; have := h2.2; omega
  · have := h2.1; have := h2.2; have := h3.1; have := h3.2; omega
theorem kN_0 {g : Int → Int} {p : Int} : kN g p 0 0 := Or.inl ⟨rfl, rfl⟩
theorem nmg_1 {g : Int → Int} {a b p : Int} : (nmS g a b (p, -1)).1 = p + cN g p := by
  unfold nmS; rw [if_pos rfl]
theorem nmg_x {g : Int → Int} {a b p : Int} (h : cN g p = 0 ∨ dgR (g (p + cN g p))) : (nmS g a b (p, -1)).2 = p + cN g p := by
  unfold nmS; rw [if_pos rfl]; exact if_pos h
theorem nmg_r {g : Int → Int} {a b p : Int} (h : ¬ (cN g p = 0 ∨ dgR (g (p + cN g p)))) (hr : vN g p < a ∨ b < vN g p) : (nmS g a b (p, -1)).2 = p := by
  unfold nmS; rw [if_pos rfl]; exact (if_neg h).trans (if_pos hr)
theorem nmg_o {g : Int → Int} {a b p : Int} (h : ¬ (cN g p = 0 ∨ dgR (g (p + cN g p)))) (hr : ¬ (vN g p < a ∨ b < vN g p)) : (nmS g a b (p, -1)).2 = -1 := by
  unfold nmS; rw [if_pos rfl]; exact (if_neg h).trans (if_neg hr)
theorem nmg_k {g : Int → Int} {a b : Int} {s : Int × Int} (h : ¬ s.2 = -1) : nmS g a b s = s := if_neg h
theorem sg_k {g : Int → Int} {c : Int} {s : Int × Int} (h : ¬ s.2 = -1) : sgS g c s = s := if_neg h
theorem sm_k {g : Int → Int} {s : Int × Int} (h : ¬ s.2 = -1) : smS g s = s := if_neg (fun o => h o.1)
theorem sg_y {g : Int → Int} {c p : Int} (h : g p = c) : sgS g c (p, -1) = (p + 1, -1) := by
  unfold sgS; rw [if_pos rfl]; exact if_pos h
theorem sg_n {g : Int → Int} {c p : Int} (h : ¬ g p = c) : sgS g c (p, -1) = (p, p) := by
  unfold sgS; rw [if_pos rfl]; exact if_neg h
theorem sm_y {g : Int → Int} {p : Int} (h : g p = 115) : smS g (p, -1) = (p + 1, -1) := if_pos ⟨rfl, h⟩
theorem sm_n {g : Int → Int} {p : Int} (h : ¬ g p = 115) : smS g (p, -1) = (p, -1) := if_neg (fun o => h o.2)
theorem smV_y {g : Int → Int} {p : Int} (h : g p = 115) : smV g (p, -1) = 1 := if_pos ⟨rfl, h⟩
theorem smV_n {g : Int → Int} {p : Int} (h : ¬ g p = 115) : smV g (p, -1) = 0 := if_neg (fun o => h o.2)
theorem r4_k3 {g : Int → Int} {s : Int × Int} (h : ¬ (r3 g s).2 = -1) : r4 g s = r3 g s := by unfold r4; rw [sm_k h, sg_k h]
theorem r4_k2 {g : Int → Int} {s : Int × Int} (h : ¬ (r2 g s).2 = -1) : r4 g s = r2 g s := by
  have e : r3 g s = r2 g s := nmg_k h
  rw [r4_k3 (by rw [e]; exact h), e]
theorem r4_k1 {g : Int → Int} {s : Int × Int} (h : ¬ (nmS g 1 12 (r1 g s)).2 = -1) : r4 g s = nmS g 1 12 (r1 g s) := by
  have e : r2 g s = nmS g 1 12 (r1 g s) := sg_k h
  rw [r4_k2 (by rw [e]; exact h), e]
theorem r4_k0 {g : Int → Int} {s : Int × Int} (h : ¬ (r1 g s).2 = -1) : r4 g s = r1 g s := by
  have e : nmS g 1 12 (r1 g s) = r1 g s := nmg_k h
  rw [r4_k1 (by rw [e]; exact h), e]
theorem r4_kn {g : Int → Int} {s : Int × Int} (h : ¬ (nmS g 0 49 s).2 = -1) : r4 g s = nmS g 0 49 s := by
  have e : r1 g s = nmS g 0 49 s := sg_k h
  rw [r4_k0 (by rw [e]; exact h), e]
theorem pr_eq {s : Int × Int} {a b : Int} (h1 : s.1 = a) (h2 : s.2 = b) : s = (a, b) := by subst h1 h2; rfl
theorem nmV_1 {g : Int → Int} {a p : Int} : nmV g a (p, -1) = vN g p := if_pos rfl
