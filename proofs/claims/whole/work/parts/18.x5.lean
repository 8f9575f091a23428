/-! the text (X5), walked -/
/-- the sign at a place, -1 behind the end -/
def gT (bs : Nat → Int) (n : Int) : Int → Int := fun i => if 0 ≤ i ∧ i < n then bs i.toNat else -1
abbrev dgR (c : Int) : Prop := 48 ≤ c ∧ c ≤ 57
def cN (g : Int → Int) (p : Int) : Int := if dgR (g p) then (if dgR (g (p + 1)) then 2 else 1) else 0
def vN (g : Int → Int) (p : Int) : Int := if dgR (g p) then (if dgR (g (p + 1)) then 10 * (g p - 48) + g (p + 1) - 48 else g p - 48) else 0
/-- reading: the place and the error (or -1) -/
def nmS (g : Int → Int) (lo hi : Int) (s : Int × Int) : Int × Int := if s.2 = -1 then (s.1 + cN g s.1, if cN g s.1 = 0 ∨ dgR (g (s.1 + cN g s.1)) then s.1 + cN g s.1 else if vN g s.1 < lo ∨ hi < vN g s.1 then s.1 else -1) else s
def nmV (g : Int → Int) (lo : Int) (s : Int × Int) : Int := if s.2 = -1 then vN g s.1 else lo
def sgS (g : Int → Int) (c : Int) (s : Int × Int) : Int × Int := if s.2 = -1 then (if g s.1 = c then (s.1 + 1, -1) else (s.1, s.1)) else s
def smS (g : Int → Int) (s : Int × Int) : Int × Int := if s.2 = -1 ∧ g s.1 = 115 then (s.1 + 1, -1) else s
def smV (g : Int → Int) (s : Int × Int) : Int := if s.2 = -1 ∧ g s.1 = 115 then 1 else 0
def inR (n : Int) (s : Int × Int) : Prop := 0 ≤ s.1 ∧ s.1 ≤ n ∧ -1 ≤ s.2 ∧ s.2 ≤ n
theorem gT_in {bs : Nat → Int} {n i : Int} (h : gT bs n i ≠ -1) : 0 ≤ i ∧ i < n := by
  unfold gT at h
  split at h
  · assumption
  · exact absurd rfl h
theorem gT_ne {bs : Nat → Int} {n i c : Int} (h : gT bs n i = c) (hc : 0 ≤ c) : 0 ≤ i ∧ i < n := gT_in (bs := bs) (by omega)
theorem gT_dg {bs : Nat → Int} {n i : Int} (h : dgR (gT bs n i)) : 0 ≤ i ∧ i < n := gT_in (bs := bs) (by have := h.1; omega)
theorem gT_rng {bs : Nat → Int} {n i : Int} (hb : ∀ j, 0 ≤ bs j ∧ bs j ≤ 127) : -1 ≤ gT bs n i ∧ gT bs n i ≤ 127 := by
  unfold gT
  split
  · have := hb i.toNat; omega
  · omega
theorem vN_rng {g : Int → Int} {p : Int} : 0 ≤ vN g p ∧ vN g p ≤ 99 := by
  unfold vN
  by_cases h1 : dgR (g p)
  · by_cases h2 : dgR (g (p + 1))
    · rw [if_pos h1, if_pos h2]; have := h1.1; have := h1.2; have := h2.1; have := h2.2; omega
    · rw [if_pos h1, if_neg h2]; have := h1.1; have := h1.2; omega
  · rw [if_neg h1]; omega
theorem cN_rng {g : Int → Int} {p : Int} : 0 ≤ cN g p ∧ cN g p ≤ 2 := by
  unfold cN
  split
  · split <;> omega
  · omega
theorem cN_in {bs : Nat → Int} {n p : Int} (h : 0 ≤ p ∧ p ≤ n) : p + cN (gT bs n) p ≤ n := by
  unfold cN
  split
  · rename_i h1
    have := gT_dg h1
    split
    · rename_i h2; have := gT_dg h2; omega
    · omega
  · omega
theorem nmS_in {bs : Nat → Int} {n lo hi : Int} {s : Int × Int} (h : inR n s) : inR n (nmS (gT bs n) lo hi s) := by
  obtain ⟨h1, h2, h3, h4⟩ := h
  have h5 := cN_in (bs := bs) ⟨h1, h2⟩
  have h6 := cN_rng (g := gT bs n) (p := s.1)
  unfold nmS
  split
  · refine ⟨by dsimp only; omega, h5, ?_, ?_⟩
    · dsimp only; split
      · omega
      · split <;> omega
    · dsimp only; split
      · omega
      · split <;> omega
  · exact ⟨h1, h2, h3, h4⟩
theorem nmV_rng {g : Int → Int} {lo : Int} {s : Int × Int} (hl : 0 ≤ lo ∧ lo ≤ 99) : 0 ≤ nmV g lo s ∧ nmV g lo s ≤ 99 := by
  have := vN_rng (g := g) (p := s.1)
  unfold nmV
  split <;> omega
theorem sgS_in {bs : Nat → Int} {n c : Int} {s : Int × Int} (hc : 0 ≤ c) (h : inR n s) : inR n (sgS (gT bs n) c s) := by
  obtain ⟨h1, h2, h3, h4⟩ := h
  unfold sgS
  split
  · split
    · rename_i h5; have := gT_ne h5 hc; exact ⟨by dsimp only; omega, by dsimp only; omega, by dsimp only; omega, by dsimp only; omega⟩
    · exact ⟨h1, h2, by dsimp only; omega, h2⟩
  · exact ⟨h1, h2, h3, h4⟩
theorem smS_in {bs : Nat → Int} {n : Int} {s : Int × Int} (h : inR n s) : inR n (smS (gT bs n) s) := by
  obtain ⟨h1, h2, h3, h4⟩ := h
  unfold smS
  split
  · rename_i h5; have := gT_ne h5.2 (by omega); exact ⟨by dsimp only; omega, by dsimp only; omega, by dsimp only; omega, by dsimp only; omega⟩
  · exact ⟨h1, h2, h3, h4⟩
theorem nmS_ok {g : Int → Int} {lo hi : Int} {s : Int × Int} (h0 : 0 ≤ s.1) (h : (nmS g lo hi s).2 = -1) : s.2 = -1 ∧ lo ≤ nmV g lo s ∧ nmV g lo s ≤ hi := by
  have h6 := cN_rng (g := g) (p := s.1)
  unfold nmS at h
  split at h
  · rename_i h1
    dsimp only at h
    split at h
    · omega
    · split at h
      · omega
      · unfold nmV; rw [if_pos h1]; exact ⟨h1, by omega, by omega⟩
  · rename_i h1; exact absurd h h1
theorem sgS_ok {g : Int → Int} {c : Int} {s : Int × Int} (h0 : 0 ≤ s.1) (h : (sgS g c s).2 = -1) : s.2 = -1 ∧ g s.1 = c := by
  unfold sgS at h
  split at h
  · rename_i h1
    split at h
    · rename_i h2; exact ⟨h1, h2⟩
    · dsimp only at h; omega
  · rename_i h1; exact absurd h h1
theorem smS_ok {g : Int → Int} {s : Int × Int} (h : (smS g s).2 = -1) : s.2 = -1 := by
  unfold smS at h
  split at h
  · rename_i h1; exact h1.1
  · exact h
/-- reading of one right: place, error, how many, their days and sizes -/
abbrev RS : Type := (Int × Int) × Nat × (Nat → Int) × (Nat → Int)
def r1 (g : Int → Int) (s : Int × Int) : Int × Int := sgS g 45 (nmS g 0 49 s)
def r2 (g : Int → Int) (s : Int × Int) : Int × Int := sgS g 45 (nmS g 1 12 (r1 g s))
def r3 (g : Int → Int) (s : Int × Int) : Int × Int := nmS g 1 (ml (nmV g 0 s) (nmV g 1 (r1 g s))) (r2 g s)
def r4 (g : Int → Int) (s : Int × Int) : Int × Int := sgS g 59 (smS g (r3 g s))
def rD (g : Int → Int) (s : Int × Int) : Int := dayN (nmV g 0 s) (nmV g 1 (r1 g s)) (nmV g 1 (r2 g s))
def rrS (g : Int → Int) (q : RS) : RS := if q.2.1 < 10 then ((r4 g q.1), if (r4 g q.1).2 = -1 then (q.2.1 + 1, va_up q.2.2.1 q.2.1 (rD g q.1), va_up q.2.2.2 q.2.1 (smV g (r3 g q.1))) else q.2) else ((q.1.1, q.1.1), q.2)
def rdN (g : Int → Int) (n : Int) : Nat → RS → RS
  | 0, q => q
  | k + 1, q => if q.1.1 < n ∧ q.1.2 = -1 then rdN g n k (rrS g q) else q
theorem r1_in {bs : Nat → Int} {n : Int} {s : Int × Int} (h : inR n s) : inR n (r1 (gT bs n) s) := sgS_in (by omega) (nmS_in h)
theorem r2_in {bs : Nat → Int} {n : Int} {s : Int × Int} (h : inR n s) : inR n (r2 (gT bs n) s) := sgS_in (by omega) (nmS_in (r1_in h))
theorem r3_in {bs : Nat → Int} {n : Int} {s : Int × Int} (h : inR n s) : inR n (r3 (gT bs n) s) := nmS_in (r2_in h)
theorem r4_in {bs : Nat → Int} {n : Int} {s : Int × Int} (h : inR n s) : inR n (r4 (gT bs n) s) := sgS_in (by omega) (smS_in (r3_in h))
theorem dayN_49 {y t k : Int} (hy : 0 ≤ y ∧ y ≤ 49) (ht : 1 ≤ t ∧ t ≤ 12) (hk : 1 ≤ k ∧ k ≤ ml y t) : 0 ≤ dayN y t k ∧ dayN y t k ≤ 18262 := by
  obtain ⟨e1, -, -, e4⟩ := dayN_yr hy.1 ht hk
  have h6 := (yr_spec e4).2.2
  rw [e1] at h6
  unfold ny at *
  omega
theorem r4_ok {bs : Nat → Int} {n : Int} {s : Int × Int} (hi : inR n s) (h : (r4 (gT bs n) s).2 = -1) : s.2 = -1 ∧ (0 ≤ nmV (gT bs n) 0 s ∧ nmV (gT bs n) 0 s ≤ 49) ∧ (1 ≤ nmV (gT bs n) 1 (r1 (gT bs n) s) ∧ nmV (gT bs n) 1 (r1 (gT bs n) s) ≤ 12) ∧ 1 ≤ nmV (gT bs n) 1 (r2 (gT bs n) s) ∧ nmV (gT bs n) 1 (r2 (gT bs n) s) ≤ ml (nmV (gT bs n) 0 s) (nmV (gT bs n) 1 (r1 (gT bs n) s)) := by
  have a4 := sgS_ok (smS_in (r3_in hi)).1 h
  have a3 := nmS_ok (r2_in hi).1 (smS_ok a4.1)
  have a2 := sgS_ok (nmS_in (r1_in hi)).1 a3.1
  have b2 := nmS_ok (r1_in hi).1 a2.1
  have a1 := sgS_ok (nmS_in hi).1 b2.1
  have b1 := nmS_ok hi.1 a1.1
  exact ⟨b1.1, b1.2, b2.2, a3.2⟩
/-- what holds of all that was read -/
def RSok (n : Int) (q : RS) : Prop := inR n q.1 ∧ q.2.1 ≤ 10 ∧ ∀ j, j < q.2.1 → (0 ≤ q.2.2.1 j ∧ q.2.2.1 j ≤ 18262) ∧ (q.2.2.2 j = 0 ∨ q.2.2.2 j = 1)
theorem smV_01 {g : Int → Int} {s : Int × Int} : smV g s = 0 ∨ smV g s = 1 := by unfold smV; split <;> simp
theorem rrS_ok {bs : Nat → Int} {n : Int} {q : RS} (h : RSok n q) (hp : q.1.1 ≤ n) : RSok n (rrS (gT bs n) q) := by
  obtain ⟨h1, h2, h3⟩ := h
  unfold rrS
  split
  · rename_i h4
    refine ⟨r4_in h1, ?_⟩
    dsimp only
    split
    · rename_i h5
      have h6 := r4_ok h1 h5
      have h7 := dayN_49 h6.2.1 h6.2.2.1 h6.2.2.2
      refine ⟨by dsimp only; omega, fun j hj => ?_⟩
      dsimp only at hj ⊢
      rcases Nat.decEq j q.2.1 with o | o
      · rw [up_n o, up_n o]; exact h3 j (by omega)
      · subst o; rw [up_s, up_s]; exact ⟨h7, smV_01⟩
    · exact ⟨h2, h3⟩
  · exact ⟨⟨h1.1, h1.2.1, by dsimp only; have := h1.1; omega, h1.2.1⟩, h2, h3⟩
theorem rdN_ok {bs : Nat → Int} {n : Int} : ∀ (k : Nat) (q : RS), RSok n q → RSok n (rdN (gT bs n) n k q)
  | 0, _, h => h
  | k + 1, q, h => by
    unfold rdN
    split
    · exact rdN_ok k _ (rrS_ok h h.1.2.1)
    · exact h
/-- k digits are read, their number is v -/
def kN (g : Int → Int) (p k v : Int) : Prop := (k = 0 ∧ v = 0) ∨ (k = 1 ∧ dgR (g p) ∧ v = g p - 48) ∨ (k = 2 ∧ dgR (g p) ∧ dgR (g (p + 1)) ∧ v = 10 * (g p - 48) + g (p + 1) - 48)
theorem kN_step {g : Int → Int} {p k v : Int} (h : kN g p k v) (hd : dgR (g (p + k))) (hk : k < 2) : kN g p (k + 1) (10 * v + g (p + k) - 48) := by
  rcases h with ⟨h1, h2⟩ | ⟨h1, h2, h3⟩ | ⟨h1, h2⟩
  · subst h1 h2; rw [show p + 0 = p by omega] at *; exact Or.inr (Or.inl ⟨by omega, hd, by omega⟩)
  · subst h1; exact Or.inr (Or.inr ⟨by omega, h2, hd, by omega⟩)
  · omega
theorem kN_end {g : Int → Int} {p k v : Int} (h : kN g p k v) (hd : k < 2 → ¬ dgR (g (p + k))) : cN g p = k ∧ vN g p = v := by
  unfold cN vN
  rcases h with ⟨h1, h2⟩ | ⟨h1, h2, h3⟩ | ⟨h1, h2, h3, h4⟩
  · subst h1 h2; have h4 := hd (by omega); rw [show p + 0 = p by omega] at h4; rw [if_neg h4, if_neg h4]; exact ⟨rfl, rfl⟩
  · subst h1; have h4 := hd (by omega); rw [if_pos h2, if_pos h2, if_neg h4, if_neg h4]; exact ⟨rfl, h3.symm⟩
  · subst h1; rw [if_pos h2, if_pos h2, if_pos h3, if_pos h3]; exact ⟨rfl, h4.symm⟩
theorem rdN_stop {g : Int → Int} {n : Int} {k : Nat} {q : RS} (h : ¬ (q.1.1 < n ∧ q.1.2 = -1)) : rdN g n k q = q := by
  cases k with
  | zero => rfl
  | succ k => rw [rdN, if_neg h]
set_option maxHeartbeats 400000 in
set_option maxRecDepth 4000 in
theorem ok_X5_signAt {l : Launch} {D : va_G} {cy : Nat → ClassId} {z : Nat} {M : Mm} {K : Option Value → Mm → Prop} {t : Nat} (hn : t + 4 ≤ M.1) {len nn pp er : Int} {bs : Nat → Int} (m0 : M.2 t = oX 4 [.ref (z + (t + 1)), iv len, iv (pp), iv (er), iv (nn), .ref (z + (t + 2)), .ref (z + (t + 3))]) (m1 : M.2 (t + 1) = aB cy 100 bs) (hl : 0 ≤ len ∧ len ≤ 100) {i : Int} (hi : -1000 ≤ i ∧ i ≤ 1000) (hK : K (some (iv (gT bs len i))) M) :
    MT l D cy z false yX5_signAt (wsy yX5_signAt cX5_signAt 2 (some .int)) 0 0 0 0 M [.ref (z + t), iv i] K := by
  refine MT_of (by decide) w_317 (Nat.le_of_ble_eq_true rfl) ?_
  intro p e s m args below meth c C hr hx0
  refine V_iload_n C dX5_signAt_0 rfl ?_
  refine V_if_lt C dX5_signAt_1 (tgt := 30) (by decide) (by omega) (fun g1 => ?_) (fun g1 => ?_)
  · refine V_iconst C dX5_signAt_30 ?_
    exact V_iret C hr dX5_signAt_31 (K_of hK (by unfold gT; rw [if_neg (by omega)]))
  · refine V_iload_n C dX5_signAt_4 rfl ?_
    refine V_aload_n C dX5_signAt_5 rfl ?_
    refine V_get C fg_X5_15 dX5_signAt_6 (by repeat (first | with_reducible assumption | with_reducible exact mset_self _ _ _ | refine (mset_ne (by omega)).trans ?_)) (by (try simp only [mset_1]); omega) (by rfl) ?_
    refine V_icmp_ge C dX5_signAt_9 (tgt := 30) (by decide) (by omega) (by omega) (fun g9 => ?_) (fun g9 => ?_)
    · refine V_iconst C dX5_signAt_30 ?_
      exact V_iret C hr dX5_signAt_31 (K_of hK (by unfold gT; rw [if_neg (by omega)]))
    · refine V_iload_n C dX5_signAt_12 rfl ?_
      refine V_aload_n C dX5_signAt_13 rfl ?_
      refine V_get C fg_X5_9 dX5_signAt_14 (by repeat (first | with_reducible assumption | with_reducible exact mset_self _ _ _ | refine (mset_ne (by omega)).trans ?_)) (by (try simp only [mset_1]); omega) (by rfl) ?_
      refine V_alenB C dX5_signAt_17 (by repeat (first | with_reducible assumption | with_reducible exact mset_self _ _ _ | refine (mset_ne (by omega)).trans ?_)) (by (try simp only [mset_1]); omega) ?_
      refine V_icmp_ge C dX5_signAt_18 (tgt := 30) (by decide) (by omega) (by omega) (fun g18 => ?_) (fun g18 => ?_)
      · refine V_iconst C dX5_signAt_30 ?_
        exact V_iret C hr dX5_signAt_31 (K_of hK (by unfold gT; rw [if_neg (by omega)]))
      · refine V_aload_n C dX5_signAt_21 rfl ?_
        refine V_get C fg_X5_9 dX5_signAt_22 (by repeat (first | with_reducible assumption | with_reducible exact mset_self _ _ _ | refine (mset_ne (by omega)).trans ?_)) (by (try simp only [mset_1]); omega) (by rfl) ?_
        refine V_iload_n C dX5_signAt_25 rfl ?_
        refine V_baload C dX5_signAt_26 (by repeat (first | with_reducible assumption | with_reducible exact mset_self _ _ _ | refine (mset_ne (by omega)).trans ?_)) (by (try simp only [mset_1]); omega) (by omega) (by omega) ?_
        refine V_goto C dX5_signAt_27 (tgt := 31) (by decide) ?_
        exact V_iret C hr dX5_signAt_31 (K_of hK (by unfold gT; rw [if_pos ⟨by omega, by omega⟩]))

set_option maxHeartbeats 400000 in
set_option maxRecDepth 4000 in
theorem ok_X5_isDigit {l : Launch} {D : va_G} {cy : Nat → ClassId} {z : Nat} {M : Mm} {K : Option Value → Mm → Prop} {t : Nat} (hn : t + 4 ≤ M.1) {len nn pp er : Int} {bs : Nat → Int} (m0 : M.2 t = oX 4 [.ref (z + (t + 1)), iv len, iv (pp), iv (er), iv (nn), .ref (z + (t + 2)), .ref (z + (t + 3))]) (m1 : M.2 (t + 1) = aB cy 100 bs) (hl : 0 ≤ len ∧ len ≤ 100) (hb : ∀ j, 0 ≤ bs j ∧ bs j ≤ 127) {i : Int} (hi : -1000 ≤ i ∧ i ≤ 1000) (hT : dgR (gT bs len i) → K (some (iv 1)) M) (hF : ¬ dgR (gT bs len i) → K (some (iv 0)) M) :
    MT l D cy z false yX5_isDigit (wsy yX5_isDigit cX5_isDigit 2 (some .boolean)) 1 21 0 0 M [.ref (z + t), iv i] K := by
  refine MT_of (by decide) w_313 (Nat.le_of_ble_eq_true rfl) ?_
  intro p e s m args below meth c C hr hx0
  refine V_aload_n C dX5_isDigit_0 rfl ?_
  refine V_iload_n C dX5_isDigit_1 rfl ?_
  refine V_callV (fr := 0) (lo := 0) (mc := 0) (ms := 0) (As := [_]) C yvX5_signAt w_314 dX5_isDigit_2 rfl rfl (by repeat (first | with_reducible assumption | with_reducible exact mset_self _ _ _ | refine (mset_ne (by omega)).trans ?_)) (by (try simp only [mset_1]); omega) rfl rfl (Nat.le_of_ble_eq_true rfl) ⟨Nat.le_of_ble_eq_true rfl, Nat.le_of_ble_eq_true rfl⟩ ⟨Nat.le_of_ble_eq_true rfl, Nat.le_of_ble_eq_true rfl⟩ ?_
  refine ok_X5_signAt hn m0 m1 hl (by omega) ?_
  have gr := gT_rng (n := len) (i := i) hb
  refine V_bipush C dX5_isDigit_5 (by decide) ?_
  refine V_icmp_lt C dX5_isDigit_7 (tgt := 24) (by decide) (by omega) (by omega) (fun g7 => ?_) (fun g7 => ?_)
  · refine V_iconst C dX5_isDigit_24 ?_
    exact V_zret C hr (by omega) dX5_isDigit_25 (hF (fun o => by have o1 := o.1; have o2 := o.2; omega))
  · refine V_aload_n C dX5_isDigit_10 rfl ?_
    refine V_iload_n C dX5_isDigit_11 rfl ?_
    refine V_callV (fr := 0) (lo := 0) (mc := 0) (ms := 0) (As := [_]) C yvX5_signAt w_314 dX5_isDigit_12 rfl rfl (by repeat (first | with_reducible assumption | with_reducible exact mset_self _ _ _ | refine (mset_ne (by omega)).trans ?_)) (by (try simp only [mset_1]); omega) rfl rfl (Nat.le_of_ble_eq_true rfl) ⟨Nat.le_of_ble_eq_true rfl, Nat.le_of_ble_eq_true rfl⟩ ⟨Nat.le_of_ble_eq_true rfl, Nat.le_of_ble_eq_true rfl⟩ ?_
    refine ok_X5_signAt hn m0 m1 hl (by omega) ?_
    refine V_bipush C dX5_isDigit_15 (by decide) ?_
    refine V_icmp_gt C dX5_isDigit_17 (tgt := 24) (by decide) (by omega) (by omega) (fun g17 => ?_) (fun g17 => ?_)
    · refine V_iconst C dX5_isDigit_24 ?_
      exact V_zret C hr (by omega) dX5_isDigit_25 (hF (fun o => by have o1 := o.1; have o2 := o.2; omega))
    · refine V_iconst C dX5_isDigit_20 ?_
      refine V_goto C dX5_isDigit_21 (tgt := 25) (by decide) ?_
      exact V_zret C hr (by omega) dX5_isDigit_25 (hT ⟨by omega, by omega⟩)

set_option maxHeartbeats 400000 in
set_option maxRecDepth 4000 in
theorem ok_X5_readSign0 {l : Launch} {D : va_G} {cy : Nat → ClassId} {z : Nat} {M : Mm} {K : Option Value → Mm → Prop} {t : Nat} (hn : t + 4 ≤ M.1) {len nn pp er : Int} {bs : Nat → Int} (m0 : M.2 t = oX 4 [.ref (z + (t + 1)), iv len, iv (pp), iv (er), iv (nn), .ref (z + (t + 2)), .ref (z + (t + 3))]) (m1 : M.2 (t + 1) = aB cy 100 bs) (hl : 0 ≤ len ∧ len ≤ 100) (hb : ∀ j, 0 ≤ bs j ∧ bs j ≤ 127) (hp : 0 ≤ pp ∧ pp ≤ 100) (he : -1 ≤ er ∧ er ≤ 100) {k : Int} (hk : 0 ≤ k ∧ k ≤ 127) (hK : ∀ M', Sm M M' (fun j => j = t) → M'.2 t = oX 4 [.ref (z + (t + 1)), iv len, iv ((sgS (gT bs len) k (pp, er)).1), iv ((sgS (gT bs len) k (pp, er)).2), iv (nn), .ref (z + (t + 2)), .ref (z + (t + 3))] → K none M') :
    MT l D cy z false yX5_readSign (wsy yX5_readSign cX5_readSign 2 none) 1 21 0 0 M [.ref (z + t), iv k] K := by
  refine MT_of (by decide) w_321 (Nat.le_of_ble_eq_true rfl) ?_
  intro p e s m args below meth c C hr hx0
  refine V_aload_n C dX5_readSign_0 rfl ?_
  refine V_get C fg_X5_22 dX5_readSign_1 (by repeat (first | with_reducible assumption | with_reducible exact mset_self _ _ _ | refine (mset_ne (by omega)).trans ?_)) (by (try simp only [mset_1]); omega) (by rfl) ?_
  refine V_iconst C dX5_readSign_4 ?_
  refine V_icmp_eq C dX5_readSign_5 (tgt := 9) (by decide) (by omega) (by omega) (fun g5 => ?_) (fun g5 => ?_)
  · refine V_aload_n C dX5_readSign_9 rfl ?_
    refine V_aload_n C dX5_readSign_10 rfl ?_
    refine V_get C fg_X5_19 dX5_readSign_11 (by repeat (first | with_reducible assumption | with_reducible exact mset_self _ _ _ | refine (mset_ne (by omega)).trans ?_)) (by (try simp only [mset_1]); omega) (by rfl) ?_
    refine V_callV (fr := 0) (lo := 0) (mc := 0) (ms := 0) (As := [_]) C yvX5_signAt w_314 dX5_readSign_14 rfl rfl (by repeat (first | with_reducible assumption | with_reducible exact mset_self _ _ _ | refine (mset_ne (by omega)).trans ?_)) (by (try simp only [mset_1]); omega) rfl rfl (Nat.le_of_ble_eq_true rfl) ⟨Nat.le_of_ble_eq_true rfl, Nat.le_of_ble_eq_true rfl⟩ ⟨Nat.le_of_ble_eq_true rfl, Nat.le_of_ble_eq_true rfl⟩ ?_
    refine ok_X5_signAt hn m0 m1 hl (by omega) ?_
    have gr := gT_rng (n := len) (i := pp) hb
    refine V_iload_n C dX5_readSign_17 rfl ?_
    refine V_icmp_ne C dX5_readSign_18 (tgt := 34) (by decide) (by omega) (by omega) (fun g18 => ?_) (fun g18 => ?_)
    · refine V_aload_n C dX5_readSign_34 rfl ?_
      refine V_aload_n C dX5_readSign_35 rfl ?_
      refine V_get C fg_X5_19 dX5_readSign_36 (by repeat (first | with_reducible assumption | with_reducible exact mset_self _ _ _ | refine (mset_ne (by omega)).trans ?_)) (by (try simp only [mset_1]); omega) (by rfl) ?_
      refine V_put C fp_X5_22 dX5_readSign_39 (by repeat (first | with_reducible assumption | with_reducible exact mset_self _ _ _ | refine (mset_ne (by omega)).trans ?_)) (by (try simp only [mset_1]); omega) rfl rfl (by exact Nat.le_of_ble_eq_true rfl) ?_
      exact V_vret C hr dX5_readSign_42 (hK _ (by repeat (first | exact Sm.rf _ _ | refine Sm.ts ?_ (by first | rfl | (simp; done) | (simp; omega) | (dsimp only; omega)))) (by rw [show sgS (gT bs len) k (pp, er) = (pp, pp) from (if_pos g5).trans (if_neg g18)]; exact mset_self _ _ _))
    · refine V_aload_n C dX5_readSign_21 rfl ?_
      refine V_dup C dX5_readSign_22 rfl ?_
      refine V_get C fg_X5_19 dX5_readSign_23 (by repeat (first | with_reducible assumption | with_reducible exact mset_self _ _ _ | refine (mset_ne (by omega)).trans ?_)) (by (try simp only [mset_1]); omega) (by rfl) ?_
      refine V_iconst C dX5_readSign_26 ?_
      refine V_iadd C dX5_readSign_27 ?_
      refine V_put C fp_X5_19 dX5_readSign_28 (by repeat (first | with_reducible assumption | with_reducible exact mset_self _ _ _ | refine (mset_ne (by omega)).trans ?_)) (by (try simp only [mset_1]); omega) rfl rfl (by exact Nat.le_of_ble_eq_true rfl) ?_
      refine V_goto C dX5_readSign_31 (tgt := 42) (by decide) ?_
      exact V_vret C hr dX5_readSign_42 (hK _ (by repeat (first | exact Sm.rf _ _ | refine Sm.ts ?_ (by first | rfl | (simp; done) | (simp; omega) | (dsimp only; omega)))) (by rw [show sgS (gT bs len) k (pp, er) = (pp + 1, -1) from (if_pos g5).trans (if_pos g18), ← g5]; exact mset_self _ _ _))
  · exact V_vret C hr dX5_readSign_8 (hK _ (Sm.rf _ _) (by rw [show sgS (gT bs len) k (pp, er) = (pp, er) from if_neg g5]; exact m0))

set_option maxHeartbeats 400000 in
set_option maxRecDepth 4000 in
theorem ok_X5_readSmall0 {l : Launch} {D : va_G} {cy : Nat → ClassId} {z : Nat} {M : Mm} {K : Option Value → Mm → Prop} {t : Nat} (hn : t + 4 ≤ M.1) {len nn pp er : Int} {bs : Nat → Int} (m0 : M.2 t = oX 4 [.ref (z + (t + 1)), iv len, iv (pp), iv (er), iv (nn), .ref (z + (t + 2)), .ref (z + (t + 3))]) (m1 : M.2 (t + 1) = aB cy 100 bs) (hl : 0 ≤ len ∧ len ≤ 100) (hb : ∀ j, 0 ≤ bs j ∧ bs j ≤ 127) (hp : 0 ≤ pp ∧ pp ≤ 100) (he : -1 ≤ er ∧ er ≤ 100) (hK : ∀ M', Sm M M' (fun j => j = t) → M'.2 t = oX 4 [.ref (z + (t + 1)), iv len, iv ((smS (gT bs len) (pp, er)).1), iv ((smS (gT bs len) (pp, er)).2), iv (nn), .ref (z + (t + 2)), .ref (z + (t + 3))] → K (some (iv (smV (gT bs len) (pp, er)))) M') :
    MT l D cy z false yX5_readSmall (wsy yX5_readSmall cX5_readSmall 1 (some .boolean)) 1 21 0 0 M [.ref (z + t)] K := by
  refine MT_of (by decide) w_328 (Nat.le_of_ble_eq_true rfl) ?_
  intro p e s m args below meth c C hr hx0
  refine V_aload_n C dX5_readSmall_0 rfl ?_
  refine V_get C fg_X5_22 dX5_readSmall_1 (by repeat (first | with_reducible assumption | with_reducible exact mset_self _ _ _ | refine (mset_ne (by omega)).trans ?_)) (by (try simp only [mset_1]); omega) (by rfl) ?_
  refine V_iconst C dX5_readSmall_4 ?_
  refine V_icmp_ne C dX5_readSmall_5 (tgt := 21) (by decide) (by omega) (by omega) (fun g5 => ?_) (fun g5 => ?_)
  · refine V_iconst C dX5_readSmall_21 ?_
    exact V_zret C hr (by omega) dX5_readSmall_22 (K_of (hK _ (Sm.rf _ _) (by rw [show smS (gT bs len) (pp, er) = (pp, er) from if_neg (fun o => g5 o.1)]; exact m0)) (by rw [show smV (gT bs len) (pp, er) = 0 from if_neg (fun o => g5 o.1)]))
  · refine V_aload_n C dX5_readSmall_8 rfl ?_
    refine V_aload_n C dX5_readSmall_9 rfl ?_
    refine V_get C fg_X5_19 dX5_readSmall_10 (by repeat (first | with_reducible assumption | with_reducible exact mset_self _ _ _ | refine (mset_ne (by omega)).trans ?_)) (by (try simp only [mset_1]); omega) (by rfl) ?_
    refine V_callV (fr := 0) (lo := 0) (mc := 0) (ms := 0) (As := [_]) C yvX5_signAt w_314 dX5_readSmall_13 rfl rfl (by repeat (first | with_reducible assumption | with_reducible exact mset_self _ _ _ | refine (mset_ne (by omega)).trans ?_)) (by (try simp only [mset_1]); omega) rfl rfl (Nat.le_of_ble_eq_true rfl) ⟨Nat.le_of_ble_eq_true rfl, Nat.le_of_ble_eq_true rfl⟩ ⟨Nat.le_of_ble_eq_true rfl, Nat.le_of_ble_eq_true rfl⟩ ?_
    refine ok_X5_signAt hn m0 m1 hl (by omega) ?_
    have gr := gT_rng (n := len) (i := pp) hb
    refine V_bipush C dX5_readSmall_16 (by decide) ?_
    refine V_icmp_eq C dX5_readSmall_18 (tgt := 23) (by decide) (by omega) (by omega) (fun g18 => ?_) (fun g18 => ?_)
    · refine V_aload_n C dX5_readSmall_23 rfl ?_
      refine V_dup C dX5_readSmall_24 rfl ?_
      refine V_get C fg_X5_19 dX5_readSmall_25 (by repeat (first | with_reducible assumption | with_reducible exact mset_self _ _ _ | refine (mset_ne (by omega)).trans ?_)) (by (try simp only [mset_1]); omega) (by rfl) ?_
      refine V_iconst C dX5_readSmall_28 ?_
      refine V_iadd C dX5_readSmall_29 ?_
      refine V_put C fp_X5_19 dX5_readSmall_30 (by repeat (first | with_reducible assumption | with_reducible exact mset_self _ _ _ | refine (mset_ne (by omega)).trans ?_)) (by (try simp only [mset_1]); omega) rfl rfl (by exact Nat.le_of_ble_eq_true rfl) ?_
      refine V_iconst C dX5_readSmall_33 ?_
      exact V_zret C hr (by omega) dX5_readSmall_34 (K_of (hK _ (by repeat (first | exact Sm.rf _ _ | refine Sm.ts ?_ (by first | rfl | (simp; done) | (simp; omega) | (dsimp only; omega)))) (by rw [show smS (gT bs len) (pp, er) = (pp + 1, -1) from if_pos ⟨g5, g18⟩, ← g5]; exact mset_self _ _ _)) (by rw [show smV (gT bs len) (pp, er) = 1 from if_pos ⟨g5, g18⟩]))
    · refine V_iconst C dX5_readSmall_21 ?_
      exact V_zret C hr (by omega) dX5_readSmall_22 (K_of (hK _ (Sm.rf _ _) (by rw [show smS (gT bs len) (pp, er) = (pp, er) from if_neg (fun o => g18 o.2)]; exact m0)) (by rw [show smV (gT bs len) (pp, er) = 0 from if_neg (fun o => g18 o.2)]))

set_option maxHeartbeats 400000 in
set_option maxRecDepth 4000 in
theorem ok_X5_readNumber0 {l : Launch} {D : va_G} {cy : Nat → ClassId} {z : Nat} {M : Mm} {K : Option Value → Mm → Prop} {t : Nat} (hn : t + 4 ≤ M.1) {len nn pp er : Int} {bs : Nat → Int} (m0 : M.2 t = oX 4 [.ref (z + (t + 1)), iv len, iv (pp), iv (er), iv (nn), .ref (z + (t + 2)), .ref (z + (t + 3))]) (m1 : M.2 (t + 1) = aB cy 100 bs) (hl : 0 ≤ len ∧ len ≤ 100) (hb : ∀ j, 0 ≤ bs j ∧ bs j ≤ 127) (hp : 0 ≤ pp ∧ pp ≤ 100) (he : -1 ≤ er ∧ er ≤ 100) {lo h9 : Int} (hlo : 0 ≤ lo ∧ lo ≤ 99) (hh : 0 ≤ h9 ∧ h9 ≤ 99) (hK : ∀ M', Sm M M' (fun j => j = t) → M'.2 t = oX 4 [.ref (z + (t + 1)), iv len, iv ((nmS (gT bs len) lo h9 (pp, er)).1), iv ((nmS (gT bs len) lo h9 (pp, er)).2), iv (nn), .ref (z + (t + 2)), .ref (z + (t + 3))] → K (some (iv (nmV (gT bs len) lo (pp, er)))) M') :
    MT l D cy z false yX5_readNumber (wsy yX5_readNumber cX5_readNumber 5 (some .int)) 2 42 0 0 M [.ref (z + t), iv lo, iv h9] K := by
  refine MT_of (by decide) w_309 (Nat.le_of_ble_eq_true rfl) ?_
  intro p e s m args below meth c C hr hx0
  refine V_aload_n C dX5_readNumber_0 rfl ?_
  refine V_get C fg_X5_19 dX5_readNumber_1 (by repeat (first | with_reducible assumption | with_reducible exact mset_self _ _ _ | refine (mset_ne (by omega)).trans ?_)) (by (try simp only [mset_1]); omega) (by rfl) ?_
  refine V_istore_n C dX5_readNumber_4 (by decide) ?_
  refine V_iconst C dX5_readNumber_5 ?_
  refine V_istore C dX5_readNumber_6 (by decide) ?_
  rcases Int.decEq er (-1) with h8 | h8
  · skip
    refine V_aload_n C dX5_readNumber_8 rfl ?_
    refine V_get C fg_X5_22 dX5_readNumber_9 (by repeat (first | with_reducible assumption | with_reducible exact mset_self _ _ _ | refine (mset_ne (by omega)).trans ?_)) (by (try simp only [mset_1]); omega) (by rfl) ?_
    refine V_iconst C dX5_readNumber_12 ?_
    refine V_icmp_ne C dX5_readNumber_13 (tgt := 69) (by decide) (by omega) (by omega) (fun g13 => ?_) (fun g13 => ?_)
    · refine V_aload_n C dX5_readNumber_69 rfl ?_
      refine V_get C fg_X5_22 dX5_readNumber_70 (by repeat (first | with_reducible assumption | with_reducible exact mset_self _ _ _ | refine (mset_ne (by omega)).trans ?_)) (by (try simp only [mset_1]); omega) (by rfl) ?_
      refine V_iconst C dX5_readNumber_73 ?_
      refine V_icmp_eq C dX5_readNumber_74 (tgt := 79) (by decide) (by omega) (by omega) (fun g74 => ?_) (fun g74 => ?_)
      · exact absurd g74 h8
      · refine V_iload_n C dX5_readNumber_77 rfl ?_
        exact V_iret C hr dX5_readNumber_78 (K_of (hK _ (Sm.rf _ _) (by rw [show nmS (gT bs len) lo h9 (pp, er) = (pp, er) from if_neg h8]; exact m0)) (by rw [show nmV (gT bs len) lo (pp, er) = lo from if_neg h8]))
    · exact absurd g13 h8
  · subst h8
    have loop : ∀ (n : Nat) (k9 v9 : Int) (M9 : Mm), (0 ≤ k9 ∧ k9 ≤ 2) → (Sm M M9 (fun j => j = t)) → (M9.2 t = oX 4 [.ref (z + (t + 1)), iv len, iv (pp + k9), iv (-1), iv (nn), .ref (z + (t + 2)), .ref (z + (t + 3))]) → (kN (gT bs len) pp k9 v9) → (2 - k9).toNat < n → V p l e { frames := 2, cells := 0, slots := 0, locals := 42 } s m args below meth c D z 5 (MQ below (qc_ D z K) args s 0 0 (fun q => z ≤ q)) 0 0 M9 8 [(0, .ref (z + t)), (1, iv lo), (2, iv h9), (3, iv pp), (4, iv (v9))] [] := by
      intro n
      induction n with
      | zero => intro k9 v9 M9 hi0 hi1 hi2 hi3 hfu; exact absurd hfu (Nat.not_lt_zero _)
      | succ n ih =>
        intro k9 v9 M9 hi0 hi1 hi2 hi3 hfu
        have hn9 : t + 4 ≤ M9.1 := by rw [hi1.1]; exact hn
        have q0 := hi2
        have q1 : M9.2 (t + 1) = aB cy 100 bs := (hi1.2 _ (by simp)).trans m1
        have vr : -1000 ≤ v9 ∧ v9 ≤ 1000 := by rcases hi3 with ⟨o1, o2⟩ | ⟨o1, o2, o3⟩ | ⟨o1, o2, o3, o4⟩ <;> first | omega | (have a1 := o2.1; have a2 := o2.2; omega) | (have a1 := o2.1; have a2 := o2.2; have a3 := o3.1; have a4 := o3.2; omega)
        refine V_aload_n C dX5_readNumber_8 rfl ?_
        refine V_get C fg_X5_22 dX5_readNumber_9 (by repeat (first | with_reducible assumption | with_reducible exact mset_self _ _ _ | refine (mset_ne (by omega)).trans ?_)) (by (try simp only [mset_1]); omega) (by rfl) ?_
        refine V_iconst C dX5_readNumber_12 ?_
        refine V_icmp_ne C dX5_readNumber_13 (tgt := 69) (by decide) (by omega) (by omega) (fun g13 => ?_) (fun g13 => ?_)
        · exact absurd rfl g13
        · refine V_aload_n C dX5_readNumber_16 rfl ?_
          refine V_get C fg_X5_19 dX5_readNumber_17 (by repeat (first | with_reducible assumption | with_reducible exact mset_self _ _ _ | refine (mset_ne (by omega)).trans ?_)) (by (try simp only [mset_1]); omega) (by rfl) ?_
          refine V_iload_n C dX5_readNumber_20 rfl ?_
          refine V_iconst C dX5_readNumber_21 ?_
          refine V_iadd C dX5_readNumber_22 ?_
          refine V_icmp_ge C dX5_readNumber_23 (tgt := 69) (by decide) (by omega) (by omega) (fun g23 => ?_) (fun g23 => ?_)
          · have ke := kN_end hi3 (fun o => absurd o (by omega))
            refine V_aload_n C dX5_readNumber_69 rfl ?_
            refine V_get C fg_X5_22 dX5_readNumber_70 (by repeat (first | with_reducible assumption | with_reducible exact mset_self _ _ _ | refine (mset_ne (by omega)).trans ?_)) (by (try simp only [mset_1]); omega) (by rfl) ?_
            refine V_iconst C dX5_readNumber_73 ?_
            refine V_icmp_eq C dX5_readNumber_74 (tgt := 79) (by decide) (by omega) (by omega) (fun g74 => ?_) (fun g74 => ?_)
            · refine V_aload_n C dX5_readNumber_79 rfl ?_
              refine V_get C fg_X5_19 dX5_readNumber_80 (by repeat (first | with_reducible assumption | with_reducible exact mset_self _ _ _ | refine (mset_ne (by omega)).trans ?_)) (by (try simp only [mset_1]); omega) (by rfl) ?_
              refine V_iload_n C dX5_readNumber_83 rfl ?_
              refine V_icmp_eq C dX5_readNumber_84 (tgt := 98) (by decide) (by omega) (by omega) (fun g84 => ?_) (fun g84 => ?_)
              · refine V_aload_n C dX5_readNumber_98 rfl ?_
                refine V_aload_n C dX5_readNumber_99 rfl ?_
                refine V_get C fg_X5_19 dX5_readNumber_100 (by repeat (first | with_reducible assumption | with_reducible exact mset_self _ _ _ | refine (mset_ne (by omega)).trans ?_)) (by (try simp only [mset_1]); omega) (by rfl) ?_
                refine V_put C fp_X5_22 dX5_readNumber_103 (by repeat (first | with_reducible assumption | with_reducible exact mset_self _ _ _ | refine (mset_ne (by omega)).trans ?_)) (by (try simp only [mset_1]); omega) rfl rfl (by exact Nat.le_of_ble_eq_true rfl) ?_
                refine V_goto C dX5_readNumber_106 (tgt := 126) (by decide) ?_
                refine V_iload C dX5_readNumber_126 rfl ?_
                exact V_iret C hr dX5_readNumber_128 (K_of (hK _ (hi1.ts rfl) (by rw [show nmS (gT bs len) lo h9 (pp, -1) = (pp + k9, pp + k9) from (if_pos rfl).trans (by show (pp + cN (gT bs len) pp, _) = _; rw [if_pos (by rw [ke.1]; exact Or.inl (by omega)), ke.1])]; exact mset_self _ _ _)) (by rw [show nmV (gT bs len) lo (pp, -1) = v9 from (if_pos rfl).trans ke.2]))
              · refine V_aload_n C dX5_readNumber_87 rfl ?_
                refine V_aload_n C dX5_readNumber_88 rfl ?_
                refine V_get C fg_X5_19 dX5_readNumber_89 (by repeat (first | with_reducible assumption | with_reducible exact mset_self _ _ _ | refine (mset_ne (by omega)).trans ?_)) (by (try simp only [mset_1]); omega) (by rfl) ?_
                refine V_callV (fr := 1) (lo := 21) (mc := 0) (ms := 0) (As := [_]) C yvX5_isDigit w_310 dX5_readNumber_92 rfl rfl (by repeat (first | with_reducible assumption | with_reducible exact mset_self _ _ _ | refine (mset_ne (by omega)).trans ?_)) (by (try simp only [mset_1]); omega) rfl rfl (Nat.le_of_ble_eq_true rfl) ⟨Nat.le_of_ble_eq_true rfl, Nat.le_of_ble_eq_true rfl⟩ ⟨Nat.le_of_ble_eq_true rfl, Nat.le_of_ble_eq_true rfl⟩ ?_
                refine ok_X5_isDigit hn9 q0 q1 hl hb (by omega) (fun hd2 => ?_) (fun hd2 => ?_)
                · refine V_ifeq1 C dX5_readNumber_95 (tgt := 109) (by decide) ?_
                  refine V_aload_n C dX5_readNumber_98 rfl ?_
                  refine V_aload_n C dX5_readNumber_99 rfl ?_
                  refine V_get C fg_X5_19 dX5_readNumber_100 (by repeat (first | with_reducible assumption | with_reducible exact mset_self _ _ _ | refine (mset_ne (by omega)).trans ?_)) (by (try simp only [mset_1]); omega) (by rfl) ?_
                  refine V_put C fp_X5_22 dX5_readNumber_103 (by repeat (first | with_reducible assumption | with_reducible exact mset_self _ _ _ | refine (mset_ne (by omega)).trans ?_)) (by (try simp only [mset_1]); omega) rfl rfl (by exact Nat.le_of_ble_eq_true rfl) ?_
                  refine V_goto C dX5_readNumber_106 (tgt := 126) (by decide) ?_
                  refine V_iload C dX5_readNumber_126 rfl ?_
                  exact V_iret C hr dX5_readNumber_128 (K_of (hK _ (hi1.ts rfl) (by rw [show nmS (gT bs len) lo h9 (pp, -1) = (pp + k9, pp + k9) from (if_pos rfl).trans (by show (pp + cN (gT bs len) pp, _) = _; rw [if_pos (by rw [ke.1]; exact Or.inr hd2), ke.1])]; exact mset_self _ _ _)) (by rw [show nmV (gT bs len) lo (pp, -1) = v9 from (if_pos rfl).trans ke.2]))
                · refine V_ifeq0 C dX5_readNumber_95 (tgt := 109) (by decide) ?_
                  refine V_iload C dX5_readNumber_109 rfl ?_
                  refine V_iload_n C dX5_readNumber_111 rfl ?_
                  refine V_icmp_lt C dX5_readNumber_112 (tgt := 121) (by decide) (by omega) (by omega) (fun g112 => ?_) (fun g112 => ?_)
                  · refine V_aload_n C dX5_readNumber_121 rfl ?_
                    refine V_iload_n C dX5_readNumber_122 rfl ?_
                    refine V_put C fp_X5_22 dX5_readNumber_123 (by repeat (first | with_reducible assumption | with_reducible exact mset_self _ _ _ | refine (mset_ne (by omega)).trans ?_)) (by (try simp only [mset_1]); omega) rfl rfl (by exact Nat.le_of_ble_eq_true rfl) ?_
                    refine V_iload C dX5_readNumber_126 rfl ?_
                    exact V_iret C hr dX5_readNumber_128 (K_of (hK _ (hi1.ts rfl) (by rw [show nmS (gT bs len) lo h9 (pp, -1) = (pp + k9, pp) from (if_pos rfl).trans (by show (pp + cN (gT bs len) pp, _) = _; rw [if_neg (by rw [ke.1]; intro o; rcases o with o | o; omega; exact hd2 o), if_pos (by show vN (gT bs len) pp < lo ∨ h9 < vN (gT bs len) pp; rw [ke.2]; omega), ke.1])]; exact mset_self _ _ _)) (by rw [show nmV (gT bs len) lo (pp, -1) = v9 from (if_pos rfl).trans ke.2]))
                  · refine V_iload C dX5_readNumber_115 rfl ?_
                    refine V_iload_n C dX5_readNumber_117 rfl ?_
                    refine V_icmp_le C dX5_readNumber_118 (tgt := 126) (by decide) (by omega) (by omega) (fun g118 => ?_) (fun g118 => ?_)
                    · refine V_iload C dX5_readNumber_126 rfl ?_
                      exact V_iret C hr dX5_readNumber_128 (K_of (hK _ hi1 (by rw [show nmS (gT bs len) lo h9 (pp, -1) = (pp + k9, -1) from (if_pos rfl).trans (by show (pp + cN (gT bs len) pp, _) = _; rw [if_neg (by rw [ke.1]; intro o; rcases o with o | o; omega; exact hd2 o), if_neg (by show ¬ (vN (gT bs len) pp < lo ∨ h9 < vN (gT bs len) pp); rw [ke.2]; omega), ke.1])]; exact q0)) (by rw [show nmV (gT bs len) lo (pp, -1) = v9 from (if_pos rfl).trans ke.2]))
                    · refine V_aload_n C dX5_readNumber_121 rfl ?_
                      refine V_iload_n C dX5_readNumber_122 rfl ?_
                      refine V_put C fp_X5_22 dX5_readNumber_123 (by repeat (first | with_reducible assumption | with_reducible exact mset_self _ _ _ | refine (mset_ne (by omega)).trans ?_)) (by (try simp only [mset_1]); omega) rfl rfl (by exact Nat.le_of_ble_eq_true rfl) ?_
                      refine V_iload C dX5_readNumber_126 rfl ?_
                      exact V_iret C hr dX5_readNumber_128 (K_of (hK _ (hi1.ts rfl) (by rw [show nmS (gT bs len) lo h9 (pp, -1) = (pp + k9, pp) from (if_pos rfl).trans (by show (pp + cN (gT bs len) pp, _) = _; rw [if_neg (by rw [ke.1]; intro o; rcases o with o | o; omega; exact hd2 o), if_pos (by show vN (gT bs len) pp < lo ∨ h9 < vN (gT bs len) pp; rw [ke.2]; omega), ke.1])]; exact mset_self _ _ _)) (by rw [show nmV (gT bs len) lo (pp, -1) = v9 from (if_pos rfl).trans ke.2]))
            · exact absurd rfl g74
          · refine V_aload_n C dX5_readNumber_26 rfl ?_
            refine V_aload_n C dX5_readNumber_27 rfl ?_
            refine V_get C fg_X5_19 dX5_readNumber_28 (by repeat (first | with_reducible assumption | with_reducible exact mset_self _ _ _ | refine (mset_ne (by omega)).trans ?_)) (by (try simp only [mset_1]); omega) (by rfl) ?_
            have gr := gT_rng (n := len) (i := pp + k9) hb
            refine V_callV (fr := 1) (lo := 21) (mc := 0) (ms := 0) (As := [_]) C yvX5_isDigit w_310 dX5_readNumber_31 rfl rfl (by repeat (first | with_reducible assumption | with_reducible exact mset_self _ _ _ | refine (mset_ne (by omega)).trans ?_)) (by (try simp only [mset_1]); omega) rfl rfl (Nat.le_of_ble_eq_true rfl) ⟨Nat.le_of_ble_eq_true rfl, Nat.le_of_ble_eq_true rfl⟩ ⟨Nat.le_of_ble_eq_true rfl, Nat.le_of_ble_eq_true rfl⟩ ?_
            refine ok_X5_isDigit hn9 q0 q1 hl hb (by omega) (fun hd => ?_) (fun hd => ?_)
            · refine V_ifeq1 C dX5_readNumber_34 (tgt := 69) (by decide) ?_
              refine V_bipush C dX5_readNumber_37 (by decide) ?_
              refine V_iload C dX5_readNumber_39 rfl ?_
              refine V_imul C dX5_readNumber_41 ?_
              refine V_aload_n C dX5_readNumber_42 rfl ?_
              refine V_aload_n C dX5_readNumber_43 rfl ?_
              refine V_get C fg_X5_19 dX5_readNumber_44 (by repeat (first | with_reducible assumption | with_reducible exact mset_self _ _ _ | refine (mset_ne (by omega)).trans ?_)) (by (try simp only [mset_1]); omega) (by rfl) ?_
              refine V_callV (fr := 0) (lo := 0) (mc := 0) (ms := 0) (As := [_]) C yvX5_signAt w_314 dX5_readNumber_47 rfl rfl (by repeat (first | with_reducible assumption | with_reducible exact mset_self _ _ _ | refine (mset_ne (by omega)).trans ?_)) (by (try simp only [mset_1]); omega) rfl rfl (Nat.le_of_ble_eq_true rfl) ⟨Nat.le_of_ble_eq_true rfl, Nat.le_of_ble_eq_true rfl⟩ ⟨Nat.le_of_ble_eq_true rfl, Nat.le_of_ble_eq_true rfl⟩ ?_
              refine ok_X5_signAt hn9 q0 q1 hl (by omega) ?_
              refine V_iadd C dX5_readNumber_50 ?_
              refine V_bipush C dX5_readNumber_51 (by decide) ?_
              refine V_isub C dX5_readNumber_53 ?_
              refine V_istore C dX5_readNumber_54 (by decide) ?_
              refine V_aload_n C dX5_readNumber_56 rfl ?_
              refine V_dup C dX5_readNumber_57 rfl ?_
              refine V_get C fg_X5_19 dX5_readNumber_58 (by repeat (first | with_reducible assumption | with_reducible exact mset_self _ _ _ | refine (mset_ne (by omega)).trans ?_)) (by (try simp only [mset_1]); omega) (by rfl) ?_
              refine V_iconst C dX5_readNumber_61 ?_
              refine V_iadd C dX5_readNumber_62 ?_
              refine V_put C fp_X5_19 dX5_readNumber_63 (by repeat (first | with_reducible assumption | with_reducible exact mset_self _ _ _ | refine (mset_ne (by omega)).trans ?_)) (by (try simp only [mset_1]); omega) rfl rfl (by exact Nat.le_of_ble_eq_true rfl) ?_
              refine V_goto C dX5_readNumber_66 (tgt := 8) (by decide) ?_
              refine V_lv [(0, .ref (z + t)), (1, iv lo), (2, iv h9), (3, iv pp), (4, iv (10 * v9 + gT bs len (pp + k9) - 48))] (List.forall_mem_cons.mpr ⟨(by first | rfl | exact congrArg (fun t => some (iv t)) (by omega)), (List.forall_mem_cons.mpr ⟨(by first | rfl | exact congrArg (fun t => some (iv t)) (by omega)), (List.forall_mem_cons.mpr ⟨(by first | rfl | exact congrArg (fun t => some (iv t)) (by omega)), (List.forall_mem_cons.mpr ⟨(by first | rfl | exact congrArg (fun t => some (iv t)) (by omega)), (List.forall_mem_cons.mpr ⟨(by first | rfl | exact congrArg (fun t => some (iv t)) (by omega)), (fun _ h => nomatch h)⟩)⟩)⟩)⟩)⟩) ?_
              exact ih (k9 + 1) _ _ (by omega) (hi1.ts rfl) ((mset_self _ _ _).trans (by rw [show pp + (k9 + 1) = pp + k9 + 1 by omega]; rfl)) (kN_step hi3 hd (by omega)) (by omega)
            · refine V_ifeq0 C dX5_readNumber_34 (tgt := 69) (by decide) ?_
              have ke := kN_end hi3 (fun _ => hd)
              refine V_aload_n C dX5_readNumber_69 rfl ?_
              refine V_get C fg_X5_22 dX5_readNumber_70 (by repeat (first | with_reducible assumption | with_reducible exact mset_self _ _ _ | refine (mset_ne (by omega)).trans ?_)) (by (try simp only [mset_1]); omega) (by rfl) ?_
              refine V_iconst C dX5_readNumber_73 ?_
              refine V_icmp_eq C dX5_readNumber_74 (tgt := 79) (by decide) (by omega) (by omega) (fun g74 => ?_) (fun g74 => ?_)
              · refine V_aload_n C dX5_readNumber_79 rfl ?_
                refine V_get C fg_X5_19 dX5_readNumber_80 (by repeat (first | with_reducible assumption | with_reducible exact mset_self _ _ _ | refine (mset_ne (by omega)).trans ?_)) (by (try simp only [mset_1]); omega) (by rfl) ?_
                refine V_iload_n C dX5_readNumber_83 rfl ?_
                refine V_icmp_eq C dX5_readNumber_84 (tgt := 98) (by decide) (by omega) (by omega) (fun g84 => ?_) (fun g84 => ?_)
                · refine V_aload_n C dX5_readNumber_98 rfl ?_
                  refine V_aload_n C dX5_readNumber_99 rfl ?_
                  refine V_get C fg_X5_19 dX5_readNumber_100 (by repeat (first | with_reducible assumption | with_reducible exact mset_self _ _ _ | refine (mset_ne (by omega)).trans ?_)) (by (try simp only [mset_1]); omega) (by rfl) ?_
                  refine V_put C fp_X5_22 dX5_readNumber_103 (by repeat (first | with_reducible assumption | with_reducible exact mset_self _ _ _ | refine (mset_ne (by omega)).trans ?_)) (by (try simp only [mset_1]); omega) rfl rfl (by exact Nat.le_of_ble_eq_true rfl) ?_
                  refine V_goto C dX5_readNumber_106 (tgt := 126) (by decide) ?_
                  refine V_iload C dX5_readNumber_126 rfl ?_
                  exact V_iret C hr dX5_readNumber_128 (K_of (hK _ (hi1.ts rfl) (by rw [show nmS (gT bs len) lo h9 (pp, -1) = (pp + k9, pp + k9) from (if_pos rfl).trans (by show (pp + cN (gT bs len) pp, _) = _; rw [if_pos (by rw [ke.1]; exact Or.inl (by omega)), ke.1])]; exact mset_self _ _ _)) (by rw [show nmV (gT bs len) lo (pp, -1) = v9 from (if_pos rfl).trans ke.2]))
                · refine V_aload_n C dX5_readNumber_87 rfl ?_
                  refine V_aload_n C dX5_readNumber_88 rfl ?_
                  refine V_get C fg_X5_19 dX5_readNumber_89 (by repeat (first | with_reducible assumption | with_reducible exact mset_self _ _ _ | refine (mset_ne (by omega)).trans ?_)) (by (try simp only [mset_1]); omega) (by rfl) ?_
                  refine V_callV (fr := 1) (lo := 21) (mc := 0) (ms := 0) (As := [_]) C yvX5_isDigit w_310 dX5_readNumber_92 rfl rfl (by repeat (first | with_reducible assumption | with_reducible exact mset_self _ _ _ | refine (mset_ne (by omega)).trans ?_)) (by (try simp only [mset_1]); omega) rfl rfl (Nat.le_of_ble_eq_true rfl) ⟨Nat.le_of_ble_eq_true rfl, Nat.le_of_ble_eq_true rfl⟩ ⟨Nat.le_of_ble_eq_true rfl, Nat.le_of_ble_eq_true rfl⟩ ?_
                  refine ok_X5_isDigit hn9 q0 q1 hl hb (by omega) (fun hd2 => ?_) (fun hd2 => ?_)
                  · refine V_ifeq1 C dX5_readNumber_95 (tgt := 109) (by decide) ?_
                    refine V_aload_n C dX5_readNumber_98 rfl ?_
                    refine V_aload_n C dX5_readNumber_99 rfl ?_
                    refine V_get C fg_X5_19 dX5_readNumber_100 (by repeat (first | with_reducible assumption | with_reducible exact mset_self _ _ _ | refine (mset_ne (by omega)).trans ?_)) (by (try simp only [mset_1]); omega) (by rfl) ?_
                    refine V_put C fp_X5_22 dX5_readNumber_103 (by repeat (first | with_reducible assumption | with_reducible exact mset_self _ _ _ | refine (mset_ne (by omega)).trans ?_)) (by (try simp only [mset_1]); omega) rfl rfl (by exact Nat.le_of_ble_eq_true rfl) ?_
                    refine V_goto C dX5_readNumber_106 (tgt := 126) (by decide) ?_
                    refine V_iload C dX5_readNumber_126 rfl ?_
                    exact V_iret C hr dX5_readNumber_128 (K_of (hK _ (hi1.ts rfl) (by rw [show nmS (gT bs len) lo h9 (pp, -1) = (pp + k9, pp + k9) from (if_pos rfl).trans (by show (pp + cN (gT bs len) pp, _) = _; rw [if_pos (by rw [ke.1]; exact Or.inr hd2), ke.1])]; exact mset_self _ _ _)) (by rw [show nmV (gT bs len) lo (pp, -1) = v9 from (if_pos rfl).trans ke.2]))
                  · refine V_ifeq0 C dX5_readNumber_95 (tgt := 109) (by decide) ?_
                    refine V_iload C dX5_readNumber_109 rfl ?_
                    refine V_iload_n C dX5_readNumber_111 rfl ?_
                    refine V_icmp_lt C dX5_readNumber_112 (tgt := 121) (by decide) (by omega) (by omega) (fun g112 => ?_) (fun g112 => ?_)
                    · refine V_aload_n C dX5_readNumber_121 rfl ?_
                      refine V_iload_n C dX5_readNumber_122 rfl ?_
                      refine V_put C fp_X5_22 dX5_readNumber_123 (by repeat (first | with_reducible assumption | with_reducible exact mset_self _ _ _ | refine (mset_ne (by omega)).trans ?_)) (by (try simp only [mset_1]); omega) rfl rfl (by exact Nat.le_of_ble_eq_true rfl) ?_
                      refine V_iload C dX5_readNumber_126 rfl ?_
                      exact V_iret C hr dX5_readNumber_128 (K_of (hK _ (hi1.ts rfl) (by rw [show nmS (gT bs len) lo h9 (pp, -1) = (pp + k9, pp) from (if_pos rfl).trans (by show (pp + cN (gT bs len) pp, _) = _; rw [if_neg (by rw [ke.1]; intro o; rcases o with o | o; omega; exact hd2 o), if_pos (by show vN (gT bs len) pp < lo ∨ h9 < vN (gT bs len) pp; rw [ke.2]; omega), ke.1])]; exact mset_self _ _ _)) (by rw [show nmV (gT bs len) lo (pp, -1) = v9 from (if_pos rfl).trans ke.2]))
                    · refine V_iload C dX5_readNumber_115 rfl ?_
                      refine V_iload_n C dX5_readNumber_117 rfl ?_
                      refine V_icmp_le C dX5_readNumber_118 (tgt := 126) (by decide) (by omega) (by omega) (fun g118 => ?_) (fun g118 => ?_)
                      · refine V_iload C dX5_readNumber_126 rfl ?_
                        exact V_iret C hr dX5_readNumber_128 (K_of (hK _ hi1 (by rw [show nmS (gT bs len) lo h9 (pp, -1) = (pp + k9, -1) from (if_pos rfl).trans (by show (pp + cN (gT bs len) pp, _) = _; rw [if_neg (by rw [ke.1]; intro o; rcases o with o | o; omega; exact hd2 o), if_neg (by show ¬ (vN (gT bs len) pp < lo ∨ h9 < vN (gT bs len) pp); rw [ke.2]; omega), ke.1])]; exact q0)) (by rw [show nmV (gT bs len) lo (pp, -1) = v9 from (if_pos rfl).trans ke.2]))
                      · refine V_aload_n C dX5_readNumber_121 rfl ?_
                        refine V_iload_n C dX5_readNumber_122 rfl ?_
                        refine V_put C fp_X5_22 dX5_readNumber_123 (by repeat (first | with_reducible assumption | with_reducible exact mset_self _ _ _ | refine (mset_ne (by omega)).trans ?_)) (by (try simp only [mset_1]); omega) rfl rfl (by exact Nat.le_of_ble_eq_true rfl) ?_
                        refine V_iload C dX5_readNumber_126 rfl ?_
                        exact V_iret C hr dX5_readNumber_128 (K_of (hK _ (hi1.ts rfl) (by rw [show nmS (gT bs len) lo h9 (pp, -1) = (pp + k9, pp) from (if_pos rfl).trans (by show (pp + cN (gT bs len) pp, _) = _; rw [if_neg (by rw [ke.1]; intro o; rcases o with o | o; omega; exact hd2 o), if_pos (by show vN (gT bs len) pp < lo ∨ h9 < vN (gT bs len) pp; rw [ke.2]; omega), ke.1])]; exact mset_self _ _ _)) (by rw [show nmV (gT bs len) lo (pp, -1) = v9 from (if_pos rfl).trans ke.2]))
              · exact absurd rfl g74
    refine V_lv [(0, .ref (z + t)), (1, iv lo), (2, iv h9), (3, iv pp), (4, iv (0))] (List.forall_mem_cons.mpr ⟨(by first | rfl | exact congrArg (fun t => some (iv t)) (by omega)), (List.forall_mem_cons.mpr ⟨(by first | rfl | exact congrArg (fun t => some (iv t)) (by omega)), (List.forall_mem_cons.mpr ⟨(by first | rfl | exact congrArg (fun t => some (iv t)) (by omega)), (List.forall_mem_cons.mpr ⟨(by first | rfl | exact congrArg (fun t => some (iv t)) (by omega)), (List.forall_mem_cons.mpr ⟨(by first | rfl | exact congrArg (fun t => some (iv t)) (by omega)), (fun _ h => nomatch h)⟩)⟩)⟩)⟩)⟩) ?_
    exact loop 3 0 0 M (by omega) (Sm.rf _ _) (m0.trans (by rw [show pp + 0 = pp by omega])) (Or.inl ⟨rfl, rfl⟩) (by omega)

theorem ok_X5_readSign {l : Launch} {D : va_G} {cy : Nat → ClassId} {z : Nat} {M : Mm} {K : Option Value → Mm → Prop} {t : Nat} (hn : t + 4 ≤ M.1) {len nn : Int} {q9 : Int × Int} {bs : Nat → Int} (m0 : M.2 t = oX 4 [.ref (z + (t + 1)), iv len, iv (q9).1, iv (q9).2, iv nn, .ref (z + (t + 2)), .ref (z + (t + 3))]) (m1 : M.2 (t + 1) = aB cy 100 bs) (hl : 0 ≤ len ∧ len ≤ 100) (hb : ∀ j, 0 ≤ bs j ∧ bs j ≤ 127) (hp : 0 ≤ q9.1 ∧ q9.1 ≤ 100) (he : -1 ≤ q9.2 ∧ q9.2 ≤ 100) {k : Int} (hk : 0 ≤ k ∧ k ≤ 127) (hK : ∀ M', Sm M M' (fun j => j = t) → M'.2 t = oX 4 [.ref (z + (t + 1)), iv len, iv (sgS (gT bs len) k q9).1, iv (sgS (gT bs len) k q9).2, iv nn, .ref (z + (t + 2)), .ref (z + (t + 3))] → K none M') :
    MT l D cy z false yX5_readSign (wsy yX5_readSign cX5_readSign 2 none) 1 21 0 0 M [.ref (z + t), iv k] K := ok_X5_readSign0 hn m0 m1 hl hb hp he hk hK
theorem ok_X5_readSmall {l : Launch} {D : va_G} {cy : Nat → ClassId} {z : Nat} {M : Mm} {K : Option Value → Mm → Prop} {t : Nat} (hn : t + 4 ≤ M.1) {len nn : Int} {q9 : Int × Int} {bs : Nat → Int} (m0 : M.2 t = oX 4 [.ref (z + (t + 1)), iv len, iv (q9).1, iv (q9).2, iv nn, .ref (z + (t + 2)), .ref (z + (t + 3))]) (m1 : M.2 (t + 1) = aB cy 100 bs) (hl : 0 ≤ len ∧ len ≤ 100) (hb : ∀ j, 0 ≤ bs j ∧ bs j ≤ 127) (hp : 0 ≤ q9.1 ∧ q9.1 ≤ 100) (he : -1 ≤ q9.2 ∧ q9.2 ≤ 100)  (hK : ∀ M', Sm M M' (fun j => j = t) → M'.2 t = oX 4 [.ref (z + (t + 1)), iv len, iv (smS (gT bs len) q9).1, iv (smS (gT bs len) q9).2, iv nn, .ref (z + (t + 2)), .ref (z + (t + 3))] → K (some (iv (smV (gT bs len) q9))) M') :
    MT l D cy z false yX5_readSmall (wsy yX5_readSmall cX5_readSmall 1 (some .boolean)) 1 21 0 0 M [.ref (z + t)] K := ok_X5_readSmall0 hn m0 m1 hl hb hp he  hK
theorem ok_X5_readNumber {l : Launch} {D : va_G} {cy : Nat → ClassId} {z : Nat} {M : Mm} {K : Option Value → Mm → Prop} {t : Nat} (hn : t + 4 ≤ M.1) {len nn : Int} {q9 : Int × Int} {bs : Nat → Int} (m0 : M.2 t = oX 4 [.ref (z + (t + 1)), iv len, iv (q9).1, iv (q9).2, iv nn, .ref (z + (t + 2)), .ref (z + (t + 3))]) (m1 : M.2 (t + 1) = aB cy 100 bs) (hl : 0 ≤ len ∧ len ≤ 100) (hb : ∀ j, 0 ≤ bs j ∧ bs j ≤ 127) (hp : 0 ≤ q9.1 ∧ q9.1 ≤ 100) (he : -1 ≤ q9.2 ∧ q9.2 ≤ 100) {lo h9 : Int} (hlo : 0 ≤ lo ∧ lo ≤ 99) (hh : 0 ≤ h9 ∧ h9 ≤ 99) (hK : ∀ M', Sm M M' (fun j => j = t) → M'.2 t = oX 4 [.ref (z + (t + 1)), iv len, iv (nmS (gT bs len) lo h9 q9).1, iv (nmS (gT bs len) lo h9 q9).2, iv nn, .ref (z + (t + 2)), .ref (z + (t + 3))] → K (some (iv (nmV (gT bs len) lo q9))) M') :
    MT l D cy z false yX5_readNumber (wsy yX5_readNumber cX5_readNumber 5 (some .int)) 2 42 0 0 M [.ref (z + t), iv lo, iv h9] K := ok_X5_readNumber0 hn m0 m1 hl hb hp he hlo hh hK
set_option maxHeartbeats 400000 in
set_option maxRecDepth 4000 in
theorem ok_X5_readRight {l : Launch} {D : va_G} {cy : Nat → ClassId} {z : Nat} {M : Mm} {K : Option Value → Mm → Prop} {t : Nat} (hn : t + 4 ≤ M.1) {len : Int} {bs fl sm : Nat → Int} {pp er : Int} {nn : Nat} (m0 : M.2 t = oX 4 [.ref (z + (t + 1)), iv len, iv (pp), iv (er), iv ((nn : Int)), .ref (z + (t + 2)), .ref (z + (t + 3))]) (m1 : M.2 (t + 1) = aB cy 100 bs) (m2 : M.2 (t + 2) = aI cy 10 fl) (m3 : M.2 (t + 3) = aZ cy 10 sm) (hl : 0 ≤ len ∧ len ≤ 100) (hb : ∀ j, 0 ≤ bs j ∧ bs j ≤ 127) (h10 : nn ≤ 10) (i0 : inR len (pp, er)) (hK : ∀ M', Sm M M' (fun j => t ≤ j ∧ j < t + 4) → M'.2 t = oX 4 [.ref (z + (t + 1)), iv len, iv ((rrS (gT bs len) ((pp, er), nn, fl, sm)).1.1), iv ((rrS (gT bs len) ((pp, er), nn, fl, sm)).1.2), iv (((rrS (gT bs len) ((pp, er), nn, fl, sm)).2.1 : Int)), .ref (z + (t + 2)), .ref (z + (t + 3))] → M'.2 (t + 1) = aB cy 100 bs → M'.2 (t + 2) = aI cy 10 (rrS (gT bs len) ((pp, er), nn, fl, sm)).2.2.1 → M'.2 (t + 3) = aZ cy 10 (rrS (gT bs len) ((pp, er), nn, fl, sm)).2.2.2 → K none M') :
    MT l D cy z false yX5_readRight (wsy yX5_readRight cX5_readRight 5 none) 3 66 0 0 M [.ref (z + t)] K := by
  refine MT_of (by decide) w_305 (Nat.le_of_ble_eq_true rfl) ?_
  intro p e s m args below meth c C hr hx0
  have p0 := i0.1
  have p1 := i0.2.1
  have p2 := i0.2.2.1
  have p3 := i0.2.2.2
  dsimp only at p0 p1 p2 p3
  refine V_aload_n C dX5_readRight_0 rfl ?_
  refine V_get C fg_X5_25 dX5_readRight_1 (by repeat (first | with_reducible assumption | with_reducible exact mset_self _ _ _ | refine (mset_ne (by omega)).trans ?_)) (by (try simp only [mset_1]); omega) (by rfl) ?_
  refine V_if_lt C dX5_readRight_4 (tgt := 31) (by decide) (by omega) (fun g4 => ?_) (fun g4 => ?_)
  · exact absurd g4 (by omega)
  · refine V_aload_n C dX5_readRight_7 rfl ?_
    refine V_get C fg_X5_25 dX5_readRight_8 (by repeat (first | with_reducible assumption | with_reducible exact mset_self _ _ _ | refine (mset_ne (by omega)).trans ?_)) (by (try simp only [mset_1]); omega) (by rfl) ?_
    refine V_aload_n C dX5_readRight_11 rfl ?_
    refine V_get C fg_X5_28 dX5_readRight_12 (by repeat (first | with_reducible assumption | with_reducible exact mset_self _ _ _ | refine (mset_ne (by omega)).trans ?_)) (by (try simp only [mset_1]); omega) (by rfl) ?_
    refine V_alenI C dX5_readRight_15 (by repeat (first | with_reducible assumption | with_reducible exact mset_self _ _ _ | refine (mset_ne (by omega)).trans ?_)) (by (try simp only [mset_1]); omega) ?_
    refine V_icmp_ge C dX5_readRight_16 (tgt := 31) (by decide) (by omega) (by omega) (fun g16 => ?_) (fun g16 => ?_)
    · refine V_aload_n C dX5_readRight_31 rfl ?_
      refine V_aload_n C dX5_readRight_32 rfl ?_
      refine V_get C fg_X5_19 dX5_readRight_33 (by repeat (first | with_reducible assumption | with_reducible exact mset_self _ _ _ | refine (mset_ne (by omega)).trans ?_)) (by (try simp only [mset_1]); omega) (by rfl) ?_
      refine V_put C fp_X5_22 dX5_readRight_36 (by repeat (first | with_reducible assumption | with_reducible exact mset_self _ _ _ | refine (mset_ne (by omega)).trans ?_)) (by (try simp only [mset_1]); omega) rfl rfl (by exact Nat.le_of_ble_eq_true rfl) ?_
      exact V_vret C hr dX5_readRight_39 (hK _ (Sm.set ⟨by omega, by omega⟩) (by rw [show rrS (gT bs len) ((pp, er), nn, fl, sm) = ((pp, pp), nn, fl, sm) from if_neg (by show ¬ nn < 10; omega)]; exact mset_self _ _ _) ((mset_ne (by omega)).trans m1) (by rw [show rrS (gT bs len) ((pp, er), nn, fl, sm) = ((pp, pp), nn, fl, sm) from if_neg (by show ¬ nn < 10; omega)]; exact (mset_ne (by omega)).trans m2) (by rw [show rrS (gT bs len) ((pp, er), nn, fl, sm) = ((pp, pp), nn, fl, sm) from if_neg (by show ¬ nn < 10; omega)]; exact (mset_ne (by omega)).trans m3))
    · refine V_aload_n C dX5_readRight_19 rfl ?_
      refine V_get C fg_X5_25 dX5_readRight_20 (by repeat (first | with_reducible assumption | with_reducible exact mset_self _ _ _ | refine (mset_ne (by omega)).trans ?_)) (by (try simp only [mset_1]); omega) (by rfl) ?_
      refine V_aload_n C dX5_readRight_23 rfl ?_
      refine V_get C fg_X5_32 dX5_readRight_24 (by repeat (first | with_reducible assumption | with_reducible exact mset_self _ _ _ | refine (mset_ne (by omega)).trans ?_)) (by (try simp only [mset_1]); omega) (by rfl) ?_
      refine V_alenZ C dX5_readRight_27 (by repeat (first | with_reducible assumption | with_reducible exact mset_self _ _ _ | refine (mset_ne (by omega)).trans ?_)) (by (try simp only [mset_1]); omega) ?_
      refine V_icmp_lt C dX5_readRight_28 (tgt := 40) (by decide) (by omega) (by omega) (fun g28 => ?_) (fun g28 => ?_)
      · refine V_aload_n C dX5_readRight_40 rfl ?_
        refine V_iconst C dX5_readRight_41 ?_
        refine V_bipush C dX5_readRight_42 (by decide) ?_
        refine V_callV (fr := 2) (lo := 42) (mc := 0) (ms := 0) (As := [_, _]) C yvX5_readNumber w_306 dX5_readRight_44 rfl rfl (by repeat (first | with_reducible assumption | with_reducible exact mset_self _ _ _ | refine (mset_ne (by omega)).trans ?_)) (by (try simp only [mset_1]); omega) rfl rfl (Nat.le_of_ble_eq_true rfl) ⟨Nat.le_of_ble_eq_true rfl, Nat.le_of_ble_eq_true rfl⟩ ⟨Nat.le_of_ble_eq_true rfl, Nat.le_of_ble_eq_true rfl⟩ ?_
        refine ok_X5_readNumber0 hn m0 m1 hl hb ⟨i0.1, by have := i0.2.1; omega⟩ ⟨i0.2.2.1, by have := i0.2.2.2; omega⟩ (by omega) (by omega) (fun M1 s1 x1 => ?_)
        have u1 : M1.2 (t + 1) = aB cy 100 bs := (s1.2 _ (by simp)).trans m1
        have n1 : t + 4 ≤ M1.1 := by rw [s1.1]; exact hn
        have i1 : inR len (nmS (gT bs len) 0 49 (pp, er)) := nmS_in i0
        have x1 : M1.2 t = oX 4 [.ref (z + (t + 1)), iv len, iv (nmS (gT bs len) 0 49 (pp, er)).1, iv (nmS (gT bs len) 0 49 (pp, er)).2, iv (nn : Int), .ref (z + (t + 2)), .ref (z + (t + 3))] := x1
        refine V_istore_n C dX5_readRight_47 (by decide) ?_
        refine V_aload_n C dX5_readRight_48 rfl ?_
        refine V_bipush C dX5_readRight_49 (by decide) ?_
        refine V_callV (fr := 1) (lo := 21) (mc := 0) (ms := 0) (As := [_]) C yvX5_readSign w_318 dX5_readRight_51 rfl rfl (by repeat (first | with_reducible assumption | with_reducible exact mset_self _ _ _ | refine (mset_ne (by omega)).trans ?_)) (by (try simp only [mset_1]); omega) rfl rfl (Nat.le_of_ble_eq_true rfl) ⟨Nat.le_of_ble_eq_true rfl, Nat.le_of_ble_eq_true rfl⟩ ⟨Nat.le_of_ble_eq_true rfl, Nat.le_of_ble_eq_true rfl⟩ ?_
        refine ok_X5_readSign n1 x1 u1 hl hb ⟨i1.1, by have := i1.2.1; omega⟩ ⟨i1.2.2.1, by have := i1.2.2.2; omega⟩ (by omega) (fun M2 s2 x2 => ?_)
        have u2 : M2.2 (t + 1) = aB cy 100 bs := (s2.2 _ (by simp)).trans u1
        have n2 : t + 4 ≤ M2.1 := by rw [s2.1]; exact n1
        have i2 : inR len (r1 (gT bs len) (pp, er)) := r1_in i0
        have x2 : M2.2 t = oX 4 [.ref (z + (t + 1)), iv len, iv (r1 (gT bs len) (pp, er)).1, iv (r1 (gT bs len) (pp, er)).2, iv (nn : Int), .ref (z + (t + 2)), .ref (z + (t + 3))] := x2
        refine V_aload_n C dX5_readRight_54 rfl ?_
        refine V_iconst C dX5_readRight_55 ?_
        refine V_bipush C dX5_readRight_56 (by decide) ?_
        refine V_callV (fr := 2) (lo := 42) (mc := 0) (ms := 0) (As := [_, _]) C yvX5_readNumber w_306 dX5_readRight_58 rfl rfl (by repeat (first | with_reducible assumption | with_reducible exact mset_self _ _ _ | refine (mset_ne (by omega)).trans ?_)) (by (try simp only [mset_1]); omega) rfl rfl (Nat.le_of_ble_eq_true rfl) ⟨Nat.le_of_ble_eq_true rfl, Nat.le_of_ble_eq_true rfl⟩ ⟨Nat.le_of_ble_eq_true rfl, Nat.le_of_ble_eq_true rfl⟩ ?_
        refine ok_X5_readNumber n2 x2 u2 hl hb ⟨i2.1, by have := i2.2.1; omega⟩ ⟨i2.2.2.1, by have := i2.2.2.2; omega⟩ (by omega) (by omega) (fun M3 s3 x3 => ?_)
        have u3 : M3.2 (t + 1) = aB cy 100 bs := (s3.2 _ (by simp)).trans u2
        have n3 : t + 4 ≤ M3.1 := by rw [s3.1]; exact n2
        have i3 : inR len (nmS (gT bs len) 1 12 (r1 (gT bs len) (pp, er))) := nmS_in i2
        have x3 : M3.2 t = oX 4 [.ref (z + (t + 1)), iv len, iv (nmS (gT bs len) 1 12 (r1 (gT bs len) (pp, er))).1, iv (nmS (gT bs len) 1 12 (r1 (gT bs len) (pp, er))).2, iv (nn : Int), .ref (z + (t + 2)), .ref (z + (t + 3))] := x3
        refine V_istore_n C dX5_readRight_61 (by decide) ?_
        refine V_aload_n C dX5_readRight_62 rfl ?_
        refine V_bipush C dX5_readRight_63 (by decide) ?_
        refine V_callV (fr := 1) (lo := 21) (mc := 0) (ms := 0) (As := [_]) C yvX5_readSign w_318 dX5_readRight_65 rfl rfl (by repeat (first | with_reducible assumption | with_reducible exact mset_self _ _ _ | refine (mset_ne (by omega)).trans ?_)) (by (try simp only [mset_1]); omega) rfl rfl (Nat.le_of_ble_eq_true rfl) ⟨Nat.le_of_ble_eq_true rfl, Nat.le_of_ble_eq_true rfl⟩ ⟨Nat.le_of_ble_eq_true rfl, Nat.le_of_ble_eq_true rfl⟩ ?_
        refine ok_X5_readSign n3 x3 u3 hl hb ⟨i3.1, by have := i3.2.1; omega⟩ ⟨i3.2.2.1, by have := i3.2.2.2; omega⟩ (by omega) (fun M4 s4 x4 => ?_)
        have u4 : M4.2 (t + 1) = aB cy 100 bs := (s4.2 _ (by simp)).trans u3
        have n4 : t + 4 ≤ M4.1 := by rw [s4.1]; exact n3
        have i4 : inR len (r2 (gT bs len) (pp, er)) := r2_in i0
        have x4 : M4.2 t = oX 4 [.ref (z + (t + 1)), iv len, iv (r2 (gT bs len) (pp, er)).1, iv (r2 (gT bs len) (pp, er)).2, iv (nn : Int), .ref (z + (t + 2)), .ref (z + (t + 3))] := x4
        refine V_aload_n C dX5_readRight_68 rfl ?_
        refine V_iconst C dX5_readRight_69 ?_
        refine V_iload_n C dX5_readRight_70 rfl ?_
        refine V_iload_n C dX5_readRight_71 rfl ?_
        have yr0 := nmV_rng (g := gT bs len) (lo := 0) (s := (pp, er)) (by omega)
        have mr0 := nmV_rng (g := gT bs len) (lo := 1) (s := r1 (gT bs len) (pp, er)) (by omega)
        have lr0 := ml_rng (nmV (gT bs len) 0 (pp, er)) (nmV (gT bs len) 1 (r1 (gT bs len) (pp, er)))
        refine V_callS (fr := 0) (lo := 0) (mc := 0) (ms := 0) (As := [_, _]) C ysX0_monthLength w_322 dX5_readRight_72 rfl rfl (Nat.le_of_ble_eq_true rfl) ⟨Nat.le_of_ble_eq_true rfl, Nat.le_of_ble_eq_true rfl⟩ ⟨Nat.le_of_ble_eq_true rfl, Nat.le_of_ble_eq_true rfl⟩ ?_
        refine ok_X0_monthLength (by omega) (by omega) ?_
        refine V_callV (fr := 2) (lo := 42) (mc := 0) (ms := 0) (As := [_, _]) C yvX5_readNumber w_306 dX5_readRight_75 rfl rfl (by repeat (first | with_reducible assumption | with_reducible exact mset_self _ _ _ | refine (mset_ne (by omega)).trans ?_)) (by (try simp only [mset_1]); omega) rfl rfl (Nat.le_of_ble_eq_true rfl) ⟨Nat.le_of_ble_eq_true rfl, Nat.le_of_ble_eq_true rfl⟩ ⟨Nat.le_of_ble_eq_true rfl, Nat.le_of_ble_eq_true rfl⟩ ?_
        refine ok_X5_readNumber n4 x4 u4 hl hb ⟨i4.1, by have := i4.2.1; omega⟩ ⟨i4.2.2.1, by have := i4.2.2.2; omega⟩ (by omega) (by omega) (fun M5 s5 x5 => ?_)
        have u5 : M5.2 (t + 1) = aB cy 100 bs := (s5.2 _ (by simp)).trans u4
        have n5 : t + 4 ≤ M5.1 := by rw [s5.1]; exact n4
        have i5 : inR len (r3 (gT bs len) (pp, er)) := r3_in i0
        have x5 : M5.2 t = oX 4 [.ref (z + (t + 1)), iv len, iv (r3 (gT bs len) (pp, er)).1, iv (r3 (gT bs len) (pp, er)).2, iv (nn : Int), .ref (z + (t + 2)), .ref (z + (t + 3))] := x5
        refine V_istore_n C dX5_readRight_78 (by decide) ?_
        refine V_aload_n C dX5_readRight_79 rfl ?_
        refine V_callV (fr := 1) (lo := 21) (mc := 0) (ms := 0) (As := []) C yvX5_readSmall w_325 dX5_readRight_80 rfl rfl (by repeat (first | with_reducible assumption | with_reducible exact mset_self _ _ _ | refine (mset_ne (by omega)).trans ?_)) (by (try simp only [mset_1]); omega) rfl rfl (Nat.le_of_ble_eq_true rfl) ⟨Nat.le_of_ble_eq_true rfl, Nat.le_of_ble_eq_true rfl⟩ ⟨Nat.le_of_ble_eq_true rfl, Nat.le_of_ble_eq_true rfl⟩ ?_
        refine ok_X5_readSmall n5 x5 u5 hl hb ⟨i5.1, by have := i5.2.1; omega⟩ ⟨i5.2.2.1, by have := i5.2.2.2; omega⟩ (fun M6 s6 x6 => ?_)
        have u6 : M6.2 (t + 1) = aB cy 100 bs := (s6.2 _ (by simp)).trans u5
        have n6 : t + 4 ≤ M6.1 := by rw [s6.1]; exact n5
        have i6 : inR len (smS (gT bs len) (r3 (gT bs len) (pp, er))) := smS_in i5
        have x6 : M6.2 t = oX 4 [.ref (z + (t + 1)), iv len, iv (smS (gT bs len) (r3 (gT bs len) (pp, er))).1, iv (smS (gT bs len) (r3 (gT bs len) (pp, er))).2, iv (nn : Int), .ref (z + (t + 2)), .ref (z + (t + 3))] := x6
        refine V_istore C dX5_readRight_83 (by decide) ?_
        refine V_aload_n C dX5_readRight_85 rfl ?_
        refine V_bipush C dX5_readRight_86 (by decide) ?_
        refine V_callV (fr := 1) (lo := 21) (mc := 0) (ms := 0) (As := [_]) C yvX5_readSign w_318 dX5_readRight_88 rfl rfl (by repeat (first | with_reducible assumption | with_reducible exact mset_self _ _ _ | refine (mset_ne (by omega)).trans ?_)) (by (try simp only [mset_1]); omega) rfl rfl (Nat.le_of_ble_eq_true rfl) ⟨Nat.le_of_ble_eq_true rfl, Nat.le_of_ble_eq_true rfl⟩ ⟨Nat.le_of_ble_eq_true rfl, Nat.le_of_ble_eq_true rfl⟩ ?_
        refine ok_X5_readSign n6 x6 u6 hl hb ⟨i6.1, by have := i6.2.1; omega⟩ ⟨i6.2.2.1, by have := i6.2.2.2; omega⟩ (by omega) (fun M7 s7 x7 => ?_)
        have u7 : M7.2 (t + 1) = aB cy 100 bs := (s7.2 _ (by simp)).trans u6
        have n7 : t + 4 ≤ M7.1 := by rw [s7.1]; exact n6
        have i7 : inR len (r4 (gT bs len) (pp, er)) := r4_in i0
        have x7 : M7.2 t = oX 4 [.ref (z + (t + 1)), iv len, iv (r4 (gT bs len) (pp, er)).1, iv (r4 (gT bs len) (pp, er)).2, iv (nn : Int), .ref (z + (t + 2)), .ref (z + (t + 3))] := x7
        have v2 : M7.2 (t + 2) = aI cy 10 fl := (s7.2 _ (by simp)).trans ((s6.2 _ (by simp)).trans ((s5.2 _ (by simp)).trans ((s4.2 _ (by simp)).trans ((s3.2 _ (by simp)).trans ((s2.2 _ (by simp)).trans ((s1.2 _ (by simp)).trans m2))))))
        have v3 : M7.2 (t + 3) = aZ cy 10 sm := (s7.2 _ (by simp)).trans ((s6.2 _ (by simp)).trans ((s5.2 _ (by simp)).trans ((s4.2 _ (by simp)).trans ((s3.2 _ (by simp)).trans ((s2.2 _ (by simp)).trans ((s1.2 _ (by simp)).trans m3))))))
        have s8 : Sm M M7 (fun j => t ≤ j ∧ j < t + 4) := ((((((s1.trans s2).trans s3).trans s4).trans s5).trans s6).trans s7).mono (fun j hj => by have o : j = t := hj; subst o; exact ⟨by omega, by omega⟩)
        have e7 : (r4 (gT bs len) (pp, er)).2 = (sgS (gT bs len) 59 (smS (gT bs len) (r3 (gT bs len) (pp, er)))).2 := rfl
        have i7a := i7.2.2.1
        have i7b := i7.2.2.2
        refine V_aload_n C dX5_readRight_91 rfl ?_
        refine V_get C fg_X5_22 dX5_readRight_92 (by repeat (first | with_reducible assumption | with_reducible exact mset_self _ _ _ | refine (mset_ne (by omega)).trans ?_)) (by (try simp only [mset_1]); omega) (by rfl) ?_
        refine V_iconst C dX5_readRight_95 ?_
        refine V_icmp_ne C dX5_readRight_96 (tgt := 135) (by decide) (by omega) (by omega) (fun g96 => ?_) (fun g96 => ?_)
        · exact V_vret C hr dX5_readRight_135 (hK _ s8 (by rw [(show rrS (gT bs len) ((pp, er), nn, fl, sm) = (r4 (gT bs len) (pp, er), nn, fl, sm) from (if_pos (by show nn < 10; omega)).trans (by dsimp only; rw [if_neg g96]))]; exact x7) u7 (by rw [(show rrS (gT bs len) ((pp, er), nn, fl, sm) = (r4 (gT bs len) (pp, er), nn, fl, sm) from (if_pos (by show nn < 10; omega)).trans (by dsimp only; rw [if_neg g96]))]; exact v2) (by rw [(show rrS (gT bs len) ((pp, er), nn, fl, sm) = (r4 (gT bs len) (pp, er), nn, fl, sm) from (if_pos (by show nn < 10; omega)).trans (by dsimp only; rw [if_neg g96]))]; exact v3))
        · have ok := r4_ok i0 g96
          have hd := dayN_49 ok.2.1 ok.2.2.1 ok.2.2.2
          refine V_aload_n C dX5_readRight_99 rfl ?_
          refine V_get C fg_X5_28 dX5_readRight_100 (by repeat (first | with_reducible assumption | with_reducible exact mset_self _ _ _ | refine (mset_ne (by omega)).trans ?_)) (by (try simp only [mset_1]); omega) (by rfl) ?_
          refine V_aload_n C dX5_readRight_103 rfl ?_
          refine V_get C fg_X5_25 dX5_readRight_104 (by repeat (first | with_reducible assumption | with_reducible exact mset_self _ _ _ | refine (mset_ne (by omega)).trans ?_)) (by (try simp only [mset_1]); omega) (by rfl) ?_
          refine V_iload_n C dX5_readRight_107 rfl ?_
          refine V_iload_n C dX5_readRight_108 rfl ?_
          refine V_iload_n C dX5_readRight_109 rfl ?_
          refine V_callS (fr := 1) (lo := 21) (mc := 0) (ms := 0) (As := [_, _, _]) C ysX0_dayOf w_329 dX5_readRight_110 rfl rfl (Nat.le_of_ble_eq_true rfl) ⟨Nat.le_of_ble_eq_true rfl, Nat.le_of_ble_eq_true rfl⟩ ⟨Nat.le_of_ble_eq_true rfl, Nat.le_of_ble_eq_true rfl⟩ ?_
          refine ok_X0_dayOf (by omega) (by omega) (by omega) ?_
          refine V_iast C dX5_readRight_113 (by repeat (first | with_reducible assumption | with_reducible exact mset_self _ _ _ | refine (mset_ne (by omega)).trans ?_)) (by (try simp only [mset_1]); omega) (by omega) (by omega) (by rw [Int.toNat_natCast]) ?_
          refine V_aload_n C dX5_readRight_114 rfl ?_
          refine V_get C fg_X5_32 dX5_readRight_115 (by repeat (first | with_reducible assumption | with_reducible exact mset_self _ _ _ | refine (mset_ne (by omega)).trans ?_)) (by (try simp only [mset_1]); omega) (by rfl) ?_
          refine V_aload_n C dX5_readRight_118 rfl ?_
          refine V_get C fg_X5_25 dX5_readRight_119 (by repeat (first | with_reducible assumption | with_reducible exact mset_self _ _ _ | refine (mset_ne (by omega)).trans ?_)) (by (try simp only [mset_1]); omega) (by rfl) ?_
          refine V_iload C dX5_readRight_122 rfl ?_
          refine V_zastore C dX5_readRight_124 (by repeat (first | with_reducible assumption | with_reducible exact mset_self _ _ _ | refine (mset_ne (by omega)).trans ?_)) (by (try simp only [mset_1]); omega) (by omega) (by omega) smV_01 ?_
          refine V_aload_n C dX5_readRight_125 rfl ?_
          refine V_dup C dX5_readRight_126 rfl ?_
          refine V_get C fg_X5_25 dX5_readRight_127 (by repeat (first | with_reducible assumption | with_reducible exact mset_self _ _ _ | refine (mset_ne (by omega)).trans ?_)) (by (try simp only [mset_1]); omega) (by rfl) ?_
          refine V_iconst C dX5_readRight_130 ?_
          refine V_iadd C dX5_readRight_131 ?_
          refine V_put C fp_X5_25 dX5_readRight_132 (by repeat (first | with_reducible assumption | with_reducible exact mset_self _ _ _ | refine (mset_ne (by omega)).trans ?_)) (by (try simp only [mset_1]); omega) rfl rfl (by exact Nat.le_of_ble_eq_true rfl) ?_
          exact V_vret C hr dX5_readRight_135 (hK _ (((s8.ts ⟨by omega, by omega⟩).ts ⟨by omega, by omega⟩).ts ⟨by omega, by omega⟩) (by rw [(show rrS (gT bs len) ((pp, er), nn, fl, sm) = (r4 (gT bs len) (pp, er), nn + 1, va_up fl nn (rD (gT bs len) (pp, er)), va_up sm nn (smV (gT bs len) (r3 (gT bs len) (pp, er)))) from (if_pos (by show nn < 10; omega)).trans (by dsimp only; rw [if_pos g96]))]; exact mset_self _ _ _) ((mset_ne (by omega)).trans ((mset_ne (by omega)).trans ((mset_ne (by omega)).trans u7))) (by rw [(show rrS (gT bs len) ((pp, er), nn, fl, sm) = (r4 (gT bs len) (pp, er), nn + 1, va_up fl nn (rD (gT bs len) (pp, er)), va_up sm nn (smV (gT bs len) (r3 (gT bs len) (pp, er)))) from (if_pos (by show nn < 10; omega)).trans (by dsimp only; rw [if_pos g96]))]; exact (mset_ne (by omega)).trans ((mset_ne (by omega)).trans (mset_self _ _ _))) (by rw [(show rrS (gT bs len) ((pp, er), nn, fl, sm) = (r4 (gT bs len) (pp, er), nn + 1, va_up fl nn (rD (gT bs len) (pp, er)), va_up sm nn (smV (gT bs len) (r3 (gT bs len) (pp, er)))) from (if_pos (by show nn < 10; omega)).trans (by dsimp only; rw [if_pos g96]))]; exact (mset_ne (by omega)).trans ((mset_self _ _ _).trans (by rw [Int.toNat_natCast]))))
      · refine V_aload_n C dX5_readRight_31 rfl ?_
        refine V_aload_n C dX5_readRight_32 rfl ?_
        refine V_get C fg_X5_19 dX5_readRight_33 (by repeat (first | with_reducible assumption | with_reducible exact mset_self _ _ _ | refine (mset_ne (by omega)).trans ?_)) (by (try simp only [mset_1]); omega) (by rfl) ?_
        refine V_put C fp_X5_22 dX5_readRight_36 (by repeat (first | with_reducible assumption | with_reducible exact mset_self _ _ _ | refine (mset_ne (by omega)).trans ?_)) (by (try simp only [mset_1]); omega) rfl rfl (by exact Nat.le_of_ble_eq_true rfl) ?_
        exact V_vret C hr dX5_readRight_39 (hK _ (Sm.set ⟨by omega, by omega⟩) (by rw [show rrS (gT bs len) ((pp, er), nn, fl, sm) = ((pp, pp), nn, fl, sm) from if_neg (by show ¬ nn < 10; omega)]; exact mset_self _ _ _) ((mset_ne (by omega)).trans m1) (by rw [show rrS (gT bs len) ((pp, er), nn, fl, sm) = ((pp, pp), nn, fl, sm) from if_neg (by show ¬ nn < 10; omega)]; exact (mset_ne (by omega)).trans m2) (by rw [show rrS (gT bs len) ((pp, er), nn, fl, sm) = ((pp, pp), nn, fl, sm) from if_neg (by show ¬ nn < 10; omega)]; exact (mset_ne (by omega)).trans m3))

set_option maxHeartbeats 400000 in
set_option maxRecDepth 4000 in
theorem ok_X5_read {l : Launch} {D : va_G} {cy : Nat → ClassId} {z : Nat} {M : Mm} {K : Option Value → Mm → Prop} {t : Nat} (hn : t + 4 ≤ M.1) {len : Int} {bs fl sm : Nat → Int} {pp er : Int} {nn : Int} (m0 : M.2 t = oX 4 [.ref (z + (t + 1)), iv len, iv (pp), iv (er), iv (nn), .ref (z + (t + 2)), .ref (z + (t + 3))]) (m1 : M.2 (t + 1) = aB cy 100 bs) (m2 : M.2 (t + 2) = aI cy 10 fl) (m3 : M.2 (t + 3) = aZ cy 10 sm) (hl : 0 ≤ len ∧ len ≤ 100) (hb : ∀ j, 0 ≤ bs j ∧ bs j ≤ 127) (hK : ∀ M', Sm M M' (fun j => t ≤ j ∧ j < t + 4) → M'.2 t = oX 4 [.ref (z + (t + 1)), iv len, iv ((rdN (gT bs len) len 11 ((0, -1), 0, fl, sm)).1.1), iv ((rdN (gT bs len) len 11 ((0, -1), 0, fl, sm)).1.2), iv (((rdN (gT bs len) len 11 ((0, -1), 0, fl, sm)).2.1 : Int)), .ref (z + (t + 2)), .ref (z + (t + 3))] → M'.2 (t + 1) = aB cy 100 bs → M'.2 (t + 2) = aI cy 10 (rdN (gT bs len) len 11 ((0, -1), 0, fl, sm)).2.2.1 → M'.2 (t + 3) = aZ cy 10 (rdN (gT bs len) len 11 ((0, -1), 0, fl, sm)).2.2.2 → K (some (iv (rdN (gT bs len) len 11 ((0, -1), 0, fl, sm)).1.2)) M') :
    MT l D cy z false yX5_read (wsy yX5_read cX5_read 2 (some .int)) 4 90 0 0 M [.ref (z + t)] K := by
  refine MT_of (by decide) w_301 (Nat.le_of_ble_eq_true rfl) ?_
  intro p e s m args below meth c C hr hx0
  have loop : ∀ (n : Nat) (q : RS) (k9 : Nat) (M9 : Mm), (k9 ≤ 11) → (Sm M M9 (fun j => t ≤ j ∧ j < t + 4)) → (M9.2 t = oX 4 [.ref (z + (t + 1)), iv len, iv (q.1.1), iv (q.1.2), iv ((q.2.1 : Int)), .ref (z + (t + 2)), .ref (z + (t + 3))]) → (M9.2 (t + 1) = aB cy 100 bs) → (M9.2 (t + 2) = aI cy 10 q.2.2.1) → (M9.2 (t + 3) = aZ cy 10 q.2.2.2) → (RSok len q) → (rdN (gT bs len) len (11 - k9) q = rdN (gT bs len) len 11 ((0, -1), 0, fl, sm)) → 11 - k9 < n → V p l e { frames := 4, cells := 0, slots := 0, locals := 90 } s m args below meth c D z 2 (MQ below (qc_ D z K) args s 0 0 (fun q => z ≤ q)) 0 0 M9 17 [(0, .ref (z + t)), (1, iv ((k9 : Int)))] [] := by
    intro n
    induction n with
    | zero => intro q k9 M9 hi0 hi1 hi2 hi3 hi4 hi5 hi6 hi7 hfu; exact absurd hfu (Nat.not_lt_zero _)
    | succ n ih =>
      intro q k9 M9 hi0 hi1 hi2 hi3 hi4 hi5 hi6 hi7 hfu
      have hn9 : t + 4 ≤ M9.1 := by rw [hi1.1]; exact hn
      have q0 := hi2
      obtain ⟨p0, p1, p2, p3⟩ := hi6.1
      refine V_iload_n C dX5_read_17 rfl ?_
      refine V_bipush C dX5_read_18 (by decide) ?_
      refine V_icmp_gt C dX5_read_20 (tgt := 52) (by decide) (by omega) (by omega) (fun g20 => ?_) (fun g20 => ?_)
      · refine V_aload_n C dX5_read_52 rfl ?_
        refine V_get C fg_X5_22 dX5_read_53 (by repeat (first | with_reducible assumption | with_reducible exact mset_self _ _ _ | refine (mset_ne (by omega)).trans ?_)) (by (try simp only [mset_1]); omega) (by rfl) ?_
        exact V_iret C hr dX5_read_56 (K_of (hK _ hi1 (by rw [← hi7, show 11 - k9 = 0 by omega, rdN]; exact hi2) (hi3) (by rw [← hi7, show 11 - k9 = 0 by omega, rdN]; exact hi4) (by rw [← hi7, show 11 - k9 = 0 by omega, rdN]; exact hi5)) (by rw [← hi7, show 11 - k9 = 0 by omega, rdN]))
      · refine V_aload_n C dX5_read_23 rfl ?_
        refine V_get C fg_X5_19 dX5_read_24 (by repeat (first | with_reducible assumption | with_reducible exact mset_self _ _ _ | refine (mset_ne (by omega)).trans ?_)) (by (try simp only [mset_1]); omega) (by rfl) ?_
        refine V_aload_n C dX5_read_27 rfl ?_
        refine V_get C fg_X5_15 dX5_read_28 (by repeat (first | with_reducible assumption | with_reducible exact mset_self _ _ _ | refine (mset_ne (by omega)).trans ?_)) (by (try simp only [mset_1]); omega) (by rfl) ?_
        refine V_icmp_ge C dX5_read_31 (tgt := 52) (by decide) (by omega) (by omega) (fun g31 => ?_) (fun g31 => ?_)
        · refine V_aload_n C dX5_read_52 rfl ?_
          refine V_get C fg_X5_22 dX5_read_53 (by repeat (first | with_reducible assumption | with_reducible exact mset_self _ _ _ | refine (mset_ne (by omega)).trans ?_)) (by (try simp only [mset_1]); omega) (by rfl) ?_
          exact V_iret C hr dX5_read_56 (K_of (hK _ hi1 (by rw [← hi7, rdN_stop (by omega)]; exact hi2) (hi3) (by rw [← hi7, rdN_stop (by omega)]; exact hi4) (by rw [← hi7, rdN_stop (by omega)]; exact hi5)) (by rw [← hi7, rdN_stop (by omega)]))
        · refine V_aload_n C dX5_read_34 rfl ?_
          refine V_get C fg_X5_22 dX5_read_35 (by repeat (first | with_reducible assumption | with_reducible exact mset_self _ _ _ | refine (mset_ne (by omega)).trans ?_)) (by (try simp only [mset_1]); omega) (by rfl) ?_
          refine V_iconst C dX5_read_38 ?_
          refine V_icmp_ne C dX5_read_39 (tgt := 52) (by decide) (by omega) (by omega) (fun g39 => ?_) (fun g39 => ?_)
          · refine V_aload_n C dX5_read_52 rfl ?_
            refine V_get C fg_X5_22 dX5_read_53 (by repeat (first | with_reducible assumption | with_reducible exact mset_self _ _ _ | refine (mset_ne (by omega)).trans ?_)) (by (try simp only [mset_1]); omega) (by rfl) ?_
            exact V_iret C hr dX5_read_56 (K_of (hK _ hi1 (by rw [← hi7, rdN_stop (by omega)]; exact hi2) (hi3) (by rw [← hi7, rdN_stop (by omega)]; exact hi4) (by rw [← hi7, rdN_stop (by omega)]; exact hi5)) (by rw [← hi7, rdN_stop (by omega)]))
          · refine V_aload_n C dX5_read_42 rfl ?_
            refine V_callV (fr := 3) (lo := 66) (mc := 0) (ms := 0) (As := []) C yvX5_readRight w_302 dX5_read_43 rfl rfl (by repeat (first | with_reducible assumption | with_reducible exact mset_self _ _ _ | refine (mset_ne (by omega)).trans ?_)) (by (try simp only [mset_1]); omega) rfl rfl (Nat.le_of_ble_eq_true rfl) ⟨Nat.le_of_ble_eq_true rfl, Nat.le_of_ble_eq_true rfl⟩ ⟨Nat.le_of_ble_eq_true rfl, Nat.le_of_ble_eq_true rfl⟩ ?_
            refine ok_X5_readRight hn9 q0 hi3 hi4 hi5 hl hb hi6.2.1 hi6.1 (fun M3 s3 x3 y1 y2 y3 => ?_)
            refine V_iinc C dX5_read_46 rfl (by decide) ?_
            refine V_goto C dX5_read_49 (tgt := 17) (by decide) ?_
            refine V_lv [(0, .ref (z + t)), (1, iv (((k9 + 1 : Nat) : Int)))] (List.forall_mem_cons.mpr ⟨(by first | rfl | exact congrArg (fun t => some (iv t)) (by push_cast; omega)), (List.forall_mem_cons.mpr ⟨(by first | rfl | exact congrArg (fun t => some (iv t)) (by push_cast; omega)), (fun _ h => nomatch h)⟩)⟩) ?_
            exact ih (rrS (gT bs len) q) (k9 + 1) M3 (by omega) (hi1.trans s3) x3 y1 y2 y3 (rrS_ok hi6 hi6.1.2.1) (by rw [← hi7, show 11 - k9 = (11 - (k9 + 1)) + 1 by omega, rdN, if_pos ⟨by omega, by omega⟩]) (by omega)
  refine V_aload_n C dX5_read_0 rfl ?_
  refine V_iconst C dX5_read_1 ?_
  refine V_put C fp_X5_19 dX5_read_2 (by repeat (first | with_reducible assumption | with_reducible exact mset_self _ _ _ | refine (mset_ne (by omega)).trans ?_)) (by (try simp only [mset_1]); omega) rfl rfl (by exact Nat.le_of_ble_eq_true rfl) ?_
  refine V_aload_n C dX5_read_5 rfl ?_
  refine V_iconst C dX5_read_6 ?_
  refine V_put C fp_X5_22 dX5_read_7 (by repeat (first | with_reducible assumption | with_reducible exact mset_self _ _ _ | refine (mset_ne (by omega)).trans ?_)) (by (try simp only [mset_1]); omega) rfl rfl (by exact Nat.le_of_ble_eq_true rfl) ?_
  refine V_aload_n C dX5_read_10 rfl ?_
  refine V_iconst C dX5_read_11 ?_
  refine V_put C fp_X5_25 dX5_read_12 (by repeat (first | with_reducible assumption | with_reducible exact mset_self _ _ _ | refine (mset_ne (by omega)).trans ?_)) (by (try simp only [mset_1]); omega) rfl rfl (by exact Nat.le_of_ble_eq_true rfl) ?_
  refine V_iconst C dX5_read_15 ?_
  refine V_istore_n C dX5_read_16 (by decide) ?_
  refine V_lv [(0, .ref (z + t)), (1, iv (((0 : Nat) : Int)))] (List.forall_mem_cons.mpr ⟨(by first | rfl | exact congrArg (fun t => some (iv t)) (by omega)), (List.forall_mem_cons.mpr ⟨(by first | rfl | exact congrArg (fun t => some (iv t)) (by omega)), (fun _ h => nomatch h)⟩)⟩) ?_
  exact loop 13 ((0, -1), 0, fl, sm) 0 _ (by omega) (((Sm.set ⟨by omega, by omega⟩).ts ⟨by omega, by omega⟩).ts ⟨by omega, by omega⟩) (mset_self _ _ _) ((mset_ne (by omega)).trans ((mset_ne (by omega)).trans ((mset_ne (by omega)).trans m1))) ((mset_ne (by omega)).trans ((mset_ne (by omega)).trans ((mset_ne (by omega)).trans m2))) ((mset_ne (by omega)).trans ((mset_ne (by omega)).trans ((mset_ne (by omega)).trans m3))) ⟨⟨by dsimp only; omega, by dsimp only; omega, by dsimp only; omega, by dsimp only; omega⟩, by dsimp only; omega, fun j hj => absurd hj (Nat.not_lt_zero j)⟩ rfl (by omega)

set_option maxHeartbeats 400000 in
set_option maxRecDepth 4000 in
theorem ok_X5_add {l : Launch} {D : va_G} {cy : Nat → ClassId} {z : Nat} {M : Mm} {K : Option Value → Mm → Prop} {t : Nat} (hn : t + 4 ≤ M.1) {len nn pp er : Int} {bs : Nat → Int} (m0 : M.2 t = oX 4 [.ref (z + (t + 1)), iv len, iv (pp), iv (er), iv (nn), .ref (z + (t + 2)), .ref (z + (t + 3))]) (m1 : M.2 (t + 1) = aB cy 100 bs) (hl : 0 ≤ len ∧ len ≤ 100) {v : Int} (hv : 0 ≤ v ∧ v ≤ 127) (hl9 : len < 100) (hK : ∀ M', Sm M M' (fun j => j = t ∨ j = t + 1) → M'.2 t = oX 4 [.ref (z + (t + 1)), iv (len + 1), iv (pp), iv (er), iv (nn), .ref (z + (t + 2)), .ref (z + (t + 3))] → M'.2 (t + 1) = aB cy 100 (va_up bs len.toNat v) → K none M') :
    MT l D cy z false yX5_add (wsy yX5_add cX5_add 2 none) 0 0 0 0 M [.ref (z + t), iv v] K := by
  refine MT_of (by decide) w_784 (Nat.le_of_ble_eq_true rfl) ?_
  intro p e s m args below meth c C hr hx0
  refine V_aload_n C dX5_add_0 rfl ?_
  refine V_get C fg_X5_15 dX5_add_1 (by repeat (first | with_reducible assumption | with_reducible exact mset_self _ _ _ | refine (mset_ne (by omega)).trans ?_)) (by (try simp only [mset_1]); omega) (by rfl) ?_
  refine V_if_lt C dX5_add_4 (tgt := 40) (by decide) (by omega) (fun g4 => ?_) (fun g4 => ?_)
  · exact absurd g4 (by omega)
  · refine V_aload_n C dX5_add_7 rfl ?_
    refine V_get C fg_X5_15 dX5_add_8 (by repeat (first | with_reducible assumption | with_reducible exact mset_self _ _ _ | refine (mset_ne (by omega)).trans ?_)) (by (try simp only [mset_1]); omega) (by rfl) ?_
    refine V_aload_n C dX5_add_11 rfl ?_
    refine V_get C fg_X5_9 dX5_add_12 (by repeat (first | with_reducible assumption | with_reducible exact mset_self _ _ _ | refine (mset_ne (by omega)).trans ?_)) (by (try simp only [mset_1]); omega) (by rfl) ?_
    refine V_alenB C dX5_add_15 (by repeat (first | with_reducible assumption | with_reducible exact mset_self _ _ _ | refine (mset_ne (by omega)).trans ?_)) (by (try simp only [mset_1]); omega) ?_
    refine V_icmp_ge C dX5_add_16 (tgt := 40) (by decide) (by omega) (by omega) (fun g16 => ?_) (fun g16 => ?_)
    · exact absurd g16 (by omega)
    · refine V_aload_n C dX5_add_19 rfl ?_
      refine V_get C fg_X5_9 dX5_add_20 (by repeat (first | with_reducible assumption | with_reducible exact mset_self _ _ _ | refine (mset_ne (by omega)).trans ?_)) (by (try simp only [mset_1]); omega) (by rfl) ?_
      refine V_aload_n C dX5_add_23 rfl ?_
      refine V_get C fg_X5_15 dX5_add_24 (by repeat (first | with_reducible assumption | with_reducible exact mset_self _ _ _ | refine (mset_ne (by omega)).trans ?_)) (by (try simp only [mset_1]); omega) (by rfl) ?_
      refine V_iload_n C dX5_add_27 rfl ?_
      refine V_i2b C dX5_add_28 (by omega) ?_
      refine V_bastore C dX5_add_29 (by repeat (first | with_reducible assumption | with_reducible exact mset_self _ _ _ | refine (mset_ne (by omega)).trans ?_)) (by (try simp only [mset_1]); omega) (by omega) (by omega) (by omega) ?_
      refine V_aload_n C dX5_add_30 rfl ?_
      refine V_dup C dX5_add_31 rfl ?_
      refine V_get C fg_X5_15 dX5_add_32 (by repeat (first | with_reducible assumption | with_reducible exact mset_self _ _ _ | refine (mset_ne (by omega)).trans ?_)) (by (try simp only [mset_1]); omega) (by rfl) ?_
      refine V_iconst C dX5_add_35 ?_
      refine V_iadd C dX5_add_36 ?_
      refine V_put C fp_X5_15 dX5_add_37 (by repeat (first | with_reducible assumption | with_reducible exact mset_self _ _ _ | refine (mset_ne (by omega)).trans ?_)) (by (try simp only [mset_1]); omega) rfl rfl (by exact Nat.le_of_ble_eq_true rfl) ?_
      exact V_vret C hr dX5_add_40 (hK _ ((Sm.set (Or.inr rfl)).ts (Or.inl rfl)) (mset_self _ _ _) ((mset_ne (by omega)).trans (mset_self _ _ _)))

