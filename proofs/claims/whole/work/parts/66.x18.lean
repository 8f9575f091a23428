theorem whole_start {p : Program} {e : Env} {s : State} {m : MethodId} {below : List Frame} {meth : Method} {c : Code} (l : Launch) (hflags : l.flags = flags0) {b L : Nat} {xs : Nat → Int32} (hL : L ≤ 2560) (C0 : lw_At p s m meth c b L xs) : W p l e room_1 s m #[Value.ref b] below meth c s.heap [] 0 0 (lw_Z below #[Value.ref b] s) (entryFrame m ([Value.ref b] : List Value).toArray 9) := by
  obtain ⟨D, cy, hB⟩ := law_wB C0
  obtain ⟨hx, hb, hr, hml, hown, hts, hX, hbl, hlocks, hgv⟩ := C0
  have hlt : l.stackTraces = false := by
    unfold Launch.stackTraces
    rw [hflags]
    decide +kernel
  have C : Cx p l s m #[Value.ref b] meth c D cy s.heap.size 9 cL_law RL := ⟨hx, hb, hml, hown, fun w hw => hts w (lw_all_in w hw), hB, hlocks, Nat.le_refl _⟩
  rw [lg_entry_eq]
  exact law_V C hr rfl hlt hX hbl (Nat.not_le.mpr hbl) hL s.heap [] _ (lv_entry [.ref b] (Nat.le_of_ble_eq_true rfl)) ⟨fun k q h => by simp [wl] at h, Nat.le_refl _⟩ va_S.rf
