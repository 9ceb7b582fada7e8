/-- from the entry, for every script of at most 260 ints, the law comes to its end with true -/
theorem whole_start {p : Program} {e : Env} {s : State} {m : MethodId} {below : List Frame} {meth : Method} {c : Code} (l : Launch) (hflags : l.flags = flags0) {b L : Nat} {xs : Nat → Int32} (hL : L ≤ 260) (C0 : lw_At p s m meth c b L xs) : W p l e room_1 s m #[Value.ref b] below meth c s.heap [] 0 0 (lw_Z below #[Value.ref b] s) (entryFrame m ([Value.ref b] : List Value).toArray 10) := by
  obtain ⟨hx, hb, hr, hml, hown, hw, hX, hbl, hlocks, hgv⟩ := C0
  obtain ⟨D, cs, hK, hO⟩ := known0 hw
  have hts : ∀ w ∈ lw_tg, w.before #[Value.ref b] s = true := fun w h => hw w (List.mem_filter.mp h).1
  have hl := lv_entry ([.ref b]) (n := 10) (Nat.le_of_ble_eq_true rfl)
  rw [lg_entry_eq]
  exact start_J (G := (p, l, e, room_1, s, m, #[Value.ref b], below, meth, c, D, cs, fun q => s.heap.size ≤ q, fun _ _ _ _ => True, (600000, 7302250), lw_Z below #[Value.ref b] s)) (b := b) (L := L) (xs := xs) rfl rfl rfl rfl ⟨⟨hx, hb, hml, hown, hts⟩, hK, ⟨Nat.le_of_ble_eq_true rfl, Nat.le_of_ble_eq_true rfl, Nat.le_refl 600000, Nat.le_refl 7302250⟩, hlocks, hr, fun _ h => h, zst0 hw hgv⟩ ⟨hX, hbl, Nat.not_le.mpr hbl⟩ (fun _ h => h) (by omega) hO s.heap [] _ (fun k q h => by simp at h) ⟨fun i j p q h => by simp at h, fun k q h => by simp at h⟩ va_S.rf hl
