set_option maxHeartbeats 40000000 in
set_option maxRecDepth 100000 in
/-- the law, up to what is said of its loop as a function -/
theorem whole_open {p : Program} {e : Env} {s : State} {m : MethodId} {below : List Frame} {meth : Method} {c : Code} (l : Launch) {b L : Nat} {xs : Nat → Int32} (C0 : lw_At p s m meth c b L xs) (hp : ∃ z, s_law_18 xs L 20000 0 0 200 0 h00 = some z ∧ z.1 = 1) : W p l e room_1 s m #[Value.ref b] below meth c s.heap [] 0 0 (lw_Z below #[Value.ref b] s) (entryFrame m ([Value.ref b] : List Value).toArray 4) := by
  obtain ⟨hx, hb, hr, hml, hown, hts, hX, hbl, hlk, hgv⟩ := C0
  obtain ⟨D, AK, hK, ao⟩ := st_K hts
  obtain ⟨adK, adV, fmt, hE⟩ := st_EX hts hgv
  have C1 : ∀ ad : Nat → Nat, CXA (D, AK, adK, adV, fmt, ad) (fun q => s.heap.size ≤ q) R_law code 4 (some .boolean) p s m #[Value.ref b] meth c := fun ad => ⟨hx, hb, hml, hown, fun w h => hts w (List.mem_filter.mp h).1, hr, hlk, hK, hE D AK ad⟩
  have hl := lv_entry ([.ref b]) (n := 4) (Nat.le_of_ble_eq_true rfl)
  rw [lg_entry_eq]
  generalize (lg_sl ([.ref b]) ++ List.replicate (4 - (lg_sl ([.ref b])).length) Slot.unset).toArray = ls at hl ⊢
  obtain ⟨z, hs, hz⟩ := hp
  refine both_made (C1 (fun _ => 0)) ao (fun q h => h) hl (fun ad H locs ls hP hD hS hl => ?_)
  have key := world_at (D, AK, adK, adV, fmt, ad) (H := H) hP
  have hP1 : va_P D classes (wl (D, AK, adK, adV, fmt, ad) h00) H := by
    intro k q hk
    obtain ⟨n, hn, e1⟩ := List.mem_map.mp (List.mem_of_getElem? hk)
    rw [← e1]
    exact key n hn
  have hD1 : va_D (fun q => s.heap.size ≤ q) (wl (D, AK, adK, adV, fmt, ad) h00) := D_perm (ad := ad) (E := cG (D, AK, adK, adV, fmt, ad) h00) (nms := names) hD [0, 1, 5, 6, 73, 75, 77, 7, 8, 74, 76, 83, 85, 84, 86, 81, 82, 57, 61, 65, 69, 2, 3, 4, 78, 79, 80, 58, 59, 60, 62, 63, 64, 66, 67, 68, 70, 71, 72, 9, 10, 11, 12, 13, 14, 15, 16, 17, 18, 19, 20, 21, 22, 23, 24, 25, 26, 27, 28, 29, 30, 31, 32, 33, 34, 35, 36, 37, 38, 39, 40, 41, 42, 43, 44, 45, 46, 47, 48, 49, 50, 51, 52, 53, 54, 55, 56, 87, 88, 89, 90, 91, 92, 93, 94, 95, 96, 97, 98, 99, 100, 101, 102, 103, 104, 105, 106, 107, 108, 109, 110, 111, 112, 113, 114, 115] (by decide) rfl
  refine W.widen (k := 600000) (n := 7302249) (Nat.le_of_ble_eq_true rfl) (Nat.le_of_ble_eq_true rfl) ?_
  exact k_law_18 (g := (D, AK, adK, adV, fmt, ad)) (C1 ad) xs L hX hbl hz 20000 ⟨hP1, hD1, hS⟩ hl hs
