theorem at_ref {D : va_G} {cl : List vw_C} {q : Nat} {cA : ClassId} {n : Nat} {f f' : Nat → Option Nat} {H : Heap} (h : va_at D cl (q, .inl (cA, n, .inr (.inr (.inr (.inr f))))) H) (hf : ∀ j, j < n → f j = f' j) : va_at D cl (q, .inl (cA, n, .inr (.inr (.inr (.inr f'))))) H := by
  show H[q]? = some (vp_cell cA (n, .inr (.inr (.inr (.inr f')))))
  have h : H[q]? = some (vp_cell cA (n, .inr (.inr (.inr (.inr f))))) := h
  rw [h, vp_cell_q, vp_cell_q]
  congr 1
  unfold arrV
  congr 1
  apply Array.ext
  · simp
  · intro i h1 h2
    simp at h1
    simp [hf i (by simpa using h1)]
theorem D_perm {A : Nat → Prop} {ws : va_W} {ad : Nat → Nat} {E : Nat → va_E} {nms : List Nat} (hD : va_D A ws) (is : List Nat) (hn : va_nd is = true) (hs : is.map (fun i => (ws[i]?).map (fun q => q.1)) = nms.map (fun n => some (ad n))) : va_D A (nms.map (fun n => (ad n, E n))) := by
  have key : ∀ (k : Nat) (q : Nat × va_E), (nms.map (fun n => (ad n, E n)))[k]? = some q → ∃ (i : Nat) (p : Nat × va_E), is[k]? = some i ∧ ws[i]? = some p ∧ p.1 = q.1 := by
    intro k q hk
    rw [List.getElem?_map] at hk
    cases hn : nms[k]? with
    | none => rw [hn] at hk; cases hk
    | some n =>
      rw [hn] at hk
      have hq : (ad n, E n) = q := Option.some.inj hk
      have h1 : (is.map (fun i => (ws[i]?).map (fun q => q.1)))[k]? = some (some (ad n)) := by rw [hs, List.getElem?_map, hn]; rfl
      rw [List.getElem?_map] at h1
      cases hi : is[k]? with
      | none => rw [hi] at h1; cases h1
      | some i =>
        rw [hi] at h1
        have h2 : (ws[i]?).map (fun q => q.1) = some (ad n) := Option.some.inj h1
        cases hw : ws[i]? with
        | none => rw [hw] at h2; cases h2
        | some p =>
          rw [hw] at h2
          exact ⟨i, p, rfl, hw, by rw [← hq]; exact Option.some.inj h2⟩
  refine ⟨fun i j x y hi hj hxy => ?_, fun k q hk => ?_⟩
  · obtain ⟨a, p, h1, h2, h3⟩ := key i x hi
    obtain ⟨b, r, h4, h5, h6⟩ := key j y hj
    have hab := hD.1 a b p r h2 h5 (h3.trans (hxy.trans h6.symm))
    subst hab
    exact va_nd_inj is hn i j a h1 h4
  · obtain ⟨a, p, -, h2, h3⟩ := key k q hk
    rw [← h3]
    exact hD.2 a p h2
theorem nl_AdjoinedSetsLaw_12 : Cond.methodLink R_law 12 y_AdjoinedSetsModel_init ∈ ALL ∧ MD y_AdjoinedSetsModel_init b_AdjoinedSetsModel_init 1 none 0 ∧ Cond.instanceMethod y_AdjoinedSetsModel_init ∈ ALL ∧ y_AdjoinedSetsModel_init.name = "<init>" := ⟨in_all (in_t4 (List.mem_of_getElem? (i := 82) rfl)) rfl, md_AdjoinedSetsModel_init, in_all (in_t4 (List.mem_of_getElem? (i := 83) rfl)) rfl, rfl⟩
theorem nl_AdjoinedSetsLaw_9 : Cond.methodLink R_law 9 y_AdjoinedSets_init ∈ ALL ∧ MD y_AdjoinedSets_init b_AdjoinedSets_init 2 none 0 ∧ Cond.instanceMethod y_AdjoinedSets_init ∈ ALL ∧ y_AdjoinedSets_init.name = "<init>" := ⟨in_all (in_t1 (List.mem_of_getElem? (i := 23) rfl)) rfl, md_AdjoinedSets_init, in_all (in_t1 (List.mem_of_getElem? (i := 24) rfl)) rfl, rfl⟩
theorem nw_AdjoinedSetsLaw_10 : NEW R_law 10 9 36 t_AdjoinedSetsModel := ⟨_, _, kf_9, in_all (in_t4 (List.mem_of_getElem? (i := 80) rfl)) rfl, in_all (in_t4 (List.mem_of_getElem? (i := 81) rfl)) rfl, in_all (in_t1 (List.mem_of_getElem? (i := 12) rfl)) rfl⟩
theorem nw_AdjoinedSetsLaw_7 : NEW R_law 7 8 7 t_AdjoinedSets := ⟨_, _, kf_8, in_all (in_t1 (List.mem_of_getElem? (i := 21) rfl)) rfl, in_all (in_t1 (List.mem_of_getElem? (i := 22) rfl)) rfl, in_all (in_t1 (List.mem_of_getElem? (i := 1) rfl)) rfl⟩
theorem d_law_0 : decode code 0 = .ok (.new 7, 3) := by decide +kernel
theorem d_law_3 : decode code 3 = .ok (.dup, 1) := by decide +kernel
theorem d_law_4 : decode code 4 = .ok (.invokespecial 9, 3) := by decide +kernel
theorem d_law_7 : decode code 7 = .ok (.astore_n 1, 1) := by decide +kernel
theorem d_law_8 : decode code 8 = .ok (.new 10, 3) := by decide +kernel
theorem d_law_11 : decode code 11 = .ok (.dup, 1) := by decide +kernel
theorem d_law_12 : decode code 12 = .ok (.invokespecial 12, 3) := by decide +kernel
theorem d_law_15 : decode code 15 = .ok (.astore_n 2, 1) := by decide +kernel
theorem d_law_16 : decode code 16 = .ok (.iconst 0, 1) := by decide +kernel
theorem d_law_17 : decode code 17 = .ok (.istore_n 3, 1) := by decide +kernel

set_option maxHeartbeats 40000000 in
set_option maxRecDepth 100000 in
/-- the law, up to what is said of its loop as a function -/
theorem whole_open {p : Program} {e : Env} {s : State} {m : MethodId} {below : List Frame} {meth : Method} {c : Code} (l : Launch) {b L : Nat} {xs : Nat → Int32} (C0 : lw_At p s m meth c b L xs) (hp : ∃ z, s_law_18 xs L 20000 0 0 200 0 h00 = some z ∧ z.1 = 1) : W p l e room_1 s m #[Value.ref b] below meth c s.heap [] 0 0 (lw_Z below #[Value.ref b] s) (entryFrame m ([Value.ref b] : List Value).toArray 4) := by
  obtain ⟨hx, hb, hr, hml, hown, hts, hX, hbl, hlk, hgv⟩ := C0
  obtain ⟨D, AK, hK, ao⟩ := st_K hts
  obtain ⟨adK, adV, fmt, hE⟩ := st_EX hts hgv
  have C1 : ∀ ad : Nat → Nat, CXA (D, AK, adK, adV, fmt, ad) (fun q => s.heap.size ≤ q) R_law code 4 (some .boolean) p s m #[Value.ref b] meth c := fun ad => ⟨hx, hb, hml, hown, fun w h => hts w (List.mem_filter.mp h).1, hr, hlk, hK, hE D AK ad⟩
  obtain ⟨A, eA⟩ : ∃ A : Nat → Prop, A = fun q => s.heap.size ≤ q := ⟨_, rfl⟩
  obtain ⟨g0, eg⟩ : ∃ g0 : GG, g0 = (D, AK, adK, adV, fmt, fun _ => 0) := ⟨_, rfl⟩
  have C : CXA g0 A R_law code 4 (some .boolean) p s m #[Value.ref b] meth c := by rw [eg, eA]; exact C1 _
  have hA : ∀ q : Nat, s.heap.size ≤ q → A q := fun q h => by rw [eA]; exact h
  have hl := lv_entry ([.ref b]) (n := 4) (Nat.le_of_ble_eq_true rfl)
  rw [lg_entry_eq]
  generalize (lg_sl ([.ref b]) ++ List.replicate (4 - (lg_sl ([.ref b])).length) Slot.unset).toArray = ls at hl ⊢
  have hl : lv_has ls 4 [(0, .ref b)] := hl
  have hw : NWd g0 A [] s.heap s.heap [] := ⟨fun k q h => by simp at h, ⟨fun i j p q h => by simp at h, fun k q h => by simp at h⟩, va_S.rf⟩
  refine n_new (k := 8) (N := 7) (ty := t_AdjoinedSets) C hA hw nw_AdjoinedSetsLaw_7 (fs := [.null, .null, .null, .null, .null, .null, .null]) (fun j hj => by rcases j with _ | _ | _ | _ | _ | _ | _ | j <;> first | rfl | omega) (c' := 1) (s' := 7) rfl rfl (Nat.le_of_ble_eq_true rfl) (Nat.le_of_ble_eq_true rfl) d_law_0 (fun q0 H hw => ?_)
  have hw : NWd g0 A [(q0, .inr (8, [.null, .null, .null, .null, .null, .null, .null]))] s.heap H _ := hw
  refine lv_dup hx hb d_law_3 rfl ?_
  refine n_callI (j := 0) (isR := []) (wr := []) C ao hA hw hl.1 nl_AdjoinedSetsLaw_9 rfl rfl (by decide) (by decide) (As := []) (n_AdjoinedSets_init l g0 q0) rfl ⟨Nat.le_of_ble_eq_true rfl, Nat.le_of_ble_eq_true rfl⟩ (Nat.le_of_ble_eq_true rfl) rfl (c' := 87) (s' := 3143) rfl rfl (Nat.le_of_ble_eq_true rfl) (Nat.le_of_ble_eq_true rfl) d_law_4 (fun u1 H locs hw => ?_)
  obtain ⟨u1_0, u1_1, ⟨u1_2_0, u1_2_1⟩, u1_3, u1_4, ⟨u1_5_0, u1_5_1, u1_5_2, ⟨u1_5_3_0, u1_5_3_1⟩, u1_5_4, ⟨u1_5_5_0, u1_5_5_1⟩, u1_5_6, ⟨u1_5_7_0, u1_5_7_1⟩, u1_5_8, ⟨u1_5_9_0, u1_5_9_1⟩, u1_5_10, ⟨u1_5_11_0, u1_5_11_1⟩, u1_5_12, ⟨u1_5_13_0, u1_5_13_1⟩, u1_5_14, ⟨u1_5_15_0, u1_5_15_1⟩, u1_5_16, ⟨u1_5_17_0, u1_5_17_1⟩, u1_5_18, ⟨u1_5_19_0, u1_5_19_1⟩, u1_5_20, ⟨u1_5_21_0, u1_5_21_1⟩, u1_5_22, ⟨u1_5_23_0, u1_5_23_1⟩, u1_5_24, ⟨u1_5_25_0, u1_5_25_1⟩, u1_5_26, ⟨u1_5_27_0, u1_5_27_1⟩, u1_5_28, ⟨u1_5_29_0, u1_5_29_1⟩, u1_5_30, ⟨u1_5_31_0, u1_5_31_1⟩, u1_5_32, ⟨u1_5_33_0, u1_5_33_1⟩⟩, u1_6, ⟨u1_7_0, ⟨u1_7_1_0, u1_7_1_1⟩⟩, u1_8, ⟨u1_9_0, ⟨u1_9_1_0, u1_9_1_1⟩⟩, u1_10, ⟨u1_11_0, ⟨u1_11_1_0, u1_11_1_1⟩⟩, u1_12, ⟨u1_13_0, ⟨u1_13_1_0, u1_13_1_1⟩⟩, u1_14, u1_15_0, u1_16, u1_17_0, u1_18, ⟨u1_19_0, ⟨u1_19_1_0, u1_19_1_1⟩, u1_19_2, u1_19_3, u1_19_4, u1_19_5_0, u1_19_6, u1_19_7_0⟩⟩ := u1
  have hw : NWd g0 A [(q0, .inr (8, [.ref u1_0, .ref u1_1, .ref u1_3, .ref u1_4, .ref u1_14, .ref u1_16, .ref u1_18])), (u1_0, .inl (g0.2.1 2, 8, .inr (.inl (fun _ => 0)))), (u1_1, .inr (0, [.ref u1_2_0, .ref u1_2_1, .int 0])), (u1_2_0, .inl (g0.2.1 1, 60, .inl (fun _ => 0))), (u1_2_1, .inl (g0.2.1 0, 60, .inl (fun _ => 0))), (u1_3, .inl (g0.2.1 4, 4, .inr (.inr (.inr (.inr (va_up (va_up (va_up (va_up (fun _ => none) 0 (some u1_6)) 1 (some u1_8)) 2 (some u1_10)) 3 (some u1_12))))))), (u1_4, .inr (2, [.ref u1_5_0, .ref u1_5_1, .int 0])), (u1_5_0, .inl (g0.2.1 3, 16, .inr (.inr (.inr (.inr (va_up (va_up (va_up (va_up (va_up (va_up (va_up (va_up (va_up (va_up (va_up (va_up (va_up (va_up (va_up (va_up (fun _ => none) 0 (some u1_5_2)) 1 (some u1_5_4)) 2 (some u1_5_6)) 3 (some u1_5_8)) 4 (some u1_5_10)) 5 (some u1_5_12)) 6 (some u1_5_14)) 7 (some u1_5_16)) 8 (some u1_5_18)) 9 (some u1_5_20)) 10 (some u1_5_22)) 11 (some u1_5_24)) 12 (some u1_5_26)) 13 (some u1_5_28)) 14 (some u1_5_30)) 15 (some u1_5_32))))))), (u1_5_1, .inl (g0.2.1 0, 16, .inl (fun _ => 0))), (u1_5_2, .inr (0, [.ref u1_5_3_0, .ref u1_5_3_1, .int 0])), (u1_5_3_0, .inl (g0.2.1 1, 60, .inl (fun _ => 0))), (u1_5_3_1, .inl (g0.2.1 0, 60, .inl (fun _ => 0))), (u1_5_4, .inr (0, [.ref u1_5_5_0, .ref u1_5_5_1, .int 0])), (u1_5_5_0, .inl (g0.2.1 1, 60, .inl (fun _ => 0))), (u1_5_5_1, .inl (g0.2.1 0, 60, .inl (fun _ => 0))), (u1_5_6, .inr (0, [.ref u1_5_7_0, .ref u1_5_7_1, .int 0])), (u1_5_7_0, .inl (g0.2.1 1, 60, .inl (fun _ => 0))), (u1_5_7_1, .inl (g0.2.1 0, 60, .inl (fun _ => 0))), (u1_5_8, .inr (0, [.ref u1_5_9_0, .ref u1_5_9_1, .int 0])), (u1_5_9_0, .inl (g0.2.1 1, 60, .inl (fun _ => 0))), (u1_5_9_1, .inl (g0.2.1 0, 60, .inl (fun _ => 0))), (u1_5_10, .inr (0, [.ref u1_5_11_0, .ref u1_5_11_1, .int 0])), (u1_5_11_0, .inl (g0.2.1 1, 60, .inl (fun _ => 0))), (u1_5_11_1, .inl (g0.2.1 0, 60, .inl (fun _ => 0))), (u1_5_12, .inr (0, [.ref u1_5_13_0, .ref u1_5_13_1, .int 0])), (u1_5_13_0, .inl (g0.2.1 1, 60, .inl (fun _ => 0))), (u1_5_13_1, .inl (g0.2.1 0, 60, .inl (fun _ => 0))), (u1_5_14, .inr (0, [.ref u1_5_15_0, .ref u1_5_15_1, .int 0])), (u1_5_15_0, .inl (g0.2.1 1, 60, .inl (fun _ => 0))), (u1_5_15_1, .inl (g0.2.1 0, 60, .inl (fun _ => 0))), (u1_5_16, .inr (0, [.ref u1_5_17_0, .ref u1_5_17_1, .int 0])), (u1_5_17_0, .inl (g0.2.1 1, 60, .inl (fun _ => 0))), (u1_5_17_1, .inl (g0.2.1 0, 60, .inl (fun _ => 0))), (u1_5_18, .inr (0, [.ref u1_5_19_0, .ref u1_5_19_1, .int 0])), (u1_5_19_0, .inl (g0.2.1 1, 60, .inl (fun _ => 0))), (u1_5_19_1, .inl (g0.2.1 0, 60, .inl (fun _ => 0))), (u1_5_20, .inr (0, [.ref u1_5_21_0, .ref u1_5_21_1, .int 0])), (u1_5_21_0, .inl (g0.2.1 1, 60, .inl (fun _ => 0))), (u1_5_21_1, .inl (g0.2.1 0, 60, .inl (fun _ => 0))), (u1_5_22, .inr (0, [.ref u1_5_23_0, .ref u1_5_23_1, .int 0])), (u1_5_23_0, .inl (g0.2.1 1, 60, .inl (fun _ => 0))), (u1_5_23_1, .inl (g0.2.1 0, 60, .inl (fun _ => 0))), (u1_5_24, .inr (0, [.ref u1_5_25_0, .ref u1_5_25_1, .int 0])), (u1_5_25_0, .inl (g0.2.1 1, 60, .inl (fun _ => 0))), (u1_5_25_1, .inl (g0.2.1 0, 60, .inl (fun _ => 0))), (u1_5_26, .inr (0, [.ref u1_5_27_0, .ref u1_5_27_1, .int 0])), (u1_5_27_0, .inl (g0.2.1 1, 60, .inl (fun _ => 0))), (u1_5_27_1, .inl (g0.2.1 0, 60, .inl (fun _ => 0))), (u1_5_28, .inr (0, [.ref u1_5_29_0, .ref u1_5_29_1, .int 0])), (u1_5_29_0, .inl (g0.2.1 1, 60, .inl (fun _ => 0))), (u1_5_29_1, .inl (g0.2.1 0, 60, .inl (fun _ => 0))), (u1_5_30, .inr (0, [.ref u1_5_31_0, .ref u1_5_31_1, .int 0])), (u1_5_31_0, .inl (g0.2.1 1, 60, .inl (fun _ => 0))), (u1_5_31_1, .inl (g0.2.1 0, 60, .inl (fun _ => 0))), (u1_5_32, .inr (0, [.ref u1_5_33_0, .ref u1_5_33_1, .int 0])), (u1_5_33_0, .inl (g0.2.1 1, 60, .inl (fun _ => 0))), (u1_5_33_1, .inl (g0.2.1 0, 60, .inl (fun _ => 0))), (u1_6, .inr (1, [.ref u1_7_0, .int 0])), (u1_7_0, .inr (0, [.ref u1_7_1_0, .ref u1_7_1_1, .int 0])), (u1_7_1_0, .inl (g0.2.1 1, 60, .inl (fun _ => 0))), (u1_7_1_1, .inl (g0.2.1 0, 60, .inl (fun _ => 0))), (u1_8, .inr (1, [.ref u1_9_0, .int 0])), (u1_9_0, .inr (0, [.ref u1_9_1_0, .ref u1_9_1_1, .int 0])), (u1_9_1_0, .inl (g0.2.1 1, 60, .inl (fun _ => 0))), (u1_9_1_1, .inl (g0.2.1 0, 60, .inl (fun _ => 0))), (u1_10, .inr (1, [.ref u1_11_0, .int 0])), (u1_11_0, .inr (0, [.ref u1_11_1_0, .ref u1_11_1_1, .int 0])), (u1_11_1_0, .inl (g0.2.1 1, 60, .inl (fun _ => 0))), (u1_11_1_1, .inl (g0.2.1 0, 60, .inl (fun _ => 0))), (u1_12, .inr (1, [.ref u1_13_0, .int 0])), (u1_13_0, .inr (0, [.ref u1_13_1_0, .ref u1_13_1_1, .int 0])), (u1_13_1_0, .inl (g0.2.1 1, 60, .inl (fun _ => 0))), (u1_13_1_1, .inl (g0.2.1 0, 60, .inl (fun _ => 0))), (u1_14, .inr (3, [.ref u1_1, .ref u1_3, .ref u1_15_0, .int (-1), .int 0, .int 8])), (u1_15_0, .inl (g0.2.1 0, 8, .inl (fun _ => 0))), (u1_16, .inr (4, [.ref u1_3, .ref u1_17_0, .int 0])), (u1_17_0, .inl (g0.2.1 2, 264, .inr (.inl (fun _ => 0)))), (u1_18, .inr (7, [.ref u1_1, .ref u1_3, .ref u1_4, .ref u1_19_0, .ref u1_19_4, .ref u1_19_6, .ref u1_19_2, .ref u1_19_3, .int 0])), (u1_19_0, .inr (0, [.ref u1_19_1_0, .ref u1_19_1_1, .int 0])), (u1_19_1_0, .inl (g0.2.1 1, 60, .inl (fun _ => 0))), (u1_19_1_1, .inl (g0.2.1 0, 60, .inl (fun _ => 0))), (u1_19_2, .inl (g0.2.1 0, 6, .inl (fun _ => 0))), (u1_19_3, .inl (g0.2.1 0, 60, .inl (fun _ => 0))), (u1_19_4, .inr (5, [.ref u1_19_5_0, .ref u1_1, .int 0])), (u1_19_5_0, .inl (g0.2.1 0, 8, .inl (fun j => if j < 8 then (-1) else 0))), (u1_19_6, .inr (6, [.ref u1_1, .ref u1_19_7_0])), (u1_19_7_0, .inl (g0.2.1 0, 6, .inl (fun j => if j < 6 then (-1) else 0)))] s.heap H _ := hw
  refine lv_astore_n hx hb d_law_7 rfl hl (by decide) (lv' := [(1, .ref q0), (0, .ref b)]) rfl (fun ls hl => ?_)
  refine n_new (k := 9) (N := 36) (ty := t_AdjoinedSetsModel) C hA hw nw_AdjoinedSetsLaw_10 (fs := [.null, .int 0, .null, .null, .int 0, .null, .null, .int 0, .null, .null, .null, .null, .int 0, .null, .null, .int 0, .int 0, .int 0, .null, .null, .null, .null, .null, .null, .null, .long 0, .null, .null, .null, .null, .null, .null, .null, .null, .null, .null]) (fun j hj => by rcases j with _ | _ | _ | _ | _ | _ | _ | _ | _ | _ | _ | _ | _ | _ | _ | _ | _ | _ | _ | _ | _ | _ | _ | _ | _ | _ | _ | _ | _ | _ | _ | _ | _ | _ | _ | _ | j <;> first | rfl | omega) (c' := 88) (s' := 3179) rfl rfl (Nat.le_of_ble_eq_true rfl) (Nat.le_of_ble_eq_true rfl) d_law_8 (fun q2 H hw => ?_)
  have hw : NWd g0 A [(q0, .inr (8, [.ref u1_0, .ref u1_1, .ref u1_3, .ref u1_4, .ref u1_14, .ref u1_16, .ref u1_18])), (u1_0, .inl (g0.2.1 2, 8, .inr (.inl (fun _ => 0)))), (u1_1, .inr (0, [.ref u1_2_0, .ref u1_2_1, .int 0])), (u1_2_0, .inl (g0.2.1 1, 60, .inl (fun _ => 0))), (u1_2_1, .inl (g0.2.1 0, 60, .inl (fun _ => 0))), (u1_3, .inl (g0.2.1 4, 4, .inr (.inr (.inr (.inr (va_up (va_up (va_up (va_up (fun _ => none) 0 (some u1_6)) 1 (some u1_8)) 2 (some u1_10)) 3 (some u1_12))))))), (u1_4, .inr (2, [.ref u1_5_0, .ref u1_5_1, .int 0])), (u1_5_0, .inl (g0.2.1 3, 16, .inr (.inr (.inr (.inr (va_up (va_up (va_up (va_up (va_up (va_up (va_up (va_up (va_up (va_up (va_up (va_up (va_up (va_up (va_up (va_up (fun _ => none) 0 (some u1_5_2)) 1 (some u1_5_4)) 2 (some u1_5_6)) 3 (some u1_5_8)) 4 (some u1_5_10)) 5 (some u1_5_12)) 6 (some u1_5_14)) 7 (some u1_5_16)) 8 (some u1_5_18)) 9 (some u1_5_20)) 10 (some u1_5_22)) 11 (some u1_5_24)) 12 (some u1_5_26)) 13 (some u1_5_28)) 14 (some u1_5_30)) 15 (some u1_5_32))))))), (u1_5_1, .inl (g0.2.1 0, 16, .inl (fun _ => 0))), (u1_5_2, .inr (0, [.ref u1_5_3_0, .ref u1_5_3_1, .int 0])), (u1_5_3_0, .inl (g0.2.1 1, 60, .inl (fun _ => 0))), (u1_5_3_1, .inl (g0.2.1 0, 60, .inl (fun _ => 0))), (u1_5_4, .inr (0, [.ref u1_5_5_0, .ref u1_5_5_1, .int 0])), (u1_5_5_0, .inl (g0.2.1 1, 60, .inl (fun _ => 0))), (u1_5_5_1, .inl (g0.2.1 0, 60, .inl (fun _ => 0))), (u1_5_6, .inr (0, [.ref u1_5_7_0, .ref u1_5_7_1, .int 0])), (u1_5_7_0, .inl (g0.2.1 1, 60, .inl (fun _ => 0))), (u1_5_7_1, .inl (g0.2.1 0, 60, .inl (fun _ => 0))), (u1_5_8, .inr (0, [.ref u1_5_9_0, .ref u1_5_9_1, .int 0])), (u1_5_9_0, .inl (g0.2.1 1, 60, .inl (fun _ => 0))), (u1_5_9_1, .inl (g0.2.1 0, 60, .inl (fun _ => 0))), (u1_5_10, .inr (0, [.ref u1_5_11_0, .ref u1_5_11_1, .int 0])), (u1_5_11_0, .inl (g0.2.1 1, 60, .inl (fun _ => 0))), (u1_5_11_1, .inl (g0.2.1 0, 60, .inl (fun _ => 0))), (u1_5_12, .inr (0, [.ref u1_5_13_0, .ref u1_5_13_1, .int 0])), (u1_5_13_0, .inl (g0.2.1 1, 60, .inl (fun _ => 0))), (u1_5_13_1, .inl (g0.2.1 0, 60, .inl (fun _ => 0))), (u1_5_14, .inr (0, [.ref u1_5_15_0, .ref u1_5_15_1, .int 0])), (u1_5_15_0, .inl (g0.2.1 1, 60, .inl (fun _ => 0))), (u1_5_15_1, .inl (g0.2.1 0, 60, .inl (fun _ => 0))), (u1_5_16, .inr (0, [.ref u1_5_17_0, .ref u1_5_17_1, .int 0])), (u1_5_17_0, .inl (g0.2.1 1, 60, .inl (fun _ => 0))), (u1_5_17_1, .inl (g0.2.1 0, 60, .inl (fun _ => 0))), (u1_5_18, .inr (0, [.ref u1_5_19_0, .ref u1_5_19_1, .int 0])), (u1_5_19_0, .inl (g0.2.1 1, 60, .inl (fun _ => 0))), (u1_5_19_1, .inl (g0.2.1 0, 60, .inl (fun _ => 0))), (u1_5_20, .inr (0, [.ref u1_5_21_0, .ref u1_5_21_1, .int 0])), (u1_5_21_0, .inl (g0.2.1 1, 60, .inl (fun _ => 0))), (u1_5_21_1, .inl (g0.2.1 0, 60, .inl (fun _ => 0))), (u1_5_22, .inr (0, [.ref u1_5_23_0, .ref u1_5_23_1, .int 0])), (u1_5_23_0, .inl (g0.2.1 1, 60, .inl (fun _ => 0))), (u1_5_23_1, .inl (g0.2.1 0, 60, .inl (fun _ => 0))), (u1_5_24, .inr (0, [.ref u1_5_25_0, .ref u1_5_25_1, .int 0])), (u1_5_25_0, .inl (g0.2.1 1, 60, .inl (fun _ => 0))), (u1_5_25_1, .inl (g0.2.1 0, 60, .inl (fun _ => 0))), (u1_5_26, .inr (0, [.ref u1_5_27_0, .ref u1_5_27_1, .int 0])), (u1_5_27_0, .inl (g0.2.1 1, 60, .inl (fun _ => 0))), (u1_5_27_1, .inl (g0.2.1 0, 60, .inl (fun _ => 0))), (u1_5_28, .inr (0, [.ref u1_5_29_0, .ref u1_5_29_1, .int 0])), (u1_5_29_0, .inl (g0.2.1 1, 60, .inl (fun _ => 0))), (u1_5_29_1, .inl (g0.2.1 0, 60, .inl (fun _ => 0))), (u1_5_30, .inr (0, [.ref u1_5_31_0, .ref u1_5_31_1, .int 0])), (u1_5_31_0, .inl (g0.2.1 1, 60, .inl (fun _ => 0))), (u1_5_31_1, .inl (g0.2.1 0, 60, .inl (fun _ => 0))), (u1_5_32, .inr (0, [.ref u1_5_33_0, .ref u1_5_33_1, .int 0])), (u1_5_33_0, .inl (g0.2.1 1, 60, .inl (fun _ => 0))), (u1_5_33_1, .inl (g0.2.1 0, 60, .inl (fun _ => 0))), (u1_6, .inr (1, [.ref u1_7_0, .int 0])), (u1_7_0, .inr (0, [.ref u1_7_1_0, .ref u1_7_1_1, .int 0])), (u1_7_1_0, .inl (g0.2.1 1, 60, .inl (fun _ => 0))), (u1_7_1_1, .inl (g0.2.1 0, 60, .inl (fun _ => 0))), (u1_8, .inr (1, [.ref u1_9_0, .int 0])), (u1_9_0, .inr (0, [.ref u1_9_1_0, .ref u1_9_1_1, .int 0])), (u1_9_1_0, .inl (g0.2.1 1, 60, .inl (fun _ => 0))), (u1_9_1_1, .inl (g0.2.1 0, 60, .inl (fun _ => 0))), (u1_10, .inr (1, [.ref u1_11_0, .int 0])), (u1_11_0, .inr (0, [.ref u1_11_1_0, .ref u1_11_1_1, .int 0])), (u1_11_1_0, .inl (g0.2.1 1, 60, .inl (fun _ => 0))), (u1_11_1_1, .inl (g0.2.1 0, 60, .inl (fun _ => 0))), (u1_12, .inr (1, [.ref u1_13_0, .int 0])), (u1_13_0, .inr (0, [.ref u1_13_1_0, .ref u1_13_1_1, .int 0])), (u1_13_1_0, .inl (g0.2.1 1, 60, .inl (fun _ => 0))), (u1_13_1_1, .inl (g0.2.1 0, 60, .inl (fun _ => 0))), (u1_14, .inr (3, [.ref u1_1, .ref u1_3, .ref u1_15_0, .int (-1), .int 0, .int 8])), (u1_15_0, .inl (g0.2.1 0, 8, .inl (fun _ => 0))), (u1_16, .inr (4, [.ref u1_3, .ref u1_17_0, .int 0])), (u1_17_0, .inl (g0.2.1 2, 264, .inr (.inl (fun _ => 0)))), (u1_18, .inr (7, [.ref u1_1, .ref u1_3, .ref u1_4, .ref u1_19_0, .ref u1_19_4, .ref u1_19_6, .ref u1_19_2, .ref u1_19_3, .int 0])), (u1_19_0, .inr (0, [.ref u1_19_1_0, .ref u1_19_1_1, .int 0])), (u1_19_1_0, .inl (g0.2.1 1, 60, .inl (fun _ => 0))), (u1_19_1_1, .inl (g0.2.1 0, 60, .inl (fun _ => 0))), (u1_19_2, .inl (g0.2.1 0, 6, .inl (fun _ => 0))), (u1_19_3, .inl (g0.2.1 0, 60, .inl (fun _ => 0))), (u1_19_4, .inr (5, [.ref u1_19_5_0, .ref u1_1, .int 0])), (u1_19_5_0, .inl (g0.2.1 0, 8, .inl (fun j => if j < 8 then (-1) else 0))), (u1_19_6, .inr (6, [.ref u1_1, .ref u1_19_7_0])), (u1_19_7_0, .inl (g0.2.1 0, 6, .inl (fun j => if j < 6 then (-1) else 0))), (q2, .inr (9, [.null, .int 0, .null, .null, .int 0, .null, .null, .int 0, .null, .null, .null, .null, .int 0, .null, .null, .int 0, .int 0, .int 0, .null, .null, .null, .null, .null, .null, .null, .long 0, .null, .null, .null, .null, .null, .null, .null, .null, .null, .null]))] s.heap H _ := hw
  refine lv_dup hx hb d_law_11 rfl ?_
  refine n_callI (j := 87) (isR := [0, 1, 2, 3, 4, 5, 6, 7, 8, 9, 10, 11, 12, 13, 14, 15, 16, 17, 18, 19, 20, 21, 22, 23, 24, 25, 26, 27, 28, 29, 30, 31, 32, 33, 34, 35, 36, 37, 38, 39, 40, 41, 42, 43, 44, 45, 46, 47, 48, 49, 50, 51, 52, 53, 54, 55, 56, 57, 58, 59, 60, 61, 62, 63, 64, 65, 66, 67, 68, 69, 70, 71, 72, 73, 74, 75, 76, 77, 78, 79, 80, 81, 82, 83, 84, 85, 86]) (wr := [(q0, .inr (8, [.ref u1_0, .ref u1_1, .ref u1_3, .ref u1_4, .ref u1_14, .ref u1_16, .ref u1_18])), (u1_0, .inl (g0.2.1 2, 8, .inr (.inl (fun _ => 0)))), (u1_1, .inr (0, [.ref u1_2_0, .ref u1_2_1, .int 0])), (u1_2_0, .inl (g0.2.1 1, 60, .inl (fun _ => 0))), (u1_2_1, .inl (g0.2.1 0, 60, .inl (fun _ => 0))), (u1_3, .inl (g0.2.1 4, 4, .inr (.inr (.inr (.inr (va_up (va_up (va_up (va_up (fun _ => none) 0 (some u1_6)) 1 (some u1_8)) 2 (some u1_10)) 3 (some u1_12))))))), (u1_4, .inr (2, [.ref u1_5_0, .ref u1_5_1, .int 0])), (u1_5_0, .inl (g0.2.1 3, 16, .inr (.inr (.inr (.inr (va_up (va_up (va_up (va_up (va_up (va_up (va_up (va_up (va_up (va_up (va_up (va_up (va_up (va_up (va_up (va_up (fun _ => none) 0 (some u1_5_2)) 1 (some u1_5_4)) 2 (some u1_5_6)) 3 (some u1_5_8)) 4 (some u1_5_10)) 5 (some u1_5_12)) 6 (some u1_5_14)) 7 (some u1_5_16)) 8 (some u1_5_18)) 9 (some u1_5_20)) 10 (some u1_5_22)) 11 (some u1_5_24)) 12 (some u1_5_26)) 13 (some u1_5_28)) 14 (some u1_5_30)) 15 (some u1_5_32))))))), (u1_5_1, .inl (g0.2.1 0, 16, .inl (fun _ => 0))), (u1_5_2, .inr (0, [.ref u1_5_3_0, .ref u1_5_3_1, .int 0])), (u1_5_3_0, .inl (g0.2.1 1, 60, .inl (fun _ => 0))), (u1_5_3_1, .inl (g0.2.1 0, 60, .inl (fun _ => 0))), (u1_5_4, .inr (0, [.ref u1_5_5_0, .ref u1_5_5_1, .int 0])), (u1_5_5_0, .inl (g0.2.1 1, 60, .inl (fun _ => 0))), (u1_5_5_1, .inl (g0.2.1 0, 60, .inl (fun _ => 0))), (u1_5_6, .inr (0, [.ref u1_5_7_0, .ref u1_5_7_1, .int 0])), (u1_5_7_0, .inl (g0.2.1 1, 60, .inl (fun _ => 0))), (u1_5_7_1, .inl (g0.2.1 0, 60, .inl (fun _ => 0))), (u1_5_8, .inr (0, [.ref u1_5_9_0, .ref u1_5_9_1, .int 0])), (u1_5_9_0, .inl (g0.2.1 1, 60, .inl (fun _ => 0))), (u1_5_9_1, .inl (g0.2.1 0, 60, .inl (fun _ => 0))), (u1_5_10, .inr (0, [.ref u1_5_11_0, .ref u1_5_11_1, .int 0])), (u1_5_11_0, .inl (g0.2.1 1, 60, .inl (fun _ => 0))), (u1_5_11_1, .inl (g0.2.1 0, 60, .inl (fun _ => 0))), (u1_5_12, .inr (0, [.ref u1_5_13_0, .ref u1_5_13_1, .int 0])), (u1_5_13_0, .inl (g0.2.1 1, 60, .inl (fun _ => 0))), (u1_5_13_1, .inl (g0.2.1 0, 60, .inl (fun _ => 0))), (u1_5_14, .inr (0, [.ref u1_5_15_0, .ref u1_5_15_1, .int 0])), (u1_5_15_0, .inl (g0.2.1 1, 60, .inl (fun _ => 0))), (u1_5_15_1, .inl (g0.2.1 0, 60, .inl (fun _ => 0))), (u1_5_16, .inr (0, [.ref u1_5_17_0, .ref u1_5_17_1, .int 0])), (u1_5_17_0, .inl (g0.2.1 1, 60, .inl (fun _ => 0))), (u1_5_17_1, .inl (g0.2.1 0, 60, .inl (fun _ => 0))), (u1_5_18, .inr (0, [.ref u1_5_19_0, .ref u1_5_19_1, .int 0])), (u1_5_19_0, .inl (g0.2.1 1, 60, .inl (fun _ => 0))), (u1_5_19_1, .inl (g0.2.1 0, 60, .inl (fun _ => 0))), (u1_5_20, .inr (0, [.ref u1_5_21_0, .ref u1_5_21_1, .int 0])), (u1_5_21_0, .inl (g0.2.1 1, 60, .inl (fun _ => 0))), (u1_5_21_1, .inl (g0.2.1 0, 60, .inl (fun _ => 0))), (u1_5_22, .inr (0, [.ref u1_5_23_0, .ref u1_5_23_1, .int 0])), (u1_5_23_0, .inl (g0.2.1 1, 60, .inl (fun _ => 0))), (u1_5_23_1, .inl (g0.2.1 0, 60, .inl (fun _ => 0))), (u1_5_24, .inr (0, [.ref u1_5_25_0, .ref u1_5_25_1, .int 0])), (u1_5_25_0, .inl (g0.2.1 1, 60, .inl (fun _ => 0))), (u1_5_25_1, .inl (g0.2.1 0, 60, .inl (fun _ => 0))), (u1_5_26, .inr (0, [.ref u1_5_27_0, .ref u1_5_27_1, .int 0])), (u1_5_27_0, .inl (g0.2.1 1, 60, .inl (fun _ => 0))), (u1_5_27_1, .inl (g0.2.1 0, 60, .inl (fun _ => 0))), (u1_5_28, .inr (0, [.ref u1_5_29_0, .ref u1_5_29_1, .int 0])), (u1_5_29_0, .inl (g0.2.1 1, 60, .inl (fun _ => 0))), (u1_5_29_1, .inl (g0.2.1 0, 60, .inl (fun _ => 0))), (u1_5_30, .inr (0, [.ref u1_5_31_0, .ref u1_5_31_1, .int 0])), (u1_5_31_0, .inl (g0.2.1 1, 60, .inl (fun _ => 0))), (u1_5_31_1, .inl (g0.2.1 0, 60, .inl (fun _ => 0))), (u1_5_32, .inr (0, [.ref u1_5_33_0, .ref u1_5_33_1, .int 0])), (u1_5_33_0, .inl (g0.2.1 1, 60, .inl (fun _ => 0))), (u1_5_33_1, .inl (g0.2.1 0, 60, .inl (fun _ => 0))), (u1_6, .inr (1, [.ref u1_7_0, .int 0])), (u1_7_0, .inr (0, [.ref u1_7_1_0, .ref u1_7_1_1, .int 0])), (u1_7_1_0, .inl (g0.2.1 1, 60, .inl (fun _ => 0))), (u1_7_1_1, .inl (g0.2.1 0, 60, .inl (fun _ => 0))), (u1_8, .inr (1, [.ref u1_9_0, .int 0])), (u1_9_0, .inr (0, [.ref u1_9_1_0, .ref u1_9_1_1, .int 0])), (u1_9_1_0, .inl (g0.2.1 1, 60, .inl (fun _ => 0))), (u1_9_1_1, .inl (g0.2.1 0, 60, .inl (fun _ => 0))), (u1_10, .inr (1, [.ref u1_11_0, .int 0])), (u1_11_0, .inr (0, [.ref u1_11_1_0, .ref u1_11_1_1, .int 0])), (u1_11_1_0, .inl (g0.2.1 1, 60, .inl (fun _ => 0))), (u1_11_1_1, .inl (g0.2.1 0, 60, .inl (fun _ => 0))), (u1_12, .inr (1, [.ref u1_13_0, .int 0])), (u1_13_0, .inr (0, [.ref u1_13_1_0, .ref u1_13_1_1, .int 0])), (u1_13_1_0, .inl (g0.2.1 1, 60, .inl (fun _ => 0))), (u1_13_1_1, .inl (g0.2.1 0, 60, .inl (fun _ => 0))), (u1_14, .inr (3, [.ref u1_1, .ref u1_3, .ref u1_15_0, .int (-1), .int 0, .int 8])), (u1_15_0, .inl (g0.2.1 0, 8, .inl (fun _ => 0))), (u1_16, .inr (4, [.ref u1_3, .ref u1_17_0, .int 0])), (u1_17_0, .inl (g0.2.1 2, 264, .inr (.inl (fun _ => 0)))), (u1_18, .inr (7, [.ref u1_1, .ref u1_3, .ref u1_4, .ref u1_19_0, .ref u1_19_4, .ref u1_19_6, .ref u1_19_2, .ref u1_19_3, .int 0])), (u1_19_0, .inr (0, [.ref u1_19_1_0, .ref u1_19_1_1, .int 0])), (u1_19_1_0, .inl (g0.2.1 1, 60, .inl (fun _ => 0))), (u1_19_1_1, .inl (g0.2.1 0, 60, .inl (fun _ => 0))), (u1_19_2, .inl (g0.2.1 0, 6, .inl (fun _ => 0))), (u1_19_3, .inl (g0.2.1 0, 60, .inl (fun _ => 0))), (u1_19_4, .inr (5, [.ref u1_19_5_0, .ref u1_1, .int 0])), (u1_19_5_0, .inl (g0.2.1 0, 8, .inl (fun j => if j < 8 then (-1) else 0))), (u1_19_6, .inr (6, [.ref u1_1, .ref u1_19_7_0])), (u1_19_7_0, .inl (g0.2.1 0, 6, .inl (fun j => if j < 6 then (-1) else 0)))]) C ao hA hw hl.1 nl_AdjoinedSetsLaw_12 rfl rfl (by decide) (by decide) (As := []) (n_AdjoinedSetsModel_init l g0 q2) rfl ⟨Nat.le_of_ble_eq_true rfl, Nat.le_of_ble_eq_true rfl⟩ (Nat.le_of_ble_eq_true rfl) rfl (c' := 116) (s' := 6193) rfl rfl (Nat.le_of_ble_eq_true rfl) (Nat.le_of_ble_eq_true rfl) d_law_12 (fun u3 H locs hw => ?_)
  obtain ⟨u3_0, u3_1, u3_2, u3_3, u3_4, u3_5, u3_6, u3_7, u3_8, u3_9, u3_10, u3_11, u3_12, u3_13, u3_14, u3_15, u3_16, u3_17, u3_18, u3_19, u3_20, u3_21, u3_22, u3_23, u3_24, u3_25, u3_26, u3_27⟩ := u3
  have hw : NWd g0 A [(q0, .inr (8, [.ref u1_0, .ref u1_1, .ref u1_3, .ref u1_4, .ref u1_14, .ref u1_16, .ref u1_18])), (u1_0, .inl (g0.2.1 2, 8, .inr (.inl (fun _ => 0)))), (u1_1, .inr (0, [.ref u1_2_0, .ref u1_2_1, .int 0])), (u1_2_0, .inl (g0.2.1 1, 60, .inl (fun _ => 0))), (u1_2_1, .inl (g0.2.1 0, 60, .inl (fun _ => 0))), (u1_3, .inl (g0.2.1 4, 4, .inr (.inr (.inr (.inr (va_up (va_up (va_up (va_up (fun _ => none) 0 (some u1_6)) 1 (some u1_8)) 2 (some u1_10)) 3 (some u1_12))))))), (u1_4, .inr (2, [.ref u1_5_0, .ref u1_5_1, .int 0])), (u1_5_0, .inl (g0.2.1 3, 16, .inr (.inr (.inr (.inr (va_up (va_up (va_up (va_up (va_up (va_up (va_up (va_up (va_up (va_up (va_up (va_up (va_up (va_up (va_up (va_up (fun _ => none) 0 (some u1_5_2)) 1 (some u1_5_4)) 2 (some u1_5_6)) 3 (some u1_5_8)) 4 (some u1_5_10)) 5 (some u1_5_12)) 6 (some u1_5_14)) 7 (some u1_5_16)) 8 (some u1_5_18)) 9 (some u1_5_20)) 10 (some u1_5_22)) 11 (some u1_5_24)) 12 (some u1_5_26)) 13 (some u1_5_28)) 14 (some u1_5_30)) 15 (some u1_5_32))))))), (u1_5_1, .inl (g0.2.1 0, 16, .inl (fun _ => 0))), (u1_5_2, .inr (0, [.ref u1_5_3_0, .ref u1_5_3_1, .int 0])), (u1_5_3_0, .inl (g0.2.1 1, 60, .inl (fun _ => 0))), (u1_5_3_1, .inl (g0.2.1 0, 60, .inl (fun _ => 0))), (u1_5_4, .inr (0, [.ref u1_5_5_0, .ref u1_5_5_1, .int 0])), (u1_5_5_0, .inl (g0.2.1 1, 60, .inl (fun _ => 0))), (u1_5_5_1, .inl (g0.2.1 0, 60, .inl (fun _ => 0))), (u1_5_6, .inr (0, [.ref u1_5_7_0, .ref u1_5_7_1, .int 0])), (u1_5_7_0, .inl (g0.2.1 1, 60, .inl (fun _ => 0))), (u1_5_7_1, .inl (g0.2.1 0, 60, .inl (fun _ => 0))), (u1_5_8, .inr (0, [.ref u1_5_9_0, .ref u1_5_9_1, .int 0])), (u1_5_9_0, .inl (g0.2.1 1, 60, .inl (fun _ => 0))), (u1_5_9_1, .inl (g0.2.1 0, 60, .inl (fun _ => 0))), (u1_5_10, .inr (0, [.ref u1_5_11_0, .ref u1_5_11_1, .int 0])), (u1_5_11_0, .inl (g0.2.1 1, 60, .inl (fun _ => 0))), (u1_5_11_1, .inl (g0.2.1 0, 60, .inl (fun _ => 0))), (u1_5_12, .inr (0, [.ref u1_5_13_0, .ref u1_5_13_1, .int 0])), (u1_5_13_0, .inl (g0.2.1 1, 60, .inl (fun _ => 0))), (u1_5_13_1, .inl (g0.2.1 0, 60, .inl (fun _ => 0))), (u1_5_14, .inr (0, [.ref u1_5_15_0, .ref u1_5_15_1, .int 0])), (u1_5_15_0, .inl (g0.2.1 1, 60, .inl (fun _ => 0))), (u1_5_15_1, .inl (g0.2.1 0, 60, .inl (fun _ => 0))), (u1_5_16, .inr (0, [.ref u1_5_17_0, .ref u1_5_17_1, .int 0])), (u1_5_17_0, .inl (g0.2.1 1, 60, .inl (fun _ => 0))), (u1_5_17_1, .inl (g0.2.1 0, 60, .inl (fun _ => 0))), (u1_5_18, .inr (0, [.ref u1_5_19_0, .ref u1_5_19_1, .int 0])), (u1_5_19_0, .inl (g0.2.1 1, 60, .inl (fun _ => 0))), (u1_5_19_1, .inl (g0.2.1 0, 60, .inl (fun _ => 0))), (u1_5_20, .inr (0, [.ref u1_5_21_0, .ref u1_5_21_1, .int 0])), (u1_5_21_0, .inl (g0.2.1 1, 60, .inl (fun _ => 0))), (u1_5_21_1, .inl (g0.2.1 0, 60, .inl (fun _ => 0))), (u1_5_22, .inr (0, [.ref u1_5_23_0, .ref u1_5_23_1, .int 0])), (u1_5_23_0, .inl (g0.2.1 1, 60, .inl (fun _ => 0))), (u1_5_23_1, .inl (g0.2.1 0, 60, .inl (fun _ => 0))), (u1_5_24, .inr (0, [.ref u1_5_25_0, .ref u1_5_25_1, .int 0])), (u1_5_25_0, .inl (g0.2.1 1, 60, .inl (fun _ => 0))), (u1_5_25_1, .inl (g0.2.1 0, 60, .inl (fun _ => 0))), (u1_5_26, .inr (0, [.ref u1_5_27_0, .ref u1_5_27_1, .int 0])), (u1_5_27_0, .inl (g0.2.1 1, 60, .inl (fun _ => 0))), (u1_5_27_1, .inl (g0.2.1 0, 60, .inl (fun _ => 0))), (u1_5_28, .inr (0, [.ref u1_5_29_0, .ref u1_5_29_1, .int 0])), (u1_5_29_0, .inl (g0.2.1 1, 60, .inl (fun _ => 0))), (u1_5_29_1, .inl (g0.2.1 0, 60, .inl (fun _ => 0))), (u1_5_30, .inr (0, [.ref u1_5_31_0, .ref u1_5_31_1, .int 0])), (u1_5_31_0, .inl (g0.2.1 1, 60, .inl (fun _ => 0))), (u1_5_31_1, .inl (g0.2.1 0, 60, .inl (fun _ => 0))), (u1_5_32, .inr (0, [.ref u1_5_33_0, .ref u1_5_33_1, .int 0])), (u1_5_33_0, .inl (g0.2.1 1, 60, .inl (fun _ => 0))), (u1_5_33_1, .inl (g0.2.1 0, 60, .inl (fun _ => 0))), (u1_6, .inr (1, [.ref u1_7_0, .int 0])), (u1_7_0, .inr (0, [.ref u1_7_1_0, .ref u1_7_1_1, .int 0])), (u1_7_1_0, .inl (g0.2.1 1, 60, .inl (fun _ => 0))), (u1_7_1_1, .inl (g0.2.1 0, 60, .inl (fun _ => 0))), (u1_8, .inr (1, [.ref u1_9_0, .int 0])), (u1_9_0, .inr (0, [.ref u1_9_1_0, .ref u1_9_1_1, .int 0])), (u1_9_1_0, .inl (g0.2.1 1, 60, .inl (fun _ => 0))), (u1_9_1_1, .inl (g0.2.1 0, 60, .inl (fun _ => 0))), (u1_10, .inr (1, [.ref u1_11_0, .int 0])), (u1_11_0, .inr (0, [.ref u1_11_1_0, .ref u1_11_1_1, .int 0])), (u1_11_1_0, .inl (g0.2.1 1, 60, .inl (fun _ => 0))), (u1_11_1_1, .inl (g0.2.1 0, 60, .inl (fun _ => 0))), (u1_12, .inr (1, [.ref u1_13_0, .int 0])), (u1_13_0, .inr (0, [.ref u1_13_1_0, .ref u1_13_1_1, .int 0])), (u1_13_1_0, .inl (g0.2.1 1, 60, .inl (fun _ => 0))), (u1_13_1_1, .inl (g0.2.1 0, 60, .inl (fun _ => 0))), (u1_14, .inr (3, [.ref u1_1, .ref u1_3, .ref u1_15_0, .int (-1), .int 0, .int 8])), (u1_15_0, .inl (g0.2.1 0, 8, .inl (fun _ => 0))), (u1_16, .inr (4, [.ref u1_3, .ref u1_17_0, .int 0])), (u1_17_0, .inl (g0.2.1 2, 264, .inr (.inl (fun _ => 0)))), (u1_18, .inr (7, [.ref u1_1, .ref u1_3, .ref u1_4, .ref u1_19_0, .ref u1_19_4, .ref u1_19_6, .ref u1_19_2, .ref u1_19_3, .int 0])), (u1_19_0, .inr (0, [.ref u1_19_1_0, .ref u1_19_1_1, .int 0])), (u1_19_1_0, .inl (g0.2.1 1, 60, .inl (fun _ => 0))), (u1_19_1_1, .inl (g0.2.1 0, 60, .inl (fun _ => 0))), (u1_19_2, .inl (g0.2.1 0, 6, .inl (fun _ => 0))), (u1_19_3, .inl (g0.2.1 0, 60, .inl (fun _ => 0))), (u1_19_4, .inr (5, [.ref u1_19_5_0, .ref u1_1, .int 0])), (u1_19_5_0, .inl (g0.2.1 0, 8, .inl (fun j => if j < 8 then (-1) else 0))), (u1_19_6, .inr (6, [.ref u1_1, .ref u1_19_7_0])), (u1_19_7_0, .inl (g0.2.1 0, 6, .inl (fun j => if j < 6 then (-1) else 0))), (q2, .inr (9, [.ref u3_0, .int 0, .ref u3_1, .ref u3_2, .int 0, .ref u3_3, .ref u3_4, .int 0, .ref u3_5, .ref u3_6, .ref u3_7, .ref u3_8, .int 0, .ref u3_9, .ref u3_10, .int 0, .int 0, .int 0, .ref u3_11, .ref u3_12, .ref u3_13, .ref u3_14, .ref u3_15, .ref u3_16, .ref u3_17, .long 0, .ref u3_18, .ref u3_19, .ref u3_20, .ref u3_21, .ref u3_22, .ref u3_23, .ref u3_24, .ref u3_25, .ref u3_26, .ref u3_27])), (u3_0, .inl (g0.2.1 0, 1500, .inl (fun _ => 0))), (u3_1, .inl (g0.2.1 2, 8, .inr (.inl (fun _ => 0)))), (u3_2, .inl (g0.2.1 0, 4, .inl (fun _ => 0))), (u3_3, .inl (g0.2.1 0, 16, .inl (fun _ => 0))), (u3_4, .inl (g0.2.1 0, 16, .inl (fun _ => 0))), (u3_5, .inl (g0.2.1 0, 200, .inl (fun _ => 0))), (u3_6, .inl (g0.2.1 0, 200, .inl (fun _ => 0))), (u3_7, .inl (g0.2.1 0, 200, .inl (fun _ => 0))), (u3_8, .inl (g0.2.1 0, 200, .inl (fun _ => 0))), (u3_9, .inl (g0.2.1 5, 64, .inl (fun _ => 0))), (u3_10, .inl (g0.2.1 0, 64, .inl (fun _ => 0))), (u3_11, .inl (g0.2.1 0, 32, .inl (fun _ => 0))), (u3_12, .inl (g0.2.1 0, 32, .inl (fun _ => 0))), (u3_13, .inl (g0.2.1 0, 32, .inl (fun _ => 0))), (u3_14, .inl (g0.2.1 0, 32, .inl (fun _ => 0))), (u3_15, .inl (g0.2.1 2, 32, .inr (.inl (fun _ => 0)))), (u3_16, .inl (g0.2.1 2, 32, .inr (.inl (fun _ => 0)))), (u3_17, .inl (g0.2.1 2, 32, .inr (.inl (fun _ => 0)))), (u3_18, .inl (g0.2.1 0, 140, .inl (pat 140))), (u3_19, .inl (g0.2.1 0, 7, .inl (fun _ => 0))), (u3_20, .inl (g0.2.1 0, 7, .inl (fun _ => 0))), (u3_21, .inl (g0.2.1 0, 8, .inl (fun _ => 0))), (u3_22, .inl (g0.2.1 0, 8, .inl (fun _ => 0))), (u3_23, .inl (g0.2.1 0, 8, .inl (fun _ => 0))), (u3_24, .inl (g0.2.1 0, 64, .inl (fun _ => 0))), (u3_25, .inl (g0.2.1 0, 6, .inl (fun _ => 0))), (u3_26, .inl (g0.2.1 0, 6, .inl (fun _ => 0))), (u3_27, .inl (g0.2.1 5, 64, .inl (fun _ => 0)))] s.heap H _ := hw
  refine lv_astore_n hx hb d_law_15 rfl hl (by decide) (lv' := [(2, .ref q2), (1, .ref q0), (0, .ref b)]) rfl (fun ls hl => ?_)
  refine lv_iconst (v := 0) hx hb d_law_16 (by decide) ?_
  refine lv_istore_n hx hb d_law_17 rfl hl (by decide) (lv' := [(3, .int 0), (2, .ref q2), (1, .ref q0), (0, .ref b)]) rfl (fun ls hl => ?_)
  subst eg
  subst eA
  obtain ⟨z, hs, hz⟩ := hp
  obtain ⟨ad, ead⟩ : ∃ ad : Nat → Nat, ad = fun n => ([q0, u1_0, u1_3, u1_4, u1_14, u1_16, u1_18, u1_5_0, u1_5_1, u1_15_0, u1_17_0, u1_19_4, u1_19_6, u1_19_5_0, u1_19_7_0, u1_19_2, u1_19_3, u1_6, u1_8, u1_10, u1_12, 0, 0, 0, 0, 0, 0, 0, 0, 0, 0, 0, 0, 0, 0, 0, 0, 0, 0, 0, 0, 0, 0, 0, 0, 0, 0, 0, 0, 0, 0, 0, 0, 0, 0, 0, 0, 0, 0, 0, 0, 0, 0, 0, 0, 0, 0, 0, 0, 0, 0, 0, 0, 0, 0, 0, 0, 0, 0, 0, 0, 0, 0, 0, 0, 0, 0, 0, 0, 0, 0, 0, 0, 0, 0, 0, 0, 0, 0, 0, u1_1, u1_2_0, u1_2_1, u1_19_0, u1_19_1_0, u1_19_1_1, u1_7_0, u1_7_1_0, u1_7_1_1, u1_9_0, u1_9_1_0, u1_9_1_1, u1_11_0, u1_11_1_0, u1_11_1_1, u1_13_0, u1_13_1_0, u1_13_1_1, u1_5_2, u1_5_3_0, u1_5_3_1, u1_5_4, u1_5_5_0, u1_5_5_1, u1_5_6, u1_5_7_0, u1_5_7_1, u1_5_8, u1_5_9_0, u1_5_9_1, u1_5_10, u1_5_11_0, u1_5_11_1, u1_5_12, u1_5_13_0, u1_5_13_1, u1_5_14, u1_5_15_0, u1_5_15_1, u1_5_16, u1_5_17_0, u1_5_17_1, u1_5_18, u1_5_19_0, u1_5_19_1, u1_5_20, u1_5_21_0, u1_5_21_1, u1_5_22, u1_5_23_0, u1_5_23_1, u1_5_24, u1_5_25_0, u1_5_25_1, u1_5_26, u1_5_27_0, u1_5_27_1, u1_5_28, u1_5_29_0, u1_5_29_1, u1_5_30, u1_5_31_0, u1_5_31_1, u1_5_32, u1_5_33_0, u1_5_33_1, 0, 0, 0, 0, 0, 0, 0, 0, 0, 0, 0, 0, 0, 0, 0, 0, 0, 0, 0, 0, 0, 0, 0, 0, 0, 0, 0, 0, 0, 0, 0, 0, 0, 0, q2, u3_0, u3_1, u3_2, u3_3, u3_4, u3_5, u3_6, u3_7, u3_8, u3_9, u3_10, u3_11, u3_12, u3_13, u3_14, u3_15, u3_16, u3_17, u3_18, u3_19, u3_20, u3_21, u3_22, u3_23, u3_24, u3_25, u3_26, u3_27] : List Nat).getD n 0 := ⟨_, rfl⟩
  have key : ∀ n ∈ names, va_at D classes (ad n, cG (D, AK, adK, adV, fmt, ad) h00 n) H := by
    subst ead
    show ∀ n ∈ ([0, 1, 2, 3, 4, 5, 6, 7, 8, 9, 10, 11, 12, 13, 14, 15, 16, 17, 18, 19, 20, 100, 101, 102, 103, 104, 105, 106, 107, 108, 109, 110, 111, 112, 113, 114, 115, 116, 117, 118, 119, 120, 121, 122, 123, 124, 125, 126, 127, 128, 129, 130, 131, 132, 133, 134, 135, 136, 137, 138, 139, 140, 141, 142, 143, 144, 145, 146, 147, 148, 149, 150, 151, 152, 153, 154, 155, 156, 157, 158, 159, 160, 161, 162, 163, 164, 165, 200, 201, 202, 203, 204, 205, 206, 207, 208, 209, 210, 211, 212, 213, 214, 215, 216, 217, 218, 219, 220, 221, 222, 223, 224, 225, 226, 227, 228] : List Nat), _
    exact List.forall_mem_cons.mpr ⟨(hw.1 0 _ rfl),
    List.forall_mem_cons.mpr ⟨(hw.1 1 _ rfl),
    List.forall_mem_cons.mpr ⟨(at_ref (hw.1 5 _ rfl) (fun j hj => by rcases j with _ | _ | _ | _ | j <;> first | rfl | omega)),
    List.forall_mem_cons.mpr ⟨(hw.1 6 _ rfl),
    List.forall_mem_cons.mpr ⟨(hw.1 73 _ rfl),
    List.forall_mem_cons.mpr ⟨(hw.1 75 _ rfl),
    List.forall_mem_cons.mpr ⟨(hw.1 77 _ rfl),
    List.forall_mem_cons.mpr ⟨(at_ref (hw.1 7 _ rfl) (fun j hj => by rcases j with _ | _ | _ | _ | _ | _ | _ | _ | _ | _ | _ | _ | _ | _ | _ | _ | j <;> first | rfl | omega)),
    List.forall_mem_cons.mpr ⟨(hw.1 8 _ rfl),
    List.forall_mem_cons.mpr ⟨(hw.1 74 _ rfl),
    List.forall_mem_cons.mpr ⟨(hw.1 76 _ rfl),
    List.forall_mem_cons.mpr ⟨(hw.1 83 _ rfl),
    List.forall_mem_cons.mpr ⟨(hw.1 85 _ rfl),
    List.forall_mem_cons.mpr ⟨(hw.1 84 _ rfl),
    List.forall_mem_cons.mpr ⟨(hw.1 86 _ rfl),
    List.forall_mem_cons.mpr ⟨(hw.1 81 _ rfl),
    List.forall_mem_cons.mpr ⟨(hw.1 82 _ rfl),
    List.forall_mem_cons.mpr ⟨(hw.1 57 _ rfl),
    List.forall_mem_cons.mpr ⟨(hw.1 61 _ rfl),
    List.forall_mem_cons.mpr ⟨(hw.1 65 _ rfl),
    List.forall_mem_cons.mpr ⟨(hw.1 69 _ rfl),
    List.forall_mem_cons.mpr ⟨(hw.1 2 _ rfl),
    List.forall_mem_cons.mpr ⟨(hw.1 3 _ rfl),
    List.forall_mem_cons.mpr ⟨(hw.1 4 _ rfl),
    List.forall_mem_cons.mpr ⟨(hw.1 78 _ rfl),
    List.forall_mem_cons.mpr ⟨(hw.1 79 _ rfl),
    List.forall_mem_cons.mpr ⟨(hw.1 80 _ rfl),
    List.forall_mem_cons.mpr ⟨(hw.1 58 _ rfl),
    List.forall_mem_cons.mpr ⟨(hw.1 59 _ rfl),
    List.forall_mem_cons.mpr ⟨(hw.1 60 _ rfl),
    List.forall_mem_cons.mpr ⟨(hw.1 62 _ rfl),
    List.forall_mem_cons.mpr ⟨(hw.1 63 _ rfl),
    List.forall_mem_cons.mpr ⟨(hw.1 64 _ rfl),
    List.forall_mem_cons.mpr ⟨(hw.1 66 _ rfl),
    List.forall_mem_cons.mpr ⟨(hw.1 67 _ rfl),
    List.forall_mem_cons.mpr ⟨(hw.1 68 _ rfl),
    List.forall_mem_cons.mpr ⟨(hw.1 70 _ rfl),
    List.forall_mem_cons.mpr ⟨(hw.1 71 _ rfl),
    List.forall_mem_cons.mpr ⟨(hw.1 72 _ rfl),
    List.forall_mem_cons.mpr ⟨(hw.1 9 _ rfl),
    List.forall_mem_cons.mpr ⟨(hw.1 10 _ rfl),
    List.forall_mem_cons.mpr ⟨(hw.1 11 _ rfl),
    List.forall_mem_cons.mpr ⟨(hw.1 12 _ rfl),
    List.forall_mem_cons.mpr ⟨(hw.1 13 _ rfl),
    List.forall_mem_cons.mpr ⟨(hw.1 14 _ rfl),
    List.forall_mem_cons.mpr ⟨(hw.1 15 _ rfl),
    List.forall_mem_cons.mpr ⟨(hw.1 16 _ rfl),
    List.forall_mem_cons.mpr ⟨(hw.1 17 _ rfl),
    List.forall_mem_cons.mpr ⟨(hw.1 18 _ rfl),
    List.forall_mem_cons.mpr ⟨(hw.1 19 _ rfl),
    List.forall_mem_cons.mpr ⟨(hw.1 20 _ rfl),
    List.forall_mem_cons.mpr ⟨(hw.1 21 _ rfl),
    List.forall_mem_cons.mpr ⟨(hw.1 22 _ rfl),
    List.forall_mem_cons.mpr ⟨(hw.1 23 _ rfl),
    List.forall_mem_cons.mpr ⟨(hw.1 24 _ rfl),
    List.forall_mem_cons.mpr ⟨(hw.1 25 _ rfl),
    List.forall_mem_cons.mpr ⟨(hw.1 26 _ rfl),
    List.forall_mem_cons.mpr ⟨(hw.1 27 _ rfl),
    List.forall_mem_cons.mpr ⟨(hw.1 28 _ rfl),
    List.forall_mem_cons.mpr ⟨(hw.1 29 _ rfl),
    List.forall_mem_cons.mpr ⟨(hw.1 30 _ rfl),
    List.forall_mem_cons.mpr ⟨(hw.1 31 _ rfl),
    List.forall_mem_cons.mpr ⟨(hw.1 32 _ rfl),
    List.forall_mem_cons.mpr ⟨(hw.1 33 _ rfl),
    List.forall_mem_cons.mpr ⟨(hw.1 34 _ rfl),
    List.forall_mem_cons.mpr ⟨(hw.1 35 _ rfl),
    List.forall_mem_cons.mpr ⟨(hw.1 36 _ rfl),
    List.forall_mem_cons.mpr ⟨(hw.1 37 _ rfl),
    List.forall_mem_cons.mpr ⟨(hw.1 38 _ rfl),
    List.forall_mem_cons.mpr ⟨(hw.1 39 _ rfl),
    List.forall_mem_cons.mpr ⟨(hw.1 40 _ rfl),
    List.forall_mem_cons.mpr ⟨(hw.1 41 _ rfl),
    List.forall_mem_cons.mpr ⟨(hw.1 42 _ rfl),
    List.forall_mem_cons.mpr ⟨(hw.1 43 _ rfl),
    List.forall_mem_cons.mpr ⟨(hw.1 44 _ rfl),
    List.forall_mem_cons.mpr ⟨(hw.1 45 _ rfl),
    List.forall_mem_cons.mpr ⟨(hw.1 46 _ rfl),
    List.forall_mem_cons.mpr ⟨(hw.1 47 _ rfl),
    List.forall_mem_cons.mpr ⟨(hw.1 48 _ rfl),
    List.forall_mem_cons.mpr ⟨(hw.1 49 _ rfl),
    List.forall_mem_cons.mpr ⟨(hw.1 50 _ rfl),
    List.forall_mem_cons.mpr ⟨(hw.1 51 _ rfl),
    List.forall_mem_cons.mpr ⟨(hw.1 52 _ rfl),
    List.forall_mem_cons.mpr ⟨(hw.1 53 _ rfl),
    List.forall_mem_cons.mpr ⟨(hw.1 54 _ rfl),
    List.forall_mem_cons.mpr ⟨(hw.1 55 _ rfl),
    List.forall_mem_cons.mpr ⟨(hw.1 56 _ rfl),
    List.forall_mem_cons.mpr ⟨(hw.1 87 _ rfl),
    List.forall_mem_cons.mpr ⟨(hw.1 88 _ rfl),
    List.forall_mem_cons.mpr ⟨(hw.1 89 _ rfl),
    List.forall_mem_cons.mpr ⟨(hw.1 90 _ rfl),
    List.forall_mem_cons.mpr ⟨(hw.1 91 _ rfl),
    List.forall_mem_cons.mpr ⟨(hw.1 92 _ rfl),
    List.forall_mem_cons.mpr ⟨(hw.1 93 _ rfl),
    List.forall_mem_cons.mpr ⟨(hw.1 94 _ rfl),
    List.forall_mem_cons.mpr ⟨(hw.1 95 _ rfl),
    List.forall_mem_cons.mpr ⟨(hw.1 96 _ rfl),
    List.forall_mem_cons.mpr ⟨(hw.1 97 _ rfl),
    List.forall_mem_cons.mpr ⟨(hw.1 98 _ rfl),
    List.forall_mem_cons.mpr ⟨(hw.1 99 _ rfl),
    List.forall_mem_cons.mpr ⟨(hw.1 100 _ rfl),
    List.forall_mem_cons.mpr ⟨(hw.1 101 _ rfl),
    List.forall_mem_cons.mpr ⟨(hw.1 102 _ rfl),
    List.forall_mem_cons.mpr ⟨(hw.1 103 _ rfl),
    List.forall_mem_cons.mpr ⟨(hw.1 104 _ rfl),
    List.forall_mem_cons.mpr ⟨(hw.1 105 _ rfl),
    List.forall_mem_cons.mpr ⟨(hw.1 106 _ rfl),
    List.forall_mem_cons.mpr ⟨(hw.1 107 _ rfl),
    List.forall_mem_cons.mpr ⟨(hw.1 108 _ rfl),
    List.forall_mem_cons.mpr ⟨(hw.1 109 _ rfl),
    List.forall_mem_cons.mpr ⟨(hw.1 110 _ rfl),
    List.forall_mem_cons.mpr ⟨(hw.1 111 _ rfl),
    List.forall_mem_cons.mpr ⟨(hw.1 112 _ rfl),
    List.forall_mem_cons.mpr ⟨(hw.1 113 _ rfl),
    List.forall_mem_cons.mpr ⟨(hw.1 114 _ rfl),
    List.forall_mem_cons.mpr ⟨(hw.1 115 _ rfl),
    fun _ h => absurd h List.not_mem_nil⟩⟩⟩⟩⟩⟩⟩⟩⟩⟩⟩⟩⟩⟩⟩⟩⟩⟩⟩⟩⟩⟩⟩⟩⟩⟩⟩⟩⟩⟩⟩⟩⟩⟩⟩⟩⟩⟩⟩⟩⟩⟩⟩⟩⟩⟩⟩⟩⟩⟩⟩⟩⟩⟩⟩⟩⟩⟩⟩⟩⟩⟩⟩⟩⟩⟩⟩⟩⟩⟩⟩⟩⟩⟩⟩⟩⟩⟩⟩⟩⟩⟩⟩⟩⟩⟩⟩⟩⟩⟩⟩⟩⟩⟩⟩⟩⟩⟩⟩⟩⟩⟩⟩⟩⟩⟩⟩⟩⟩⟩⟩⟩⟩⟩⟩⟩
  have hP1 : va_P D classes (wl (D, AK, adK, adV, fmt, ad) h00) H := by
    intro k q hk
    obtain ⟨n, hn, e1⟩ := List.mem_map.mp (List.mem_of_getElem? hk)
    rw [← e1]
    exact key n hn
  have hD1 : va_D (fun q => s.heap.size ≤ q) (wl (D, AK, adK, adV, fmt, ad) h00) := D_perm (ad := ad) (E := cG (D, AK, adK, adV, fmt, ad) h00) (nms := names) hw.2.1 [0, 1, 5, 6, 73, 75, 77, 7, 8, 74, 76, 83, 85, 84, 86, 81, 82, 57, 61, 65, 69, 2, 3, 4, 78, 79, 80, 58, 59, 60, 62, 63, 64, 66, 67, 68, 70, 71, 72, 9, 10, 11, 12, 13, 14, 15, 16, 17, 18, 19, 20, 21, 22, 23, 24, 25, 26, 27, 28, 29, 30, 31, 32, 33, 34, 35, 36, 37, 38, 39, 40, 41, 42, 43, 44, 45, 46, 47, 48, 49, 50, 51, 52, 53, 54, 55, 56, 87, 88, 89, 90, 91, 92, 93, 94, 95, 96, 97, 98, 99, 100, 101, 102, 103, 104, 105, 106, 107, 108, 109, 110, 111, 112, 113, 114, 115] (by decide) (by subst ead; rfl)
  have hl : lv_has ls 4 [(0, .ref b), (1, .ref (ad 0)), (2, .ref (ad 200)), (3, .int 0)] := lv_sub hl [3, 2, 1, 0] (by subst ead; rfl)
  refine W.widen (k := 600000) (n := 7302249) (Nat.le_of_ble_eq_true rfl) (Nat.le_of_ble_eq_true rfl) ?_
  exact k_law_18 (g := (D, AK, adK, adV, fmt, ad)) (C1 ad) xs L hX hbl hz 20000 ⟨hP1, hD1, hw.2.2⟩ hl hs
