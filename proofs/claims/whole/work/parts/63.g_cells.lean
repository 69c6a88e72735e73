theorem at_ref {D : va_G} {cl : List vw_C} {q : Nat} {cA : ClassId} {n : Nat} {f f' : Nat → Option Nat} {H : Heap} (h : va_at D cl (q, .inl (cA, n, .inr (.inr (.inr (.inr f))))) H) (hf : ∀ j, j < n → f j = f' j) : va_at D cl (q, .inl (cA, n, .inr (.inr (.inr (.inr f'))))) H := by
  show H[q]? = some (vp_cell cA (n, .inr (.inr (.inr (.inr f')))))
  have h : H[q]? = some (vp_cell cA (n, .inr (.inr (.inr (.inr f))))) := h
  rw [h, vp_cell_q, vp_cell_q]
  congr 1
  unfold arrV
  congr 1
  apply Array.ext
  · simp
  · intro i h1 h2
    simp at h1
    simp [hf i (by simpa using h1)]
theorem D_perm {A : Nat → Prop} {ws : va_W} {ad : Nat → Nat} {E : Nat → va_E} {nms : List Nat} (hD : va_D A ws) (is : List Nat) (hn : va_nd is = true) (hs : is.map (fun i => (ws[i]?).map (fun q => q.1)) = nms.map (fun n => some (ad n))) : va_D A (nms.map (fun n => (ad n, E n))) := by
  have key : ∀ (k : Nat) (q : Nat × va_E), (nms.map (fun n => (ad n, E n)))[k]? = some q → ∃ (i : Nat) (p : Nat × va_E), is[k]? = some i ∧ ws[i]? = some p ∧ p.1 = q.1 := by
    intro k q hk
    rw [List.getElem?_map] at hk
    cases hn : nms[k]? with
    | none => rw [hn] at hk; cases hk
    | some n =>
      rw [hn] at hk
      have hq : (ad n, E n) = q := Option.some.inj hk
      have h1 : (is.map (fun i => (ws[i]?).map (fun q => q.1)))[k]? = some (some (ad n)) := by rw [hs, List.getElem?_map, hn]; rfl
      rw [List.getElem?_map] at h1
      cases hi : is[k]? with
      | none => rw [hi] at h1; cases h1
      | some i =>
        rw [hi] at h1
        have h2 : (ws[i]?).map (fun q => q.1) = some (ad n) := Option.some.inj h1
        cases hw : ws[i]? with
        | none => rw [hw] at h2; cases h2
        | some p =>
          rw [hw] at h2
          exact ⟨i, p, rfl, hw, by rw [← hq]; exact Option.some.inj h2⟩
  refine ⟨fun i j x y hi hj hxy => ?_, fun k q hk => ?_⟩
  · obtain ⟨a, p, h1, h2, h3⟩ := key i x hi
    obtain ⟨b, r, h4, h5, h6⟩ := key j y hj
    have hab := hD.1 a b p r h2 h5 (h3.trans (hxy.trans h6.symm))
    subst hab
    exact va_nd_inj is hn i j a h1 h4
  · obtain ⟨a, p, -, h2, h3⟩ := key k q hk
    rw [← h3]
    exact hD.2 a p h2
theorem cl_0 (g : GG) : cG g h00 0 = .inr (8, [.ref (aD g 1), .ref (aD g 100), .ref (aD g 2), .ref (aD g 3), .ref (aD g 4), .ref (aD g 5), .ref (aD g 6)]) := by
  rw [cG_o (k := 8) (by decide +kernel) (by decide)]
  unfold fVs
  rw [show fO 0 = [4, 103, 5, 6, 7, 8, 9] by decide +kernel]
  simp only [List.mapIdx_cons, List.mapIdx_nil]
  rfl
theorem cl_1 (g : GG) : cG g h00 1 = .inl (g.2.1 2, 8, .inr (.inl (fun _ => 0))) := by
  rw [cG_a (k := 2) (by decide +kernel) (by decide)]
  unfold aV
  rw [show kA 1 = 2 by decide +kernel, show lA 1 = 8 by decide +kernel]
  rfl
theorem cl_2 (g : GG) : cG g h00 2 = .inl (g.2.1 4, 4, .inr (.inr (.inr (.inr (fun i => some (aD g (eA 2 i))))))) := by
  rw [cG_a (k := 4) (by decide +kernel) (by decide)]
  unfold aV
  rw [show kA 2 = 4 by decide +kernel, show lA 2 = 4 by decide +kernel]
  rfl
theorem cl_3 (g : GG) : cG g h00 3 = .inr (2, [.ref (aD g 7), .ref (aD g 8), .int 0]) := by
  rw [cG_o (k := 2) (by decide +kernel) (by decide)]
  unfold fVs
  rw [show fO 3 = [10, 11, 0] by decide +kernel]
  simp only [List.mapIdx_cons, List.mapIdx_nil]
  rfl
theorem cl_4 (g : GG) : cG g h00 4 = .inr (3, [.ref (aD g 100), .ref (aD g 2), .ref (aD g 9), .int (-1), .int 0, .int 8]) := by
  rw [cG_o (k := 3) (by decide +kernel) (by decide)]
  unfold fVs
  rw [show fO 4 = [103, 5, 12, 0, 0, 0] by decide +kernel]
  simp only [List.mapIdx_cons, List.mapIdx_nil]
  rfl
theorem cl_5 (g : GG) : cG g h00 5 = .inr (4, [.ref (aD g 2), .ref (aD g 10), .int 0]) := by
  rw [cG_o (k := 4) (by decide +kernel) (by decide)]
  unfold fVs
  rw [show fO 5 = [5, 13, 0] by decide +kernel]
  simp only [List.mapIdx_cons, List.mapIdx_nil]
  rfl
theorem cl_6 (g : GG) : cG g h00 6 = .inr (7, [.ref (aD g 100), .ref (aD g 2), .ref (aD g 3), .ref (aD g 103), .ref (aD g 11), .ref (aD g 12), .ref (aD g 15), .ref (aD g 16), .int 0]) := by
  rw [cG_o (k := 7) (by decide +kernel) (by decide)]
  unfold fVs
  rw [show fO 6 = [103, 5, 6, 106, 14, 15, 18, 19, 0] by decide +kernel]
  simp only [List.mapIdx_cons, List.mapIdx_nil]
  rfl
theorem cl_7 (g : GG) : cG g h00 7 = .inl (g.2.1 3, 16, .inr (.inr (.inr (.inr (fun i => some (aD g (eA 7 i))))))) := by
  rw [cG_a (k := 3) (by decide +kernel) (by decide)]
  unfold aV
  rw [show kA 7 = 3 by decide +kernel, show lA 7 = 16 by decide +kernel]
  rfl
theorem cl_8 (g : GG) : cG g h00 8 = .inl (g.2.1 0, 16, .inl (fun _ => 0)) := by
  rw [cG_a (k := 0) (by decide +kernel) (by decide)]
  unfold aV
  rw [show kA 8 = 0 by decide +kernel, show lA 8 = 16 by decide +kernel]
  rfl
theorem cl_9 (g : GG) : cG g h00 9 = .inl (g.2.1 0, 8, .inl (fun _ => 0)) := by
  rw [cG_a (k := 0) (by decide +kernel) (by decide)]
  unfold aV
  rw [show kA 9 = 0 by decide +kernel, show lA 9 = 8 by decide +kernel]
  rfl
theorem cl_10 (g : GG) : cG g h00 10 = .inl (g.2.1 2, 264, .inr (.inl (fun _ => 0))) := by
  rw [cG_a (k := 2) (by decide +kernel) (by decide)]
  unfold aV
  rw [show kA 10 = 2 by decide +kernel, show lA 10 = 264 by decide +kernel]
  rfl
theorem cl_11 (g : GG) : cG g h00 11 = .inr (5, [.ref (aD g 13), .ref (aD g 100), .int 0]) := by
  rw [cG_o (k := 5) (by decide +kernel) (by decide)]
  unfold fVs
  rw [show fO 11 = [16, 2, 0] by decide +kernel]
  simp only [List.mapIdx_cons, List.mapIdx_nil]
  rfl
theorem cl_12 (g : GG) : cG g h00 12 = .inr (6, [.ref (aD g 100), .ref (aD g 14)]) := by
  rw [cG_o (k := 6) (by decide +kernel) (by decide)]
  unfold fVs
  rw [show fO 12 = [103, 17] by decide +kernel]
  simp only [List.mapIdx_cons, List.mapIdx_nil]
  rfl
theorem cl_13 (g : GG) : cG g h00 13 = .inl (g.2.1 0, 8, .inl (fun j => if j < 8 then (-1) else 0)) := by
  rw [cG_a (k := 0) (by decide +kernel) (by decide)]
  unfold aV
  rw [show kA 13 = 0 by decide +kernel, show lA 13 = 8 by decide +kernel]
  rfl
theorem cl_14 (g : GG) : cG g h00 14 = .inl (g.2.1 0, 6, .inl (fun j => if j < 6 then (-1) else 0)) := by
  rw [cG_a (k := 0) (by decide +kernel) (by decide)]
  unfold aV
  rw [show kA 14 = 0 by decide +kernel, show lA 14 = 6 by decide +kernel]
  rfl
theorem cl_15 (g : GG) : cG g h00 15 = .inl (g.2.1 0, 6, .inl (fun _ => 0)) := by
  rw [cG_a (k := 0) (by decide +kernel) (by decide)]
  unfold aV
  rw [show kA 15 = 0 by decide +kernel, show lA 15 = 6 by decide +kernel]
  rfl
theorem cl_16 (g : GG) : cG g h00 16 = .inl (g.2.1 0, 60, .inl (fun _ => 0)) := by
  rw [cG_a (k := 0) (by decide +kernel) (by decide)]
  unfold aV
  rw [show kA 16 = 0 by decide +kernel, show lA 16 = 60 by decide +kernel]
  rfl
theorem cl_17 (g : GG) : cG g h00 17 = .inr (1, [.ref (aD g 106), .int 0]) := by
  rw [cG_o (k := 1) (by decide +kernel) (by decide)]
  unfold fVs
  rw [show fO 17 = [109, 0] by decide +kernel]
  simp only [List.mapIdx_cons, List.mapIdx_nil]
  rfl
theorem cl_18 (g : GG) : cG g h00 18 = .inr (1, [.ref (aD g 109), .int 0]) := by
  rw [cG_o (k := 1) (by decide +kernel) (by decide)]
  unfold fVs
  rw [show fO 18 = [112, 0] by decide +kernel]
  simp only [List.mapIdx_cons, List.mapIdx_nil]
  rfl
theorem cl_19 (g : GG) : cG g h00 19 = .inr (1, [.ref (aD g 112), .int 0]) := by
  rw [cG_o (k := 1) (by decide +kernel) (by decide)]
  unfold fVs
  rw [show fO 19 = [115, 0] by decide +kernel]
  simp only [List.mapIdx_cons, List.mapIdx_nil]
  rfl
theorem cl_20 (g : GG) : cG g h00 20 = .inr (1, [.ref (aD g 115), .int 0]) := by
  rw [cG_o (k := 1) (by decide +kernel) (by decide)]
  unfold fVs
  rw [show fO 20 = [118, 0] by decide +kernel]
  simp only [List.mapIdx_cons, List.mapIdx_nil]
  rfl
theorem cl_100 (g : GG) : cG g h00 100 = .inr (0, [.ref (aD g 101), .ref (aD g 102), .int 0]) := by
  rw [cG_o (k := 0) (by decide +kernel) (by decide)]
  unfold fVs
  rw [show fO 100 = [104, 105, 0] by decide +kernel]
  simp only [List.mapIdx_cons, List.mapIdx_nil]
  rfl
theorem cl_101 (g : GG) : cG g h00 101 = .inl (g.2.1 1, 60, .inl (fun _ => 0)) := by
  rw [cG_a (k := 1) (by decide +kernel) (by decide)]
  unfold aV
  rw [show kA 101 = 1 by decide +kernel, show lA 101 = 60 by decide +kernel]
  rfl
theorem cl_102 (g : GG) : cG g h00 102 = .inl (g.2.1 0, 60, .inl (fun _ => 0)) := by
  rw [cG_a (k := 0) (by decide +kernel) (by decide)]
  unfold aV
  rw [show kA 102 = 0 by decide +kernel, show lA 102 = 60 by decide +kernel]
  rfl
theorem cl_103 (g : GG) : cG g h00 103 = .inr (0, [.ref (aD g 104), .ref (aD g 105), .int 0]) := by
  rw [cG_o (k := 0) (by decide +kernel) (by decide)]
  unfold fVs
  rw [show fO 103 = [107, 108, 0] by decide +kernel]
  simp only [List.mapIdx_cons, List.mapIdx_nil]
  rfl
theorem cl_104 (g : GG) : cG g h00 104 = .inl (g.2.1 1, 60, .inl (fun _ => 0)) := by
  rw [cG_a (k := 1) (by decide +kernel) (by decide)]
  unfold aV
  rw [show kA 104 = 1 by decide +kernel, show lA 104 = 60 by decide +kernel]
  rfl
theorem cl_105 (g : GG) : cG g h00 105 = .inl (g.2.1 0, 60, .inl (fun _ => 0)) := by
  rw [cG_a (k := 0) (by decide +kernel) (by decide)]
  unfold aV
  rw [show kA 105 = 0 by decide +kernel, show lA 105 = 60 by decide +kernel]
  rfl
theorem cl_106 (g : GG) : cG g h00 106 = .inr (0, [.ref (aD g 107), .ref (aD g 108), .int 0]) := by
  rw [cG_o (k := 0) (by decide +kernel) (by decide)]
  unfold fVs
  rw [show fO 106 = [110, 111, 0] by decide +kernel]
  simp only [List.mapIdx_cons, List.mapIdx_nil]
  rfl
theorem cl_107 (g : GG) : cG g h00 107 = .inl (g.2.1 1, 60, .inl (fun _ => 0)) := by
  rw [cG_a (k := 1) (by decide +kernel) (by decide)]
  unfold aV
  rw [show kA 107 = 1 by decide +kernel, show lA 107 = 60 by decide +kernel]
  rfl
theorem cl_108 (g : GG) : cG g h00 108 = .inl (g.2.1 0, 60, .inl (fun _ => 0)) := by
  rw [cG_a (k := 0) (by decide +kernel) (by decide)]
  unfold aV
  rw [show kA 108 = 0 by decide +kernel, show lA 108 = 60 by decide +kernel]
  rfl
theorem cl_109 (g : GG) : cG g h00 109 = .inr (0, [.ref (aD g 110), .ref (aD g 111), .int 0]) := by
  rw [cG_o (k := 0) (by decide +kernel) (by decide)]
  unfold fVs
  rw [show fO 109 = [113, 114, 0] by decide +kernel]
  simp only [List.mapIdx_cons, List.mapIdx_nil]
  rfl
theorem cl_110 (g : GG) : cG g h00 110 = .inl (g.2.1 1, 60, .inl (fun _ => 0)) := by
  rw [cG_a (k := 1) (by decide +kernel) (by decide)]
  unfold aV
  rw [show kA 110 = 1 by decide +kernel, show lA 110 = 60 by decide +kernel]
  rfl
theorem cl_111 (g : GG) : cG g h00 111 = .inl (g.2.1 0, 60, .inl (fun _ => 0)) := by
  rw [cG_a (k := 0) (by decide +kernel) (by decide)]
  unfold aV
  rw [show kA 111 = 0 by decide +kernel, show lA 111 = 60 by decide +kernel]
  rfl
theorem cl_112 (g : GG) : cG g h00 112 = .inr (0, [.ref (aD g 113), .ref (aD g 114), .int 0]) := by
  rw [cG_o (k := 0) (by decide +kernel) (by decide)]
  unfold fVs
  rw [show fO 112 = [116, 117, 0] by decide +kernel]
  simp only [List.mapIdx_cons, List.mapIdx_nil]
  rfl
theorem cl_113 (g : GG) : cG g h00 113 = .inl (g.2.1 1, 60, .inl (fun _ => 0)) := by
  rw [cG_a (k := 1) (by decide +kernel) (by decide)]
  unfold aV
  rw [show kA 113 = 1 by decide +kernel, show lA 113 = 60 by decide +kernel]
  rfl
theorem cl_114 (g : GG) : cG g h00 114 = .inl (g.2.1 0, 60, .inl (fun _ => 0)) := by
  rw [cG_a (k := 0) (by decide +kernel) (by decide)]
  unfold aV
  rw [show kA 114 = 0 by decide +kernel, show lA 114 = 60 by decide +kernel]
  rfl
theorem cl_115 (g : GG) : cG g h00 115 = .inr (0, [.ref (aD g 116), .ref (aD g 117), .int 0]) := by
  rw [cG_o (k := 0) (by decide +kernel) (by decide)]
  unfold fVs
  rw [show fO 115 = [119, 120, 0] by decide +kernel]
  simp only [List.mapIdx_cons, List.mapIdx_nil]
  rfl
theorem cl_116 (g : GG) : cG g h00 116 = .inl (g.2.1 1, 60, .inl (fun _ => 0)) := by
  rw [cG_a (k := 1) (by decide +kernel) (by decide)]
  unfold aV
  rw [show kA 116 = 1 by decide +kernel, show lA 116 = 60 by decide +kernel]
  rfl
theorem cl_117 (g : GG) : cG g h00 117 = .inl (g.2.1 0, 60, .inl (fun _ => 0)) := by
  rw [cG_a (k := 0) (by decide +kernel) (by decide)]
  unfold aV
  rw [show kA 117 = 0 by decide +kernel, show lA 117 = 60 by decide +kernel]
  rfl
theorem cl_118 (g : GG) : cG g h00 118 = .inr (0, [.ref (aD g 119), .ref (aD g 120), .int 0]) := by
  rw [cG_o (k := 0) (by decide +kernel) (by decide)]
  unfold fVs
  rw [show fO 118 = [122, 123, 0] by decide +kernel]
  simp only [List.mapIdx_cons, List.mapIdx_nil]
  rfl
theorem cl_119 (g : GG) : cG g h00 119 = .inl (g.2.1 1, 60, .inl (fun _ => 0)) := by
  rw [cG_a (k := 1) (by decide +kernel) (by decide)]
  unfold aV
  rw [show kA 119 = 1 by decide +kernel, show lA 119 = 60 by decide +kernel]
  rfl
theorem cl_120 (g : GG) : cG g h00 120 = .inl (g.2.1 0, 60, .inl (fun _ => 0)) := by
  rw [cG_a (k := 0) (by decide +kernel) (by decide)]
  unfold aV
  rw [show kA 120 = 0 by decide +kernel, show lA 120 = 60 by decide +kernel]
  rfl
theorem cl_121 (g : GG) : cG g h00 121 = .inr (0, [.ref (aD g 122), .ref (aD g 123), .int 0]) := by
  rw [cG_o (k := 0) (by decide +kernel) (by decide)]
  unfold fVs
  rw [show fO 121 = [125, 126, 0] by decide +kernel]
  simp only [List.mapIdx_cons, List.mapIdx_nil]
  rfl
theorem cl_122 (g : GG) : cG g h00 122 = .inl (g.2.1 1, 60, .inl (fun _ => 0)) := by
  rw [cG_a (k := 1) (by decide +kernel) (by decide)]
  unfold aV
  rw [show kA 122 = 1 by decide +kernel, show lA 122 = 60 by decide +kernel]
  rfl
theorem cl_123 (g : GG) : cG g h00 123 = .inl (g.2.1 0, 60, .inl (fun _ => 0)) := by
  rw [cG_a (k := 0) (by decide +kernel) (by decide)]
  unfold aV
  rw [show kA 123 = 0 by decide +kernel, show lA 123 = 60 by decide +kernel]
  rfl
theorem cl_124 (g : GG) : cG g h00 124 = .inr (0, [.ref (aD g 125), .ref (aD g 126), .int 0]) := by
  rw [cG_o (k := 0) (by decide +kernel) (by decide)]
  unfold fVs
  rw [show fO 124 = [128, 129, 0] by decide +kernel]
  simp only [List.mapIdx_cons, List.mapIdx_nil]
  rfl
theorem cl_125 (g : GG) : cG g h00 125 = .inl (g.2.1 1, 60, .inl (fun _ => 0)) := by
  rw [cG_a (k := 1) (by decide +kernel) (by decide)]
  unfold aV
  rw [show kA 125 = 1 by decide +kernel, show lA 125 = 60 by decide +kernel]
  rfl
theorem cl_126 (g : GG) : cG g h00 126 = .inl (g.2.1 0, 60, .inl (fun _ => 0)) := by
  rw [cG_a (k := 0) (by decide +kernel) (by decide)]
  unfold aV
  rw [show kA 126 = 0 by decide +kernel, show lA 126 = 60 by decide +kernel]
  rfl
theorem cl_127 (g : GG) : cG g h00 127 = .inr (0, [.ref (aD g 128), .ref (aD g 129), .int 0]) := by
  rw [cG_o (k := 0) (by decide +kernel) (by decide)]
  unfold fVs
  rw [show fO 127 = [131, 132, 0] by decide +kernel]
  simp only [List.mapIdx_cons, List.mapIdx_nil]
  rfl
theorem cl_128 (g : GG) : cG g h00 128 = .inl (g.2.1 1, 60, .inl (fun _ => 0)) := by
  rw [cG_a (k := 1) (by decide +kernel) (by decide)]
  unfold aV
  rw [show kA 128 = 1 by decide +kernel, show lA 128 = 60 by decide +kernel]
  rfl
theorem cl_129 (g : GG) : cG g h00 129 = .inl (g.2.1 0, 60, .inl (fun _ => 0)) := by
  rw [cG_a (k := 0) (by decide +kernel) (by decide)]
  unfold aV
  rw [show kA 129 = 0 by decide +kernel, show lA 129 = 60 by decide +kernel]
  rfl
theorem cl_130 (g : GG) : cG g h00 130 = .inr (0, [.ref (aD g 131), .ref (aD g 132), .int 0]) := by
  rw [cG_o (k := 0) (by decide +kernel) (by decide)]
  unfold fVs
  rw [show fO 130 = [134, 135, 0] by decide +kernel]
  simp only [List.mapIdx_cons, List.mapIdx_nil]
  rfl
theorem cl_131 (g : GG) : cG g h00 131 = .inl (g.2.1 1, 60, .inl (fun _ => 0)) := by
  rw [cG_a (k := 1) (by decide +kernel) (by decide)]
  unfold aV
  rw [show kA 131 = 1 by decide +kernel, show lA 131 = 60 by decide +kernel]
  rfl
theorem cl_132 (g : GG) : cG g h00 132 = .inl (g.2.1 0, 60, .inl (fun _ => 0)) := by
  rw [cG_a (k := 0) (by decide +kernel) (by decide)]
  unfold aV
  rw [show kA 132 = 0 by decide +kernel, show lA 132 = 60 by decide +kernel]
  rfl
theorem cl_133 (g : GG) : cG g h00 133 = .inr (0, [.ref (aD g 134), .ref (aD g 135), .int 0]) := by
  rw [cG_o (k := 0) (by decide +kernel) (by decide)]
  unfold fVs
  rw [show fO 133 = [137, 138, 0] by decide +kernel]
  simp only [List.mapIdx_cons, List.mapIdx_nil]
  rfl
theorem cl_134 (g : GG) : cG g h00 134 = .inl (g.2.1 1, 60, .inl (fun _ => 0)) := by
  rw [cG_a (k := 1) (by decide +kernel) (by decide)]
  unfold aV
  rw [show kA 134 = 1 by decide +kernel, show lA 134 = 60 by decide +kernel]
  rfl
theorem cl_135 (g : GG) : cG g h00 135 = .inl (g.2.1 0, 60, .inl (fun _ => 0)) := by
  rw [cG_a (k := 0) (by decide +kernel) (by decide)]
  unfold aV
  rw [show kA 135 = 0 by decide +kernel, show lA 135 = 60 by decide +kernel]
  rfl
theorem cl_136 (g : GG) : cG g h00 136 = .inr (0, [.ref (aD g 137), .ref (aD g 138), .int 0]) := by
  rw [cG_o (k := 0) (by decide +kernel) (by decide)]
  unfold fVs
  rw [show fO 136 = [140, 141, 0] by decide +kernel]
  simp only [List.mapIdx_cons, List.mapIdx_nil]
  rfl
theorem cl_137 (g : GG) : cG g h00 137 = .inl (g.2.1 1, 60, .inl (fun _ => 0)) := by
  rw [cG_a (k := 1) (by decide +kernel) (by decide)]
  unfold aV
  rw [show kA 137 = 1 by decide +kernel, show lA 137 = 60 by decide +kernel]
  rfl
theorem cl_138 (g : GG) : cG g h00 138 = .inl (g.2.1 0, 60, .inl (fun _ => 0)) := by
  rw [cG_a (k := 0) (by decide +kernel) (by decide)]
  unfold aV
  rw [show kA 138 = 0 by decide +kernel, show lA 138 = 60 by decide +kernel]
  rfl
theorem cl_139 (g : GG) : cG g h00 139 = .inr (0, [.ref (aD g 140), .ref (aD g 141), .int 0]) := by
  rw [cG_o (k := 0) (by decide +kernel) (by decide)]
  unfold fVs
  rw [show fO 139 = [143, 144, 0] by decide +kernel]
  simp only [List.mapIdx_cons, List.mapIdx_nil]
  rfl
theorem cl_140 (g : GG) : cG g h00 140 = .inl (g.2.1 1, 60, .inl (fun _ => 0)) := by
  rw [cG_a (k := 1) (by decide +kernel) (by decide)]
  unfold aV
  rw [show kA 140 = 1 by decide +kernel, show lA 140 = 60 by decide +kernel]
  rfl
theorem cl_141 (g : GG) : cG g h00 141 = .inl (g.2.1 0, 60, .inl (fun _ => 0)) := by
  rw [cG_a (k := 0) (by decide +kernel) (by decide)]
  unfold aV
  rw [show kA 141 = 0 by decide +kernel, show lA 141 = 60 by decide +kernel]
  rfl
theorem cl_142 (g : GG) : cG g h00 142 = .inr (0, [.ref (aD g 143), .ref (aD g 144), .int 0]) := by
  rw [cG_o (k := 0) (by decide +kernel) (by decide)]
  unfold fVs
  rw [show fO 142 = [146, 147, 0] by decide +kernel]
  simp only [List.mapIdx_cons, List.mapIdx_nil]
  rfl
theorem cl_143 (g : GG) : cG g h00 143 = .inl (g.2.1 1, 60, .inl (fun _ => 0)) := by
  rw [cG_a (k := 1) (by decide +kernel) (by decide)]
  unfold aV
  rw [show kA 143 = 1 by decide +kernel, show lA 143 = 60 by decide +kernel]
  rfl
theorem cl_144 (g : GG) : cG g h00 144 = .inl (g.2.1 0, 60, .inl (fun _ => 0)) := by
  rw [cG_a (k := 0) (by decide +kernel) (by decide)]
  unfold aV
  rw [show kA 144 = 0 by decide +kernel, show lA 144 = 60 by decide +kernel]
  rfl
theorem cl_145 (g : GG) : cG g h00 145 = .inr (0, [.ref (aD g 146), .ref (aD g 147), .int 0]) := by
  rw [cG_o (k := 0) (by decide +kernel) (by decide)]
  unfold fVs
  rw [show fO 145 = [149, 150, 0] by decide +kernel]
  simp only [List.mapIdx_cons, List.mapIdx_nil]
  rfl
theorem cl_146 (g : GG) : cG g h00 146 = .inl (g.2.1 1, 60, .inl (fun _ => 0)) := by
  rw [cG_a (k := 1) (by decide +kernel) (by decide)]
  unfold aV
  rw [show kA 146 = 1 by decide +kernel, show lA 146 = 60 by decide +kernel]
  rfl
theorem cl_147 (g : GG) : cG g h00 147 = .inl (g.2.1 0, 60, .inl (fun _ => 0)) := by
  rw [cG_a (k := 0) (by decide +kernel) (by decide)]
  unfold aV
  rw [show kA 147 = 0 by decide +kernel, show lA 147 = 60 by decide +kernel]
  rfl
theorem cl_148 (g : GG) : cG g h00 148 = .inr (0, [.ref (aD g 149), .ref (aD g 150), .int 0]) := by
  rw [cG_o (k := 0) (by decide +kernel) (by decide)]
  unfold fVs
  rw [show fO 148 = [152, 153, 0] by decide +kernel]
  simp only [List.mapIdx_cons, List.mapIdx_nil]
  rfl
theorem cl_149 (g : GG) : cG g h00 149 = .inl (g.2.1 1, 60, .inl (fun _ => 0)) := by
  rw [cG_a (k := 1) (by decide +kernel) (by decide)]
  unfold aV
  rw [show kA 149 = 1 by decide +kernel, show lA 149 = 60 by decide +kernel]
  rfl
theorem cl_150 (g : GG) : cG g h00 150 = .inl (g.2.1 0, 60, .inl (fun _ => 0)) := by
  rw [cG_a (k := 0) (by decide +kernel) (by decide)]
  unfold aV
  rw [show kA 150 = 0 by decide +kernel, show lA 150 = 60 by decide +kernel]
  rfl
theorem cl_151 (g : GG) : cG g h00 151 = .inr (0, [.ref (aD g 152), .ref (aD g 153), .int 0]) := by
  rw [cG_o (k := 0) (by decide +kernel) (by decide)]
  unfold fVs
  rw [show fO 151 = [155, 156, 0] by decide +kernel]
  simp only [List.mapIdx_cons, List.mapIdx_nil]
  rfl
theorem cl_152 (g : GG) : cG g h00 152 = .inl (g.2.1 1, 60, .inl (fun _ => 0)) := by
  rw [cG_a (k := 1) (by decide +kernel) (by decide)]
  unfold aV
  rw [show kA 152 = 1 by decide +kernel, show lA 152 = 60 by decide +kernel]
  rfl
theorem cl_153 (g : GG) : cG g h00 153 = .inl (g.2.1 0, 60, .inl (fun _ => 0)) := by
  rw [cG_a (k := 0) (by decide +kernel) (by decide)]
  unfold aV
  rw [show kA 153 = 0 by decide +kernel, show lA 153 = 60 by decide +kernel]
  rfl
theorem cl_154 (g : GG) : cG g h00 154 = .inr (0, [.ref (aD g 155), .ref (aD g 156), .int 0]) := by
  rw [cG_o (k := 0) (by decide +kernel) (by decide)]
  unfold fVs
  rw [show fO 154 = [158, 159, 0] by decide +kernel]
  simp only [List.mapIdx_cons, List.mapIdx_nil]
  rfl
theorem cl_155 (g : GG) : cG g h00 155 = .inl (g.2.1 1, 60, .inl (fun _ => 0)) := by
  rw [cG_a (k := 1) (by decide +kernel) (by decide)]
  unfold aV
  rw [show kA 155 = 1 by decide +kernel, show lA 155 = 60 by decide +kernel]
  rfl
theorem cl_156 (g : GG) : cG g h00 156 = .inl (g.2.1 0, 60, .inl (fun _ => 0)) := by
  rw [cG_a (k := 0) (by decide +kernel) (by decide)]
  unfold aV
  rw [show kA 156 = 0 by decide +kernel, show lA 156 = 60 by decide +kernel]
  rfl
theorem cl_157 (g : GG) : cG g h00 157 = .inr (0, [.ref (aD g 158), .ref (aD g 159), .int 0]) := by
  rw [cG_o (k := 0) (by decide +kernel) (by decide)]
  unfold fVs
  rw [show fO 157 = [161, 162, 0] by decide +kernel]
  simp only [List.mapIdx_cons, List.mapIdx_nil]
  rfl
theorem cl_158 (g : GG) : cG g h00 158 = .inl (g.2.1 1, 60, .inl (fun _ => 0)) := by
  rw [cG_a (k := 1) (by decide +kernel) (by decide)]
  unfold aV
  rw [show kA 158 = 1 by decide +kernel, show lA 158 = 60 by decide +kernel]
  rfl
theorem cl_159 (g : GG) : cG g h00 159 = .inl (g.2.1 0, 60, .inl (fun _ => 0)) := by
  rw [cG_a (k := 0) (by decide +kernel) (by decide)]
  unfold aV
  rw [show kA 159 = 0 by decide +kernel, show lA 159 = 60 by decide +kernel]
  rfl
theorem cl_160 (g : GG) : cG g h00 160 = .inr (0, [.ref (aD g 161), .ref (aD g 162), .int 0]) := by
  rw [cG_o (k := 0) (by decide +kernel) (by decide)]
  unfold fVs
  rw [show fO 160 = [164, 165, 0] by decide +kernel]
  simp only [List.mapIdx_cons, List.mapIdx_nil]
  rfl
theorem cl_161 (g : GG) : cG g h00 161 = .inl (g.2.1 1, 60, .inl (fun _ => 0)) := by
  rw [cG_a (k := 1) (by decide +kernel) (by decide)]
  unfold aV
  rw [show kA 161 = 1 by decide +kernel, show lA 161 = 60 by decide +kernel]
  rfl
theorem cl_162 (g : GG) : cG g h00 162 = .inl (g.2.1 0, 60, .inl (fun _ => 0)) := by
  rw [cG_a (k := 0) (by decide +kernel) (by decide)]
  unfold aV
  rw [show kA 162 = 0 by decide +kernel, show lA 162 = 60 by decide +kernel]
  rfl
theorem cl_163 (g : GG) : cG g h00 163 = .inr (0, [.ref (aD g 164), .ref (aD g 165), .int 0]) := by
  rw [cG_o (k := 0) (by decide +kernel) (by decide)]
  unfold fVs
  rw [show fO 163 = [167, 168, 0] by decide +kernel]
  simp only [List.mapIdx_cons, List.mapIdx_nil]
  rfl
theorem cl_164 (g : GG) : cG g h00 164 = .inl (g.2.1 1, 60, .inl (fun _ => 0)) := by
  rw [cG_a (k := 1) (by decide +kernel) (by decide)]
  unfold aV
  rw [show kA 164 = 1 by decide +kernel, show lA 164 = 60 by decide +kernel]
  rfl
theorem cl_165 (g : GG) : cG g h00 165 = .inl (g.2.1 0, 60, .inl (fun _ => 0)) := by
  rw [cG_a (k := 0) (by decide +kernel) (by decide)]
  unfold aV
  rw [show kA 165 = 0 by decide +kernel, show lA 165 = 60 by decide +kernel]
  rfl
theorem cl_200 (g : GG) : cG g h00 200 = .inr (9, [.ref (aD g 201), .int 0, .ref (aD g 202), .ref (aD g 203), .int 0, .ref (aD g 204), .ref (aD g 205), .int 0, .ref (aD g 206), .ref (aD g 207), .ref (aD g 208), .ref (aD g 209), .int 0, .ref (aD g 210), .ref (aD g 211), .int 0, .int 0, .int 0, .ref (aD g 212), .ref (aD g 213), .ref (aD g 214), .ref (aD g 215), .ref (aD g 216), .ref (aD g 217), .ref (aD g 218), .long 0, .ref (aD g 219), .ref (aD g 220), .ref (aD g 221), .ref (aD g 222), .ref (aD g 223), .ref (aD g 224), .ref (aD g 225), .ref (aD g 226), .ref (aD g 227), .ref (aD g 228)]) := by
  rw [cG_o (k := 9) (by decide +kernel) (by decide)]
  unfold fVs
  rw [show fO 200 = [204, 0, 205, 206, 0, 207, 208, 0, 209, 210, 211, 212, 0, 213, 214, 0, 0, 0, 215, 216, 217, 218, 219, 220, 221, 1, 222, 223, 224, 225, 226, 227, 228, 229, 230, 231] by decide +kernel]
  simp only [List.mapIdx_cons, List.mapIdx_nil]
  rfl
theorem cl_201 (g : GG) : cG g h00 201 = .inl (g.2.1 0, 1500, .inl (fun _ => 0)) := by
  rw [cG_a (k := 0) (by decide +kernel) (by decide)]
  unfold aV
  rw [show kA 201 = 0 by decide +kernel, show lA 201 = 1500 by decide +kernel]
  rfl
theorem cl_202 (g : GG) : cG g h00 202 = .inl (g.2.1 2, 8, .inr (.inl (fun _ => 0))) := by
  rw [cG_a (k := 2) (by decide +kernel) (by decide)]
  unfold aV
  rw [show kA 202 = 2 by decide +kernel, show lA 202 = 8 by decide +kernel]
  rfl
theorem cl_203 (g : GG) : cG g h00 203 = .inl (g.2.1 0, 4, .inl (fun _ => 0)) := by
  rw [cG_a (k := 0) (by decide +kernel) (by decide)]
  unfold aV
  rw [show kA 203 = 0 by decide +kernel, show lA 203 = 4 by decide +kernel]
  rfl
theorem cl_204 (g : GG) : cG g h00 204 = .inl (g.2.1 0, 16, .inl (fun _ => 0)) := by
  rw [cG_a (k := 0) (by decide +kernel) (by decide)]
  unfold aV
  rw [show kA 204 = 0 by decide +kernel, show lA 204 = 16 by decide +kernel]
  rfl
theorem cl_205 (g : GG) : cG g h00 205 = .inl (g.2.1 0, 16, .inl (fun _ => 0)) := by
  rw [cG_a (k := 0) (by decide +kernel) (by decide)]
  unfold aV
  rw [show kA 205 = 0 by decide +kernel, show lA 205 = 16 by decide +kernel]
  rfl
theorem cl_206 (g : GG) : cG g h00 206 = .inl (g.2.1 0, 200, .inl (fun _ => 0)) := by
  rw [cG_a (k := 0) (by decide +kernel) (by decide)]
  unfold aV
  rw [show kA 206 = 0 by decide +kernel, show lA 206 = 200 by decide +kernel]
  rfl
theorem cl_207 (g : GG) : cG g h00 207 = .inl (g.2.1 0, 200, .inl (fun _ => 0)) := by
  rw [cG_a (k := 0) (by decide +kernel) (by decide)]
  unfold aV
  rw [show kA 207 = 0 by decide +kernel, show lA 207 = 200 by decide +kernel]
  rfl
theorem cl_208 (g : GG) : cG g h00 208 = .inl (g.2.1 0, 200, .inl (fun _ => 0)) := by
  rw [cG_a (k := 0) (by decide +kernel) (by decide)]
  unfold aV
  rw [show kA 208 = 0 by decide +kernel, show lA 208 = 200 by decide +kernel]
  rfl
theorem cl_209 (g : GG) : cG g h00 209 = .inl (g.2.1 0, 200, .inl (fun _ => 0)) := by
  rw [cG_a (k := 0) (by decide +kernel) (by decide)]
  unfold aV
  rw [show kA 209 = 0 by decide +kernel, show lA 209 = 200 by decide +kernel]
  rfl
theorem cl_210 (g : GG) : cG g h00 210 = .inl (g.2.1 5, 64, .inl (fun _ => 0)) := by
  rw [cG_a (k := 5) (by decide +kernel) (by decide)]
  unfold aV
  rw [show kA 210 = 5 by decide +kernel, show lA 210 = 64 by decide +kernel]
  rfl
theorem cl_211 (g : GG) : cG g h00 211 = .inl (g.2.1 0, 64, .inl (fun _ => 0)) := by
  rw [cG_a (k := 0) (by decide +kernel) (by decide)]
  unfold aV
  rw [show kA 211 = 0 by decide +kernel, show lA 211 = 64 by decide +kernel]
  rfl
theorem cl_212 (g : GG) : cG g h00 212 = .inl (g.2.1 0, 32, .inl (fun _ => 0)) := by
  rw [cG_a (k := 0) (by decide +kernel) (by decide)]
  unfold aV
  rw [show kA 212 = 0 by decide +kernel, show lA 212 = 32 by decide +kernel]
  rfl
theorem cl_213 (g : GG) : cG g h00 213 = .inl (g.2.1 0, 32, .inl (fun _ => 0)) := by
  rw [cG_a (k := 0) (by decide +kernel) (by decide)]
  unfold aV
  rw [show kA 213 = 0 by decide +kernel, show lA 213 = 32 by decide +kernel]
  rfl
theorem cl_214 (g : GG) : cG g h00 214 = .inl (g.2.1 0, 32, .inl (fun _ => 0)) := by
  rw [cG_a (k := 0) (by decide +kernel) (by decide)]
  unfold aV
  rw [show kA 214 = 0 by decide +kernel, show lA 214 = 32 by decide +kernel]
  rfl
theorem cl_215 (g : GG) : cG g h00 215 = .inl (g.2.1 0, 32, .inl (fun _ => 0)) := by
  rw [cG_a (k := 0) (by decide +kernel) (by decide)]
  unfold aV
  rw [show kA 215 = 0 by decide +kernel, show lA 215 = 32 by decide +kernel]
  rfl
theorem cl_216 (g : GG) : cG g h00 216 = .inl (g.2.1 2, 32, .inr (.inl (fun _ => 0))) := by
  rw [cG_a (k := 2) (by decide +kernel) (by decide)]
  unfold aV
  rw [show kA 216 = 2 by decide +kernel, show lA 216 = 32 by decide +kernel]
  rfl
theorem cl_217 (g : GG) : cG g h00 217 = .inl (g.2.1 2, 32, .inr (.inl (fun _ => 0))) := by
  rw [cG_a (k := 2) (by decide +kernel) (by decide)]
  unfold aV
  rw [show kA 217 = 2 by decide +kernel, show lA 217 = 32 by decide +kernel]
  rfl
theorem cl_218 (g : GG) : cG g h00 218 = .inl (g.2.1 2, 32, .inr (.inl (fun _ => 0))) := by
  rw [cG_a (k := 2) (by decide +kernel) (by decide)]
  unfold aV
  rw [show kA 218 = 2 by decide +kernel, show lA 218 = 32 by decide +kernel]
  rfl
theorem cl_219 (g : GG) : cG g h00 219 = .inl (g.2.1 0, 140, .inl (pat 140)) := by
  rw [cG_a (k := 0) (by decide +kernel) (by decide)]
  unfold aV
  rw [show kA 219 = 0 by decide +kernel, show lA 219 = 140 by decide +kernel]
  rfl
theorem cl_220 (g : GG) : cG g h00 220 = .inl (g.2.1 0, 7, .inl (fun _ => 0)) := by
  rw [cG_a (k := 0) (by decide +kernel) (by decide)]
  unfold aV
  rw [show kA 220 = 0 by decide +kernel, show lA 220 = 7 by decide +kernel]
  rfl
theorem cl_221 (g : GG) : cG g h00 221 = .inl (g.2.1 0, 7, .inl (fun _ => 0)) := by
  rw [cG_a (k := 0) (by decide +kernel) (by decide)]
  unfold aV
  rw [show kA 221 = 0 by decide +kernel, show lA 221 = 7 by decide +kernel]
  rfl
theorem cl_222 (g : GG) : cG g h00 222 = .inl (g.2.1 0, 8, .inl (fun _ => 0)) := by
  rw [cG_a (k := 0) (by decide +kernel) (by decide)]
  unfold aV
  rw [show kA 222 = 0 by decide +kernel, show lA 222 = 8 by decide +kernel]
  rfl
theorem cl_223 (g : GG) : cG g h00 223 = .inl (g.2.1 0, 8, .inl (fun _ => 0)) := by
  rw [cG_a (k := 0) (by decide +kernel) (by decide)]
  unfold aV
  rw [show kA 223 = 0 by decide +kernel, show lA 223 = 8 by decide +kernel]
  rfl
theorem cl_224 (g : GG) : cG g h00 224 = .inl (g.2.1 0, 8, .inl (fun _ => 0)) := by
  rw [cG_a (k := 0) (by decide +kernel) (by decide)]
  unfold aV
  rw [show kA 224 = 0 by decide +kernel, show lA 224 = 8 by decide +kernel]
  rfl
theorem cl_225 (g : GG) : cG g h00 225 = .inl (g.2.1 0, 64, .inl (fun _ => 0)) := by
  rw [cG_a (k := 0) (by decide +kernel) (by decide)]
  unfold aV
  rw [show kA 225 = 0 by decide +kernel, show lA 225 = 64 by decide +kernel]
  rfl
theorem cl_226 (g : GG) : cG g h00 226 = .inl (g.2.1 0, 6, .inl (fun _ => 0)) := by
  rw [cG_a (k := 0) (by decide +kernel) (by decide)]
  unfold aV
  rw [show kA 226 = 0 by decide +kernel, show lA 226 = 6 by decide +kernel]
  rfl
theorem cl_227 (g : GG) : cG g h00 227 = .inl (g.2.1 0, 6, .inl (fun _ => 0)) := by
  rw [cG_a (k := 0) (by decide +kernel) (by decide)]
  unfold aV
  rw [show kA 227 = 0 by decide +kernel, show lA 227 = 6 by decide +kernel]
  rfl
theorem cl_228 (g : GG) : cG g h00 228 = .inl (g.2.1 5, 64, .inl (fun _ => 0)) := by
  rw [cG_a (k := 5) (by decide +kernel) (by decide)]
  unfold aV
  rw [show kA 228 = 5 by decide +kernel, show lA 228 = 64 by decide +kernel]
  rfl

