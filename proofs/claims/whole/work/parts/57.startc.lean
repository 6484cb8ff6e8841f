set_option maxHeartbeats 4000000 in
set_option maxRecDepth 100000 in
theorem law_S {s : State} {args : Array Value} (hs : ∀ w ∈ FL, w.before args s = true) : ∃ ks va : Nat → Nat, vk_S 6 tsLen tsByt ks va (fun q => s.heap.size ≤ q) s s.heap ∧ ∀ i : Nat, i < 6 → (jtm i).eval args s none [] s = some (.ref (ks i)) := by
  refine vk_Sof (tm := jtm) (len := tsLen) (byt := tsByt) ?_ ?_ ?_ ?_ ?_ ?_ ?_ (fun a h h2 => absurd h (Nat.not_lt.mpr h2))
  · exact j6 (by decide) (by decide) (by decide) (by decide) (by decide) (by decide)
  · exact j6 (hs _ (jex_in _ (List.mem_of_getElem? (i := 0) rfl))) (hs _ (jex_in _ (List.mem_of_getElem? (i := 1) rfl))) (hs _ (jex_in _ (List.mem_of_getElem? (i := 2) rfl))) (hs _ (jex_in _ (List.mem_of_getElem? (i := 3) rfl))) (hs _ (jex_in _ (List.mem_of_getElem? (i := 4) rfl))) (hs _ (jex_in _ (List.mem_of_getElem? (i := 5) rfl)))
  · exact j6 (hs _ (jco_in _ (List.mem_of_getElem? (i := 0) rfl))) (hs _ (jco_in _ (List.mem_of_getElem? (i := 1) rfl))) (hs _ (jco_in _ (List.mem_of_getElem? (i := 2) rfl))) (hs _ (jco_in _ (List.mem_of_getElem? (i := 3) rfl))) (hs _ (jco_in _ (List.mem_of_getElem? (i := 4) rfl))) (hs _ (jco_in _ (List.mem_of_getElem? (i := 5) rfl)))
  · exact j6 (hs _ (jar_in _ (List.mem_of_getElem? (i := 0) rfl))) (hs _ (jar_in _ (List.mem_of_getElem? (i := 1) rfl))) (hs _ (jar_in _ (List.mem_of_getElem? (i := 2) rfl))) (hs _ (jar_in _ (List.mem_of_getElem? (i := 3) rfl))) (hs _ (jar_in _ (List.mem_of_getElem? (i := 4) rfl))) (hs _ (jar_in _ (List.mem_of_getElem? (i := 5) rfl)))
  · exact j6 (hs _ (jle_in _ (List.mem_of_getElem? (i := 0) rfl))) (hs _ (jle_in _ (List.mem_of_getElem? (i := 1) rfl))) (hs _ (jle_in _ (List.mem_of_getElem? (i := 2) rfl))) (hs _ (jle_in _ (List.mem_of_getElem? (i := 3) rfl))) (hs _ (jle_in _ (List.mem_of_getElem? (i := 4) rfl))) (hs _ (jle_in _ (List.mem_of_getElem? (i := 5) rfl)))
  · refine j6 ?_ ?_ ?_ ?_ ?_ ?_
    · intro j hj
      have hj : j < 3 := hj
      rcases (show j = 0 ∨ j = 1 ∨ j = 2 by omega) with rfl | rfl | rfl
      · exact (hs _ (jel_in _ (List.mem_of_getElem? (i := 0) rfl)))
      · exact (hs _ (jel_in _ (List.mem_of_getElem? (i := 1) rfl)))
      · exact (hs _ (jel_in _ (List.mem_of_getElem? (i := 2) rfl)))
    · intro j hj
      have hj : j < 5 := hj
      rcases (show j = 0 ∨ j = 1 ∨ j = 2 ∨ j = 3 ∨ j = 4 by omega) with rfl | rfl | rfl | rfl | rfl
      · exact (hs _ (jel_in _ (List.mem_of_getElem? (i := 3) rfl)))
      · exact (hs _ (jel_in _ (List.mem_of_getElem? (i := 4) rfl)))
      · exact (hs _ (jel_in _ (List.mem_of_getElem? (i := 5) rfl)))
      · exact (hs _ (jel_in _ (List.mem_of_getElem? (i := 6) rfl)))
      · exact (hs _ (jel_in _ (List.mem_of_getElem? (i := 7) rfl)))
    · intro j hj
      have hj : j < 3 := hj
      rcases (show j = 0 ∨ j = 1 ∨ j = 2 by omega) with rfl | rfl | rfl
      · exact (hs _ (jel_in _ (List.mem_of_getElem? (i := 8) rfl)))
      · exact (hs _ (jel_in _ (List.mem_of_getElem? (i := 9) rfl)))
      · exact (hs _ (jel_in _ (List.mem_of_getElem? (i := 10) rfl)))
    · intro j hj
      have hj : j < 5 := hj
      rcases (show j = 0 ∨ j = 1 ∨ j = 2 ∨ j = 3 ∨ j = 4 by omega) with rfl | rfl | rfl | rfl | rfl
      · exact (hs _ (jel_in _ (List.mem_of_getElem? (i := 11) rfl)))
      · exact (hs _ (jel_in _ (List.mem_of_getElem? (i := 12) rfl)))
      · exact (hs _ (jel_in _ (List.mem_of_getElem? (i := 13) rfl)))
      · exact (hs _ (jel_in _ (List.mem_of_getElem? (i := 14) rfl)))
      · exact (hs _ (jel_in _ (List.mem_of_getElem? (i := 15) rfl)))
    · intro j hj
      have hj : j < 3 := hj
      rcases (show j = 0 ∨ j = 1 ∨ j = 2 by omega) with rfl | rfl | rfl
      · exact (hs _ (jel_in _ (List.mem_of_getElem? (i := 16) rfl)))
      · exact (hs _ (jel_in _ (List.mem_of_getElem? (i := 17) rfl)))
      · exact (hs _ (jel_in _ (List.mem_of_getElem? (i := 18) rfl)))
    · intro j hj
      exact absurd hj (Nat.not_lt_zero j)
  · refine fun i j hi => j6 (P := fun i => ∀ j, j < 6 → i ≠ j → (Cond.not (Cond.eq (jtm i) (jtm j))).before args s = true ∨ (Cond.not (Cond.eq (jtm j) (jtm i))).before args s = true) ?_ ?_ ?_ ?_ ?_ ?_ i hi j
    · refine fun j hj hij => j6 (P := fun j => 0 ≠ j → (Cond.not (Cond.eq (jtm 0) (jtm j))).before args s = true ∨ (Cond.not (Cond.eq (jtm j) (jtm 0))).before args s = true) ?_ ?_ ?_ ?_ ?_ ?_ j hj hij
      · exact fun h => absurd rfl h
      · exact fun _ => Or.inl (hs _ (jne_in _ (List.mem_of_getElem? (i := 0) rfl)))
      · exact fun _ => Or.inl (hs _ (jne_in _ (List.mem_of_getElem? (i := 1) rfl)))
      · exact fun _ => Or.inl (hs _ (jne_in _ (List.mem_of_getElem? (i := 2) rfl)))
      · exact fun _ => Or.inl (hs _ (jne_in _ (List.mem_of_getElem? (i := 3) rfl)))
      · exact fun _ => Or.inl (hs _ (jne_in _ (List.mem_of_getElem? (i := 4) rfl)))
    · refine fun j hj hij => j6 (P := fun j => 1 ≠ j → (Cond.not (Cond.eq (jtm 1) (jtm j))).before args s = true ∨ (Cond.not (Cond.eq (jtm j) (jtm 1))).before args s = true) ?_ ?_ ?_ ?_ ?_ ?_ j hj hij
      · exact fun _ => Or.inr (hs _ (jne_in _ (List.mem_of_getElem? (i := 0) rfl)))
      · exact fun h => absurd rfl h
      · exact fun _ => Or.inl (hs _ (jne_in _ (List.mem_of_getElem? (i := 5) rfl)))
      · exact fun _ => Or.inl (hs _ (jne_in _ (List.mem_of_getElem? (i := 6) rfl)))
      · exact fun _ => Or.inl (hs _ (jne_in _ (List.mem_of_getElem? (i := 7) rfl)))
      · exact fun _ => Or.inl (hs _ (jne_in _ (List.mem_of_getElem? (i := 8) rfl)))
    · refine fun j hj hij => j6 (P := fun j => 2 ≠ j → (Cond.not (Cond.eq (jtm 2) (jtm j))).before args s = true ∨ (Cond.not (Cond.eq (jtm j) (jtm 2))).before args s = true) ?_ ?_ ?_ ?_ ?_ ?_ j hj hij
      · exact fun _ => Or.inr (hs _ (jne_in _ (List.mem_of_getElem? (i := 1) rfl)))
      · exact fun _ => Or.inr (hs _ (jne_in _ (List.mem_of_getElem? (i := 5) rfl)))
      · exact fun h => absurd rfl h
      · exact fun _ => Or.inl (hs _ (jne_in _ (List.mem_of_getElem? (i := 9) rfl)))
      · exact fun _ => Or.inl (hs _ (jne_in _ (List.mem_of_getElem? (i := 10) rfl)))
      · exact fun _ => Or.inl (hs _ (jne_in _ (List.mem_of_getElem? (i := 11) rfl)))
    · refine fun j hj hij => j6 (P := fun j => 3 ≠ j → (Cond.not (Cond.eq (jtm 3) (jtm j))).before args s = true ∨ (Cond.not (Cond.eq (jtm j) (jtm 3))).before args s = true) ?_ ?_ ?_ ?_ ?_ ?_ j hj hij
      · exact fun _ => Or.inr (hs _ (jne_in _ (List.mem_of_getElem? (i := 2) rfl)))
      · exact fun _ => Or.inr (hs _ (jne_in _ (List.mem_of_getElem? (i := 6) rfl)))
      · exact fun _ => Or.inr (hs _ (jne_in _ (List.mem_of_getElem? (i := 9) rfl)))
      · exact fun h => absurd rfl h
      · exact fun _ => Or.inl (hs _ (jne_in _ (List.mem_of_getElem? (i := 12) rfl)))
      · exact fun _ => Or.inl (hs _ (jne_in _ (List.mem_of_getElem? (i := 13) rfl)))
    · refine fun j hj hij => j6 (P := fun j => 4 ≠ j → (Cond.not (Cond.eq (jtm 4) (jtm j))).before args s = true ∨ (Cond.not (Cond.eq (jtm j) (jtm 4))).before args s = true) ?_ ?_ ?_ ?_ ?_ ?_ j hj hij
      · exact fun _ => Or.inr (hs _ (jne_in _ (List.mem_of_getElem? (i := 3) rfl)))
      · exact fun _ => Or.inr (hs _ (jne_in _ (List.mem_of_getElem? (i := 7) rfl)))
      · exact fun _ => Or.inr (hs _ (jne_in _ (List.mem_of_getElem? (i := 10) rfl)))
      · exact fun _ => Or.inr (hs _ (jne_in _ (List.mem_of_getElem? (i := 12) rfl)))
      · exact fun h => absurd rfl h
      · exact fun _ => Or.inl (hs _ (jne_in _ (List.mem_of_getElem? (i := 14) rfl)))
    · refine fun j hj hij => j6 (P := fun j => 5 ≠ j → (Cond.not (Cond.eq (jtm 5) (jtm j))).before args s = true ∨ (Cond.not (Cond.eq (jtm j) (jtm 5))).before args s = true) ?_ ?_ ?_ ?_ ?_ ?_ j hj hij
      · exact fun _ => Or.inr (hs _ (jne_in _ (List.mem_of_getElem? (i := 4) rfl)))
      · exact fun _ => Or.inr (hs _ (jne_in _ (List.mem_of_getElem? (i := 8) rfl)))
      · exact fun _ => Or.inr (hs _ (jne_in _ (List.mem_of_getElem? (i := 11) rfl)))
      · exact fun _ => Or.inr (hs _ (jne_in _ (List.mem_of_getElem? (i := 13) rfl)))
      · exact fun _ => Or.inr (hs _ (jne_in _ (List.mem_of_getElem? (i := 14) rfl)))
      · exact fun h => absurd rfl h
set_option maxHeartbeats 4000000 in
set_option maxRecDepth 100000 in
theorem law_Z {s : State} {args : Array Value} (hts : ∀ w ∈ lw_tbl, w.before args s = true) (hs : ∀ w ∈ FL, w.before args s = true) : ∃ ks va : Nat → Nat, jZ ks va (fun q => s.heap.size ≤ q) s s.heap := by
  obtain ⟨ks, va, hS, hev⟩ := law_S hs
  have hA : ∀ a : Nat, a < s.heap.size → ¬ (fun q => s.heap.size ≤ q) a := fun a h h2 => absurd h (Nat.not_lt.mpr h2)
  obtain ⟨cur, _, hcur, -⟩ := Cond.instantiable_spec (hts _ (jls_in _ (List.mem_of_getElem? (i := 33) rfl)))
  have key : ∀ (k : Nat) (tx : String), (Cond.stringRef "TheatreSeasons" k tx).before args s = true → ∃ a : Nat, vk_R RX8 k tx a s := by
    intro k tx h
    obtain ⟨_, _, _, a, -, -, -, -, -, he⟩ := Cond.stringRef_spec hcur h
    exact ⟨a, vk_R.of h he⟩
  refine ⟨ks, va, hS, va_Zqof (hts _ (jls_in _ (List.mem_of_getElem? (i := 0) rfl))) (hts _ (jls_in _ (List.mem_of_getElem? (i := 4) rfl))) (hs _ (jst_in _ (List.mem_of_getElem? (i := 0) rfl))) hA, va_Zof (hts _ (jls_in _ (List.mem_of_getElem? (i := 1) rfl))) (hts _ (jls_in _ (List.mem_of_getElem? (i := 5) rfl))) (va_eqt (hs _ (jst_in _ (List.mem_of_getElem? (i := 1) rfl)))) hA, ?_, vx_Zqof (hts _ (jls_in _ (List.mem_of_getElem? (i := 2) rfl))) (hts _ (jls_in _ (List.mem_of_getElem? (i := 6) rfl))) (hs _ (jst_in _ (List.mem_of_getElem? (i := 2) rfl))) hA, vx_Zqof (hts _ (jls_in _ (List.mem_of_getElem? (i := 3) rfl))) (hts _ (jls_in _ (List.mem_of_getElem? (i := 6) rfl))) (hs _ (jst_in _ (List.mem_of_getElem? (i := 3) rfl))) hA, ?_⟩
  · exact j6 (vk_R.of (hts _ (jls_in _ (List.mem_of_getElem? (i := 7) rfl))) (hev 0 (by decide))) (vk_R.of (hts _ (jls_in _ (List.mem_of_getElem? (i := 8) rfl))) (hev 1 (by decide))) (vk_R.of (hts _ (jls_in _ (List.mem_of_getElem? (i := 9) rfl))) (hev 2 (by decide))) (vk_R.of (hts _ (jls_in _ (List.mem_of_getElem? (i := 10) rfl))) (hev 3 (by decide))) (vk_R.of (hts _ (jls_in _ (List.mem_of_getElem? (i := 11) rfl))) (hev 4 (by decide))) (vk_R.of (hts _ (jls_in _ (List.mem_of_getElem? (i := 12) rfl))) (hev 5 (by decide)))
  · exact List.forall_mem_cons.mpr ⟨key _ _ (hts _ (jls_in _ (List.mem_of_getElem? (i := 13) rfl))), List.forall_mem_cons.mpr ⟨key _ _ (hts _ (jls_in _ (List.mem_of_getElem? (i := 14) rfl))), List.forall_mem_cons.mpr ⟨key _ _ (hts _ (jls_in _ (List.mem_of_getElem? (i := 15) rfl))), List.forall_mem_cons.mpr ⟨key _ _ (hts _ (jls_in _ (List.mem_of_getElem? (i := 16) rfl))), List.forall_mem_cons.mpr ⟨key _ _ (hts _ (jls_in _ (List.mem_of_getElem? (i := 17) rfl))), List.forall_mem_cons.mpr ⟨key _ _ (hts _ (jls_in _ (List.mem_of_getElem? (i := 18) rfl))), List.forall_mem_cons.mpr ⟨key _ _ (hts _ (jls_in _ (List.mem_of_getElem? (i := 19) rfl))), List.forall_mem_cons.mpr ⟨key _ _ (hts _ (jls_in _ (List.mem_of_getElem? (i := 20) rfl))), List.forall_mem_cons.mpr ⟨key _ _ (hts _ (jls_in _ (List.mem_of_getElem? (i := 21) rfl))), List.forall_mem_cons.mpr ⟨key _ _ (hts _ (jls_in _ (List.mem_of_getElem? (i := 22) rfl))), List.forall_mem_cons.mpr ⟨key _ _ (hts _ (jls_in _ (List.mem_of_getElem? (i := 23) rfl))), List.forall_mem_cons.mpr ⟨key _ _ (hts _ (jls_in _ (List.mem_of_getElem? (i := 24) rfl))), List.forall_mem_cons.mpr ⟨key _ _ (hts _ (jls_in _ (List.mem_of_getElem? (i := 25) rfl))), List.forall_mem_cons.mpr ⟨key _ _ (hts _ (jls_in _ (List.mem_of_getElem? (i := 26) rfl))), List.forall_mem_cons.mpr ⟨key _ _ (hts _ (jls_in _ (List.mem_of_getElem? (i := 27) rfl))), List.forall_mem_cons.mpr ⟨key _ _ (hts _ (jls_in _ (List.mem_of_getElem? (i := 28) rfl))), List.forall_mem_cons.mpr ⟨key _ _ (hts _ (jls_in _ (List.mem_of_getElem? (i := 29) rfl))), List.forall_mem_cons.mpr ⟨key _ _ (hts _ (jls_in _ (List.mem_of_getElem? (i := 30) rfl))), List.forall_mem_cons.mpr ⟨key _ _ (hts _ (jls_in _ (List.mem_of_getElem? (i := 31) rfl))), List.forall_mem_nil _⟩⟩⟩⟩⟩⟩⟩⟩⟩⟩⟩⟩⟩⟩⟩⟩⟩⟩⟩
