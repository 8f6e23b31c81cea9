theorem LwE.more {M : Nat → Nat → Int32} {N : Nat} (h : LwE M N) : LwE M (N + 1) := by
  obtain ⟨n, per, wk, dl, of, k, st, ln, tk, md, tm, hR, htm⟩ := h
  exact ⟨n, per, wk, dl, of, k, st, ln, tk, md, tm, hR, by omega⟩
theorem xr_room {L i N : Nat} (hi : i = 5 * N) (hiL : i ≤ L) (hL : L ≤ 2560) (hg : ¬ nI L - nI 5 < nI i) : i + 5 ≤ L := by
  by_cases h5 : 5 ≤ L
  · rw [pk_sub h5] at hg
    have h6 : ¬ L - 5 < i := fun q => hg ((nI_ltI (a := L - 5) (b := i) (by omega) (by omega)).mpr q)
    omega
  · exfalso
    have e : i = 0 := by omega
    subst e
    have h : L = 0 ∨ L = 1 ∨ L = 2 ∨ L = 3 ∨ L = 4 := by omega
    rcases h with rfl | rfl | rfl | rfl | rfl
    all_goals exact hg (by decide)
theorem xr_inc5 (i : Nat) : nI i + Int32.ofInt 5 = nI (i + 5) := by
  have e : Int32.ofInt 5 = nI 5 := by decide
  rw [e, nI_add]

set_option maxHeartbeats 4000000 in
set_option maxRecDepth 100000 in
theorem lw_loop {p : Program} {l : Launch} {e : Env} {s : State} {m : MethodId} {below : List Frame} {meth : Method} {c : Code} {Q : State → Prop} {D : va_G} {ca : Nat → ClassId} {ad : Nat → Nat} {sa : Nat → Nat} {b L : Nat} {xs : Nat → Int32} (H : LwC p l s m c D ca sa b L xs)
    (hend : ∀ (N i : Nat) (M : Nat → Nat → Int32), N ≤ 512 → XW p l e room_1 s m #[Value.ref b] below meth c D zCl (fun q => s.heap.size ≤ q) s.heap 7 (zW ca ad M) (57 + 4 * N) (1281 + 24 * N) Q 884 [(0, .ref b), (1, .ref (ad 0)), (2, .ref (ad 38)), (3, .ref (ad 56)), (4, .int (nI i))] []) :
    ∀ (d N i : Nat) (M : Nat → Nat → Int32), L - i = d → i = 5 * N → i ≤ L → LwE M N → XW p l e room_1 s m #[Value.ref b] below meth c D zCl (fun q => s.heap.size ≤ q) s.heap 7 (zW ca ad M) (57 + 4 * N) (1281 + 24 * N) Q 23 [(0, .ref b), (1, .ref (ad 0)), (2, .ref (ad 38)), (3, .ref (ad 56)), (4, .int (nI i))] [] := by
  intro d
  induction d using Nat.strongRecOn with
  | _ d ih =>
    intro N i M hd hi hiL hE
    have hH := H
    obtain ⟨C, hKL, hX, hbl, hl0, hL⟩ := H
    have hbA : ¬ s.heap.size ≤ b := by omega
    refine xw_iload C 4 d_Lw_law_23 rfl (pc' := 25) rfl ?_
    refine xw_aload_n C 0 d_Lw_law_25 rfl rfl (pc' := 26) rfl ?_
    refine xw_slen C hX hbl hbA d_Lw_law_26 (pc' := 27) rfl ?_
    refine xw_iconst C (v := nI 5) d_Lw_law_27 (by decide) (pc' := 28) rfl ?_
    refine xw_isub C d_Lw_law_28 (pc' := 29) rfl ?_
    refine xw_icmp_gt C (tgt := 884) d_Lw_law_29 (by decide) (pc' := 32) rfl (fun hg => ?_) (fun hg => ?_)
    · exact hend N i M (by omega)
    · have h5 : i + 5 ≤ L := xr_room hi hiL hL hg
      have next : ∀ M', LwE M' (N + 1) → XW p l e room_1 s m #[Value.ref b] below meth c D zCl (fun q => s.heap.size ≤ q) s.heap 7 (zW ca ad M') (57 + 4 * (N + 1)) (1281 + 24 * (N + 1)) Q 878 [(0, .ref b), (1, .ref (ad 0)), (2, .ref (ad 38)), (3, .ref (ad 56)), (4, .int (nI i))] [] := by
        intro M' hE'
        refine xw_iinc C 4 (v := nI (i + 5)) d_Lw_law_878 rfl (xr_inc5 i) (by decide) rfl (pc' := 881) rfl ?_
        refine xw_goto C (tgt := 23) d_Lw_law_881 (by decide) ?_
        refine xw_lv [1, 2, 3, 4, 0] rfl ?_
        exact ih (L - (i + 5)) (by omega) (N + 1) (i + 5) M' rfl (by omega) h5 hE'
      refine xw_aload_n C 0 d_Lw_law_32 rfl rfl (pc' := 33) rfl ?_
      refine xw_iload C 4 d_Lw_law_33 rfl (pc' := 35) rfl ?_
      refine xw_sld C hX hbl hbA i rfl (by omega) (by omega) d_Lw_law_35 (pc' := 36) rfl ?_
      refine xw_bipush C (v := nI 31) d_Lw_law_36 (by decide) (pc' := 38) rfl ?_
      refine xw_iand C d_Lw_law_38 (pc' := 39) rfl ?_
      refine xw_topi (y := nI (lowb 5 (xs i))) (lowb_5 _) ?_
      have hlt := lowb_lt 5 (xs i)
      generalize lowb 5 (xs i) = o9 at hlt ⊢
      have h9 : o9 = 0 ∨ o9 = 1 ∨ o9 = 2 ∨ o9 = 3 ∨ o9 = 4 ∨ o9 = 5 ∨ o9 = 6 ∨ o9 = 7 ∨ o9 = 8 ∨ o9 = 9 ∨ o9 = 10 ∨ o9 = 11 ∨ o9 = 12 ∨ o9 = 13 ∨ o9 = 14 ∨ o9 = 15 ∨ o9 = 16 ∨ 17 ≤ o9 := by omega
      rcases h9 with rfl | rfl | rfl | rfl | rfl | rfl | rfl | rfl | rfl | rfl | rfl | rfl | rfl | rfl | rfl | rfl | rfl | h9
      · refine xw_tableIn C (off := 81) (tgt := 120) d_Lw_law_39 (by decide) (by decide) (by decide) (by decide) ?_
        exact lw_c_load hH h5 (by omega) hE next
      · refine xw_tableIn C (off := 129) (tgt := 168) d_Lw_law_39 (by decide) (by decide) (by decide) (by decide) ?_
        exact lw_c_task hH h5 (by omega) hE next
      · refine xw_tableIn C (off := 221) (tgt := 260) d_Lw_law_39 (by decide) (by decide) (by decide) (by decide) ?_
        exact lw_c_entry hH h5 (by omega) hE next
      · refine xw_tableIn C (off := 269) (tgt := 308) d_Lw_law_39 (by decide) (by decide) (by decide) (by decide) ?_
        exact lw_c_clear hH h5 (by omega) hE next
      · refine xw_tableIn C (off := 293) (tgt := 332) d_Lw_law_39 (by decide) (by decide) (by decide) (by decide) ?_
        exact lw_c_round hH h5 (by omega) hE next
      · refine xw_tableIn C (off := 306) (tgt := 345) d_Lw_law_39 (by decide) (by decide) (by decide) (by decide) ?_
        exact lw_c_synthesize hH h5 (by omega) hE next
      · refine xw_tableIn C (off := 350) (tgt := 389) d_Lw_law_39 (by decide) (by decide) (by decide) (by decide) ?_
        exact lw_c_slot hH h5 (by omega) hE next
      · refine xw_tableIn C (off := 422) (tgt := 461) d_Lw_law_39 (by decide) (by decide) (by decide) (by decide) ?_
        exact lw_c_drop hH h5 (by omega) hE next
      · refine xw_tableIn C (off := 446) (tgt := 485) d_Lw_law_39 (by decide) (by decide) (by decide) (by decide) ?_
        exact lw_c_slots hH h5 (by omega) hE next
      · refine xw_tableIn C (off := 459) (tgt := 498) d_Lw_law_39 (by decide) (by decide) (by decide) (by decide) ?_
        exact lw_c_slotOf hH h5 (by omega) hE next
      · refine xw_tableIn C (off := 527) (tgt := 566) d_Lw_law_39 (by decide) (by decide) (by decide) (by decide) ?_
        exact lw_c_check hH h5 (by omega) hE next
      · refine xw_tableIn C (off := 578) (tgt := 617) d_Lw_law_39 (by decide) (by decide) (by decide) (by decide) ?_
        exact lw_c_stop hH h5 (by omega) hE next
      · refine xw_tableIn C (off := 602) (tgt := 641) d_Lw_law_39 (by decide) (by decide) (by decide) (by decide) ?_
        exact lw_c_tick hH h5 (by omega) hE next
      · refine xw_tableIn C (off := 646) (tgt := 685) d_Lw_law_39 (by decide) (by decide) (by decide) (by decide) ?_
        exact lw_c_ticks hH h5 (by omega) hE next
      · refine xw_tableIn C (off := 702) (tgt := 741) d_Lw_law_39 (by decide) (by decide) (by decide) (by decide) ?_
        exact lw_c_time hH h5 (by omega) hE next
      · refine xw_tableIn C (off := 715) (tgt := 754) d_Lw_law_39 (by decide) (by decide) (by decide) (by decide) ?_
        exact lw_c_count hH h5 (by omega) hE next
      · refine xw_tableIn C (off := 783) (tgt := 822) d_Lw_law_39 (by decide) (by decide) (by decide) (by decide) ?_
        exact lw_c_shared hH h5 (by omega) hE next
      · refine xw_tableOut C (tgt := 878) d_Lw_law_39 (Or.inr (by rw [nI_toInt (by omega)]; omega)) (by decide) ?_
        refine xw_widen (k := 57 + 4 * (N + 1)) (n := 1281 + 24 * (N + 1)) (by omega) (by omega) ?_
        exact next M hE.more

